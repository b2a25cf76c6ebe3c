theorem dX7_addTurn_51 : decode cX7_addTurn 51 = .ok (.iadd, 1) := by decide +kernel
theorem dX7_addTurn_52 : decode cX7_addTurn 52 = .ok (.putfield 34, 3) := by decide +kernel
theorem dX7_addTurn_55 : decode cX7_addTurn 55 = .ok (.aload_n 0, 1) := by decide +kernel
theorem dX7_addTurn_56 : decode cX7_addTurn 56 = .ok (.getfield 18, 3) := by decide +kernel
theorem dX7_addTurn_59 : decode cX7_addTurn 59 = .ok (.iload_n 1, 1) := by decide +kernel
theorem dX7_addTurn_60 : decode cX7_addTurn 60 = .ok (.bipush 6, 2) := by decide +kernel
theorem dX7_addTurn_62 : decode cX7_addTurn 62 = .ok (.imul, 1) := by decide +kernel
theorem dX7_addTurn_63 : decode cX7_addTurn 63 = .ok (.iload_n 2, 1) := by decide +kernel
theorem dX7_addTurn_64 : decode cX7_addTurn 64 = .ok (.iadd, 1) := by decide +kernel
theorem dX7_addTurn_65 : decode cX7_addTurn 65 = .ok (.dup2, 1) := by decide +kernel
theorem dX7_addTurn_66 : decode cX7_addTurn 66 = .ok (.iaload, 1) := by decide +kernel
theorem dX7_addTurn_67 : decode cX7_addTurn 67 = .ok (.iload_n 3, 1) := by decide +kernel
theorem dX7_addTurn_68 : decode cX7_addTurn 68 = .ok (.iadd, 1) := by decide +kernel
theorem dX7_addTurn_69 : decode cX7_addTurn 69 = .ok (.iastore, 1) := by decide +kernel
theorem dX7_addTurn_70 : decode cX7_addTurn 70 = .ok (.aload_n 0, 1) := by decide +kernel
theorem dX7_addTurn_71 : decode cX7_addTurn 71 = .ok (.getfield 18, 3) := by decide +kernel
theorem dX7_addTurn_74 : decode cX7_addTurn 74 = .ok (.iload_n 1, 1) := by decide +kernel
theorem dX7_addTurn_75 : decode cX7_addTurn 75 = .ok (.bipush 6, 2) := by decide +kernel
theorem dX7_addTurn_77 : decode cX7_addTurn 77 = .ok (.imul, 1) := by decide +kernel
theorem dX7_addTurn_78 : decode cX7_addTurn 78 = .ok (.iload_n 1, 1) := by decide +kernel
theorem dX7_addTurn_79 : decode cX7_addTurn 79 = .ok (.iadd, 1) := by decide +kernel
theorem dX7_addTurn_80 : decode cX7_addTurn 80 = .ok (.dup2, 1) := by decide +kernel
theorem dX7_addTurn_81 : decode cX7_addTurn 81 = .ok (.iaload, 1) := by decide +kernel
theorem dX7_addTurn_82 : decode cX7_addTurn 82 = .ok (.iload_n 3, 1) := by decide +kernel
theorem dX7_addTurn_83 : decode cX7_addTurn 83 = .ok (.isub, 1) := by decide +kernel
theorem dX7_addTurn_84 : decode cX7_addTurn 84 = .ok (.iastore, 1) := by decide +kernel
theorem dX7_addTurn_85 : decode cX7_addTurn 85 = .ok (.return_, 1) := by decide +kernel
set_option maxRecDepth 20000 in
theorem ggX7_addAim_X7_has : GoodIn wsX7_addAim wsX7_has := goodIn_r _ [8, 9, 10, 11, 12, 13, 14, 15, 16, 17] (by decide +kernel) (by decide +kernel)
set_option maxRecDepth 20000 in
theorem gX7_addAim_X7_has : GoodIn wsX7_addAim (wsV RX7 37 RX7 yX7_has wsX7_has) := goodIn_app (goodIn_of _ (by decide +kernel)) ggX7_addAim_X7_has
theorem dX7_addAim_0 : decode cX7_addAim 0 = .ok (.aload_n 0, 1) := by decide +kernel
theorem dX7_addAim_1 : decode cX7_addAim 1 = .ok (.iload_n 1, 1) := by decide +kernel
theorem dX7_addAim_2 : decode cX7_addAim 2 = .ok (.invokevirtual 37, 3) := by decide +kernel
theorem dX7_addAim_5 : decode cX7_addAim 5 = .ok (.ifCond .eq 13, 3) := by decide +kernel
theorem dX7_addAim_8 : decode cX7_addAim 8 = .ok (.iload_n 2, 1) := by decide +kernel
theorem dX7_addAim_9 : decode cX7_addAim 9 = .ok (.ifCond .lt 9, 3) := by decide +kernel
theorem dX7_addAim_12 : decode cX7_addAim 12 = .ok (.iload_n 2, 1) := by decide +kernel
theorem dX7_addAim_13 : decode cX7_addAim 13 = .ok (.bipush 8, 2) := by decide +kernel
theorem dX7_addAim_15 : decode cX7_addAim 15 = .ok (.if_icmp .lt 4, 3) := by decide +kernel
theorem dX7_addAim_18 : decode cX7_addAim 18 = .ok (.return_, 1) := by decide +kernel
theorem dX7_addAim_19 : decode cX7_addAim 19 = .ok (.aload_n 0, 1) := by decide +kernel
theorem dX7_addAim_20 : decode cX7_addAim 20 = .ok (.getfield 24, 3) := by decide +kernel
theorem dX7_addAim_23 : decode cX7_addAim 23 = .ok (.iload_n 1, 1) := by decide +kernel
theorem dX7_addAim_24 : decode cX7_addAim 24 = .ok (.iaload, 1) := by decide +kernel
theorem dX7_addAim_25 : decode cX7_addAim 25 = .ok (.istore 4, 2) := by decide +kernel
theorem dX7_addAim_27 : decode cX7_addAim 27 = .ok (.iload 4, 2) := by decide +kernel
theorem dX7_addAim_29 : decode cX7_addAim 29 = .ok (.ifCond .lt 64, 3) := by decide +kernel
theorem dX7_addAim_32 : decode cX7_addAim 32 = .ok (.iload 4, 2) := by decide +kernel
theorem dX7_addAim_34 : decode cX7_addAim 34 = .ok (.bipush 8, 2) := by decide +kernel
theorem dX7_addAim_36 : decode cX7_addAim 36 = .ok (.if_icmp .ge 57, 3) := by decide +kernel
theorem dX7_addAim_39 : decode cX7_addAim 39 = .ok (.aload_n 0, 1) := by decide +kernel
theorem dX7_addAim_40 : decode cX7_addAim 40 = .ok (.getfield 27, 3) := by decide +kernel
theorem dX7_addAim_43 : decode cX7_addAim 43 = .ok (.iload_n 1, 1) := by decide +kernel
theorem dX7_addAim_44 : decode cX7_addAim 44 = .ok (.bipush 8, 2) := by decide +kernel
theorem dX7_addAim_46 : decode cX7_addAim 46 = .ok (.imul, 1) := by decide +kernel
theorem dX7_addAim_47 : decode cX7_addAim 47 = .ok (.iload 4, 2) := by decide +kernel
theorem dX7_addAim_49 : decode cX7_addAim 49 = .ok (.iadd, 1) := by decide +kernel
theorem dX7_addAim_50 : decode cX7_addAim 50 = .ok (.iload_n 2, 1) := by decide +kernel
theorem dX7_addAim_51 : decode cX7_addAim 51 = .ok (.iastore, 1) := by decide +kernel
theorem dX7_addAim_52 : decode cX7_addAim 52 = .ok (.aload_n 0, 1) := by decide +kernel
theorem dX7_addAim_53 : decode cX7_addAim 53 = .ok (.getfield 24, 3) := by decide +kernel
theorem dX7_addAim_56 : decode cX7_addAim 56 = .ok (.iload_n 1, 1) := by decide +kernel
theorem dX7_addAim_57 : decode cX7_addAim 57 = .ok (.iload 4, 2) := by decide +kernel
theorem dX7_addAim_59 : decode cX7_addAim 59 = .ok (.iconst 1, 1) := by decide +kernel
theorem dX7_addAim_60 : decode cX7_addAim 60 = .ok (.iadd, 1) := by decide +kernel
theorem dX7_addAim_61 : decode cX7_addAim 61 = .ok (.iastore, 1) := by decide +kernel
theorem dX7_addAim_62 : decode cX7_addAim 62 = .ok (.aload_n 0, 1) := by decide +kernel
theorem dX7_addAim_63 : decode cX7_addAim 63 = .ok (.getfield 21, 3) := by decide +kernel
theorem dX7_addAim_66 : decode cX7_addAim 66 = .ok (.iload_n 1, 1) := by decide +kernel
theorem dX7_addAim_67 : decode cX7_addAim 67 = .ok (.bipush 9, 2) := by decide +kernel
theorem dX7_addAim_69 : decode cX7_addAim 69 = .ok (.imul, 1) := by decide +kernel
theorem dX7_addAim_70 : decode cX7_addAim 70 = .ok (.iload_n 2, 1) := by decide +kernel
theorem dX7_addAim_71 : decode cX7_addAim 71 = .ok (.iadd, 1) := by decide +kernel
theorem dX7_addAim_72 : decode cX7_addAim 72 = .ok (.dup2, 1) := by decide +kernel
theorem dX7_addAim_73 : decode cX7_addAim 73 = .ok (.iaload, 1) := by decide +kernel
theorem dX7_addAim_74 : decode cX7_addAim 74 = .ok (.iload_n 3, 1) := by decide +kernel
theorem dX7_addAim_75 : decode cX7_addAim 75 = .ok (.iadd, 1) := by decide +kernel
theorem dX7_addAim_76 : decode cX7_addAim 76 = .ok (.iastore, 1) := by decide +kernel
theorem dX7_addAim_77 : decode cX7_addAim 77 = .ok (.aload_n 0, 1) := by decide +kernel
theorem dX7_addAim_78 : decode cX7_addAim 78 = .ok (.getfield 21, 3) := by decide +kernel
theorem dX7_addAim_81 : decode cX7_addAim 81 = .ok (.iload_n 1, 1) := by decide +kernel
theorem dX7_addAim_82 : decode cX7_addAim 82 = .ok (.bipush 9, 2) := by decide +kernel
theorem dX7_addAim_84 : decode cX7_addAim 84 = .ok (.imul, 1) := by decide +kernel
theorem dX7_addAim_85 : decode cX7_addAim 85 = .ok (.bipush 8, 2) := by decide +kernel
theorem dX7_addAim_87 : decode cX7_addAim 87 = .ok (.iadd, 1) := by decide +kernel
theorem dX7_addAim_88 : decode cX7_addAim 88 = .ok (.dup2, 1) := by decide +kernel
theorem dX7_addAim_89 : decode cX7_addAim 89 = .ok (.iaload, 1) := by decide +kernel
theorem dX7_addAim_90 : decode cX7_addAim 90 = .ok (.iload_n 3, 1) := by decide +kernel
theorem dX7_addAim_91 : decode cX7_addAim 91 = .ok (.isub, 1) := by decide +kernel
theorem dX7_addAim_92 : decode cX7_addAim 92 = .ok (.iastore, 1) := by decide +kernel
theorem dX7_addAim_93 : decode cX7_addAim 93 = .ok (.return_, 1) := by decide +kernel
set_option maxRecDepth 20000 in
theorem ggX7_chooseWind_X7_followTenths : GoodIn wsX7_chooseWind wsX7_followTenths := goodIn_r _ [8, 9, 10, 11, 12, 13, 14, 15, 16, 17, 18] (by decide +kernel) (by decide +kernel)
set_option maxRecDepth 20000 in
theorem gX7_chooseWind_X7_followTenths : GoodIn wsX7_chooseWind (wsV RX7 41 RX7 yX7_followTenths wsX7_followTenths) := goodIn_app (goodIn_of _ (by decide +kernel)) ggX7_chooseWind_X7_followTenths
theorem dX7_chooseWind_0 : decode cX7_chooseWind 0 = .ok (.iload_n 2, 1) := by decide +kernel
theorem dX7_chooseWind_1 : decode cX7_chooseWind 1 = .ok (.istore_n 3, 1) := by decide +kernel
theorem dX7_chooseWind_2 : decode cX7_chooseWind 2 = .ok (.iconst 0, 1) := by decide +kernel
theorem dX7_chooseWind_3 : decode cX7_chooseWind 3 = .ok (.istore 4, 2) := by decide +kernel
theorem dX7_chooseWind_5 : decode cX7_chooseWind 5 = .ok (.iload 4, 2) := by decide +kernel
theorem dX7_chooseWind_7 : decode cX7_chooseWind 7 = .ok (.aload_n 0, 1) := by decide +kernel
theorem dX7_chooseWind_8 : decode cX7_chooseWind 8 = .ok (.getfield 34, 3) := by decide +kernel
theorem dX7_chooseWind_11 : decode cX7_chooseWind 11 = .ok (.if_icmp .ge 60, 3) := by decide +kernel
theorem dX7_chooseWind_14 : decode cX7_chooseWind 14 = .ok (.iload 4, 2) := by decide +kernel
theorem dX7_chooseWind_16 : decode cX7_chooseWind 16 = .ok (.bipush 30, 2) := by decide +kernel
theorem dX7_chooseWind_18 : decode cX7_chooseWind 18 = .ok (.if_icmp .ge 53, 3) := by decide +kernel
theorem dX7_chooseWind_21 : decode cX7_chooseWind 21 = .ok (.aload_n 0, 1) := by decide +kernel
theorem dX7_chooseWind_22 : decode cX7_chooseWind 22 = .ok (.getfield 9, 3) := by decide +kernel
theorem dX7_chooseWind_25 : decode cX7_chooseWind 25 = .ok (.iload 4, 2) := by decide +kernel
theorem dX7_chooseWind_27 : decode cX7_chooseWind 27 = .ok (.iaload, 1) := by decide +kernel
theorem dX7_chooseWind_28 : decode cX7_chooseWind 28 = .ok (.iload_n 1, 1) := by decide +kernel
theorem dX7_chooseWind_29 : decode cX7_chooseWind 29 = .ok (.if_icmp .ne 36, 3) := by decide +kernel
theorem dX7_chooseWind_32 : decode cX7_chooseWind 32 = .ok (.aload_n 0, 1) := by decide +kernel
theorem dX7_chooseWind_33 : decode cX7_chooseWind 33 = .ok (.iload_n 1, 1) := by decide +kernel
theorem dX7_chooseWind_34 : decode cX7_chooseWind 34 = .ok (.aload_n 0, 1) := by decide +kernel
theorem dX7_chooseWind_35 : decode cX7_chooseWind 35 = .ok (.getfield 15, 3) := by decide +kernel
theorem dX7_chooseWind_38 : decode cX7_chooseWind 38 = .ok (.iload 4, 2) := by decide +kernel
theorem dX7_chooseWind_40 : decode cX7_chooseWind 40 = .ok (.iaload, 1) := by decide +kernel
theorem dX7_chooseWind_41 : decode cX7_chooseWind 41 = .ok (.invokevirtual 41, 3) := by decide +kernel
theorem dX7_chooseWind_44 : decode cX7_chooseWind 44 = .ok (.istore 5, 2) := by decide +kernel
theorem dX7_chooseWind_46 : decode cX7_chooseWind 46 = .ok (.iload_n 3, 1) := by decide +kernel
theorem dX7_chooseWind_47 : decode cX7_chooseWind 47 = .ok (.iload 5, 2) := by decide +kernel
theorem dX7_chooseWind_49 : decode cX7_chooseWind 49 = .ok (.if_icmp .ge 11, 3) := by decide +kernel
theorem dX7_chooseWind_52 : decode cX7_chooseWind 52 = .ok (.aload_n 0, 1) := by decide +kernel
theorem dX7_chooseWind_53 : decode cX7_chooseWind 53 = .ok (.getfield 15, 3) := by decide +kernel
theorem dX7_chooseWind_56 : decode cX7_chooseWind 56 = .ok (.iload 4, 2) := by decide +kernel
theorem dX7_chooseWind_58 : decode cX7_chooseWind 58 = .ok (.iaload, 1) := by decide +kernel
theorem dX7_chooseWind_59 : decode cX7_chooseWind 59 = .ok (.ireturn, 1) := by decide +kernel
theorem dX7_chooseWind_60 : decode cX7_chooseWind 60 = .ok (.iload_n 3, 1) := by decide +kernel
theorem dX7_chooseWind_61 : decode cX7_chooseWind 61 = .ok (.iload 5, 2) := by decide +kernel
theorem dX7_chooseWind_63 : decode cX7_chooseWind 63 = .ok (.isub, 1) := by decide +kernel
theorem dX7_chooseWind_64 : decode cX7_chooseWind 64 = .ok (.istore_n 3, 1) := by decide +kernel
theorem dX7_chooseWind_65 : decode cX7_chooseWind 65 = .ok (.iinc 4 1, 3) := by decide +kernel
theorem dX7_chooseWind_68 : decode cX7_chooseWind 68 = .ok (.goto (-63), 3) := by decide +kernel
theorem dX7_chooseWind_71 : decode cX7_chooseWind 71 = .ok (.iload_n 1, 1) := by decide +kernel
theorem dX7_chooseWind_72 : decode cX7_chooseWind 72 = .ok (.ireturn, 1) := by decide +kernel
set_option maxRecDepth 20000 in
theorem ggX7_chooseRegion_X7_has : GoodIn wsX7_chooseRegion wsX7_has := goodIn_r _ [7, 8, 14, 15, 16, 17, 18, 19, 20, 21] (by decide +kernel) (by decide +kernel)
set_option maxRecDepth 20000 in
theorem gX7_chooseRegion_X7_has : GoodIn wsX7_chooseRegion (wsV RX7 37 RX7 yX7_has wsX7_has) := goodIn_app (goodIn_of _ (by decide +kernel)) ggX7_chooseRegion_X7_has
set_option maxRecDepth 20000 in
theorem ggX7_chooseRegion_X7_landTenths : GoodIn wsX7_chooseRegion wsX7_landTenths := goodIn_r _ [12, 8, 13, 14, 15, 16, 17, 18, 19, 20, 21] (by decide +kernel) (by decide +kernel)
set_option maxRecDepth 20000 in
theorem gX7_chooseRegion_X7_landTenths : GoodIn wsX7_chooseRegion (wsV RX7 45 RX7 yX7_landTenths wsX7_landTenths) := goodIn_app (goodIn_of _ (by decide +kernel)) ggX7_chooseRegion_X7_landTenths
theorem dX7_chooseRegion_0 : decode cX7_chooseRegion 0 = .ok (.aload_n 0, 1) := by decide +kernel
theorem dX7_chooseRegion_1 : decode cX7_chooseRegion 1 = .ok (.iload_n 1, 1) := by decide +kernel
theorem dX7_chooseRegion_2 : decode cX7_chooseRegion 2 = .ok (.invokevirtual 37, 3) := by decide +kernel
theorem dX7_chooseRegion_5 : decode cX7_chooseRegion 5 = .ok (.ifCond .ne 6, 3) := by decide +kernel
theorem dX7_chooseRegion_8 : decode cX7_chooseRegion 8 = .ok (.bipush (-2), 2) := by decide +kernel
theorem dX7_chooseRegion_10 : decode cX7_chooseRegion 10 = .ok (.ireturn, 1) := by decide +kernel
theorem dX7_chooseRegion_11 : decode cX7_chooseRegion 11 = .ok (.iload_n 2, 1) := by decide +kernel
theorem dX7_chooseRegion_12 : decode cX7_chooseRegion 12 = .ok (.istore_n 3, 1) := by decide +kernel
theorem dX7_chooseRegion_13 : decode cX7_chooseRegion 13 = .ok (.iconst 0, 1) := by decide +kernel
theorem dX7_chooseRegion_14 : decode cX7_chooseRegion 14 = .ok (.istore 4, 2) := by decide +kernel
theorem dX7_chooseRegion_16 : decode cX7_chooseRegion 16 = .ok (.iload 4, 2) := by decide +kernel
theorem dX7_chooseRegion_18 : decode cX7_chooseRegion 18 = .ok (.aload_n 0, 1) := by decide +kernel
theorem dX7_chooseRegion_19 : decode cX7_chooseRegion 19 = .ok (.getfield 24, 3) := by decide +kernel
theorem dX7_chooseRegion_22 : decode cX7_chooseRegion 22 = .ok (.iload_n 1, 1) := by decide +kernel
theorem dX7_chooseRegion_23 : decode cX7_chooseRegion 23 = .ok (.iaload, 1) := by decide +kernel
theorem dX7_chooseRegion_24 : decode cX7_chooseRegion 24 = .ok (.if_icmp .ge 53, 3) := by decide +kernel
theorem dX7_chooseRegion_27 : decode cX7_chooseRegion 27 = .ok (.iload 4, 2) := by decide +kernel
theorem dX7_chooseRegion_29 : decode cX7_chooseRegion 29 = .ok (.bipush 8, 2) := by decide +kernel
theorem dX7_chooseRegion_31 : decode cX7_chooseRegion 31 = .ok (.if_icmp .ge 46, 3) := by decide +kernel
theorem dX7_chooseRegion_34 : decode cX7_chooseRegion 34 = .ok (.aload_n 0, 1) := by decide +kernel
theorem dX7_chooseRegion_35 : decode cX7_chooseRegion 35 = .ok (.getfield 27, 3) := by decide +kernel
theorem dX7_chooseRegion_38 : decode cX7_chooseRegion 38 = .ok (.iload_n 1, 1) := by decide +kernel
theorem dX7_chooseRegion_39 : decode cX7_chooseRegion 39 = .ok (.bipush 8, 2) := by decide +kernel
theorem dX7_chooseRegion_41 : decode cX7_chooseRegion 41 = .ok (.imul, 1) := by decide +kernel
theorem dX7_chooseRegion_42 : decode cX7_chooseRegion 42 = .ok (.iload 4, 2) := by decide +kernel
theorem dX7_chooseRegion_44 : decode cX7_chooseRegion 44 = .ok (.iadd, 1) := by decide +kernel
theorem dX7_chooseRegion_45 : decode cX7_chooseRegion 45 = .ok (.iaload, 1) := by decide +kernel
theorem dX7_chooseRegion_46 : decode cX7_chooseRegion 46 = .ok (.istore 5, 2) := by decide +kernel
theorem dX7_chooseRegion_48 : decode cX7_chooseRegion 48 = .ok (.aload_n 0, 1) := by decide +kernel
theorem dX7_chooseRegion_49 : decode cX7_chooseRegion 49 = .ok (.iload_n 1, 1) := by decide +kernel
theorem dX7_chooseRegion_50 : decode cX7_chooseRegion 50 = .ok (.iload 5, 2) := by decide +kernel
theorem dX7_chooseRegion_52 : decode cX7_chooseRegion 52 = .ok (.invokevirtual 45, 3) := by decide +kernel
theorem dX7_chooseRegion_55 : decode cX7_chooseRegion 55 = .ok (.istore 6, 2) := by decide +kernel
theorem dX7_chooseRegion_57 : decode cX7_chooseRegion 57 = .ok (.iload_n 3, 1) := by decide +kernel
theorem dX7_chooseRegion_58 : decode cX7_chooseRegion 58 = .ok (.iload 6, 2) := by decide +kernel
theorem dX7_chooseRegion_60 : decode cX7_chooseRegion 60 = .ok (.if_icmp .ge 6, 3) := by decide +kernel
theorem dX7_chooseRegion_63 : decode cX7_chooseRegion 63 = .ok (.iload 5, 2) := by decide +kernel
theorem dX7_chooseRegion_65 : decode cX7_chooseRegion 65 = .ok (.ireturn, 1) := by decide +kernel
theorem dX7_chooseRegion_66 : decode cX7_chooseRegion 66 = .ok (.iload_n 3, 1) := by decide +kernel
theorem dX7_chooseRegion_67 : decode cX7_chooseRegion 67 = .ok (.iload 6, 2) := by decide +kernel
theorem dX7_chooseRegion_69 : decode cX7_chooseRegion 69 = .ok (.isub, 1) := by decide +kernel
theorem dX7_chooseRegion_70 : decode cX7_chooseRegion 70 = .ok (.istore_n 3, 1) := by decide +kernel
theorem dX7_chooseRegion_71 : decode cX7_chooseRegion 71 = .ok (.iinc 4 1, 3) := by decide +kernel
theorem dX7_chooseRegion_74 : decode cX7_chooseRegion 74 = .ok (.goto (-58), 3) := by decide +kernel
theorem dX7_chooseRegion_77 : decode cX7_chooseRegion 77 = .ok (.bipush (-2), 2) := by decide +kernel
theorem dX7_chooseRegion_79 : decode cX7_chooseRegion 79 = .ok (.ireturn, 1) := by decide +kernel
set_option maxRecDepth 20000 in
theorem ggX8_init_X4_init : GoodIn wsX8_init wsX4_init := goodIn_r _ [37, 38, 2, 3, 4, 39, 139, 140, 141, 142, 143, 144, 145, 146, 147, 148] (by decide +kernel) (by decide +kernel)
set_option maxRecDepth 20000 in
theorem gX8_init_X4_init_n15 : GoodIn wsX8_init (wsX4_init) := ggX8_init_X4_init
set_option maxRecDepth 20000 in
theorem ggX8_init_X0_init : GoodIn wsX8_init wsX0_init := goodIn_r _ [41, 42, 2, 3, 43, 44, 45, 149, 150] (by decide +kernel) (by decide +kernel)
set_option maxRecDepth 20000 in
theorem gX8_init_X0_init_n22 : GoodIn wsX8_init (wsX0_init) := ggX8_init_X0_init
set_option maxRecDepth 20000 in
theorem ggX8_init_X3_init : GoodIn wsX8_init wsX3_init := goodIn_r _ [47, 48, 2, 3, 43, 49, 50, 51, 52, 151, 152, 153, 154, 155, 156] (by decide +kernel) (by decide +kernel)
set_option maxRecDepth 20000 in
theorem gX8_init_X3_init_n29 : GoodIn wsX8_init (wsX3_init) := ggX8_init_X3_init
set_option maxRecDepth 20000 in
theorem ggX8_init_X2_init : GoodIn wsX8_init wsX2_init := goodIn_r _ [54, 55, 2, 3, 43, 56, 157] (by decide +kernel) (by decide +kernel)
set_option maxRecDepth 20000 in
theorem gX8_init_X2_init_n36 : GoodIn wsX8_init (wsX2_init) := ggX8_init_X2_init
set_option maxRecDepth 20000 in
theorem ggX8_init_X6_init : GoodIn wsX8_init wsX6_init := goodIn_r _ [58, 59, 2, 3, 60, 61, 62, 63, 51, 64, 65, 66, 67, 68, 69, 70, 71, 72, 73, 74, 75, 76, 77, 78, 187, 188, 189, 190, 158, 159, 160, 161, 162, 163, 164, 165, 166, 167, 168, 169, 170, 171, 172] (by decide +kernel) (by decide +kernel)
set_option maxRecDepth 20000 in
theorem gX8_init_X6_init_n43 : GoodIn wsX8_init (wsX6_init) := ggX8_init_X6_init
set_option maxRecDepth 20000 in
theorem ggX8_init_X5_init : GoodIn wsX8_init wsX5_init := goodIn_r _ [80, 81, 2, 3, 82, 83, 84, 85, 51, 86, 87, 88, 89, 90, 91, 92, 93, 94, 95, 96, 97, 98, 99, 100, 101, 102, 103, 191, 192, 193, 194, 195, 196, 197, 198, 173, 174, 175, 176, 177, 178, 179, 180, 181, 182, 183, 184, 185, 186] (by decide +kernel) (by decide +kernel)
set_option maxRecDepth 20000 in
theorem gX8_init_X5_init_n65 : GoodIn wsX8_init (wsX5_init) := ggX8_init_X5_init
set_option maxRecDepth 20000 in
theorem ggX8_init_X6_begin : GoodIn wsX8_init wsX6_begin := goodIn_r _ [107, 63, 108, 64, 65, 66, 67, 109, 68, 70, 71, 110, 111, 112, 113, 114, 69, 115, 116, 117, 118, 119, 120, 121, 122, 123, 158, 159, 160, 161, 162, 163, 164, 165, 166, 167, 168, 169, 170, 171, 172, 187, 188, 189, 190, 173, 174, 175, 176, 177, 178, 179, 180, 181, 182, 183, 184, 185, 186, 191, 192, 193, 194, 195, 196, 197, 198] (by decide +kernel) (by decide +kernel)
set_option maxRecDepth 20000 in
theorem gX8_init_X6_begin : GoodIn wsX8_init (wsV RX8 73 RX6 yX6_begin wsX6_begin) := goodIn_app (goodIn_of _ (by decide +kernel)) ggX8_init_X6_begin
theorem dX8_init_0 : decode cX8_init 0 = .ok (.aload_n 0, 1) := by decide +kernel
theorem dX8_init_1 : decode cX8_init 1 = .ok (.invokespecial 3, 3) := by decide +kernel
theorem dX8_init_4 : decode cX8_init 4 = .ok (.aload_n 0, 1) := by decide +kernel
theorem dX8_init_5 : decode cX8_init 5 = .ok (.sipush 900, 3) := by decide +kernel
theorem dX8_init_8 : decode cX8_init 8 = .ok (.newarray .byte, 2) := by decide +kernel
theorem dX8_init_10 : decode cX8_init 10 = .ok (.putfield 9, 3) := by decide +kernel
theorem dX8_init_13 : decode cX8_init 13 = .ok (.aload_n 0, 1) := by decide +kernel
theorem dX8_init_14 : decode cX8_init 14 = .ok (.new 13, 3) := by decide +kernel
theorem dX8_init_17 : decode cX8_init 17 = .ok (.dup, 1) := by decide +kernel
theorem dX8_init_18 : decode cX8_init 18 = .ok (.invokespecial 15, 3) := by decide +kernel
theorem dX8_init_21 : decode cX8_init 21 = .ok (.putfield 16, 3) := by decide +kernel
theorem dX8_init_24 : decode cX8_init 24 = .ok (.aload_n 0, 1) := by decide +kernel
theorem dX8_init_25 : decode cX8_init 25 = .ok (.new 20, 3) := by decide +kernel
theorem dX8_init_28 : decode cX8_init 28 = .ok (.dup, 1) := by decide +kernel
theorem dX8_init_29 : decode cX8_init 29 = .ok (.invokespecial 22, 3) := by decide +kernel
theorem dX8_init_32 : decode cX8_init 32 = .ok (.putfield 23, 3) := by decide +kernel
theorem dX8_init_35 : decode cX8_init 35 = .ok (.aload_n 0, 1) := by decide +kernel
theorem dX8_init_36 : decode cX8_init 36 = .ok (.new 27, 3) := by decide +kernel
theorem dX8_init_39 : decode cX8_init 39 = .ok (.dup, 1) := by decide +kernel
theorem dX8_init_40 : decode cX8_init 40 = .ok (.invokespecial 29, 3) := by decide +kernel
theorem dX8_init_43 : decode cX8_init 43 = .ok (.putfield 30, 3) := by decide +kernel
theorem dX8_init_46 : decode cX8_init 46 = .ok (.aload_n 0, 1) := by decide +kernel
theorem dX8_init_47 : decode cX8_init 47 = .ok (.new 34, 3) := by decide +kernel
theorem dX8_init_50 : decode cX8_init 50 = .ok (.dup, 1) := by decide +kernel
theorem dX8_init_51 : decode cX8_init 51 = .ok (.invokespecial 36, 3) := by decide +kernel
theorem dX8_init_54 : decode cX8_init 54 = .ok (.putfield 37, 3) := by decide +kernel
theorem dX8_init_57 : decode cX8_init 57 = .ok (.aload_n 0, 1) := by decide +kernel
theorem dX8_init_58 : decode cX8_init 58 = .ok (.new 41, 3) := by decide +kernel
theorem dX8_init_61 : decode cX8_init 61 = .ok (.dup, 1) := by decide +kernel
theorem dX8_init_62 : decode cX8_init 62 = .ok (.invokespecial 43, 3) := by decide +kernel
theorem dX8_init_65 : decode cX8_init 65 = .ok (.putfield 44, 3) := by decide +kernel
theorem dX8_init_68 : decode cX8_init 68 = .ok (.aload_n 0, 1) := by decide +kernel
theorem dX8_init_69 : decode cX8_init 69 = .ok (.bipush 12, 2) := by decide +kernel
theorem dX8_init_71 : decode cX8_init 71 = .ok (.anewarray 41, 3) := by decide +kernel
theorem dX8_init_74 : decode cX8_init 74 = .ok (.putfield 48, 3) := by decide +kernel
theorem dX8_init_77 : decode cX8_init 77 = .ok (.aload_n 0, 1) := by decide +kernel
theorem dX8_init_78 : decode cX8_init 78 = .ok (.iconst 2, 1) := by decide +kernel
theorem dX8_init_79 : decode cX8_init 79 = .ok (.anewarray 41, 3) := by decide +kernel
theorem dX8_init_82 : decode cX8_init 82 = .ok (.putfield 52, 3) := by decide +kernel
theorem dX8_init_85 : decode cX8_init 85 = .ok (.aload_n 0, 1) := by decide +kernel
theorem dX8_init_86 : decode cX8_init 86 = .ok (.iconst 2, 1) := by decide +kernel
theorem dX8_init_87 : decode cX8_init 87 = .ok (.newarray .boolean, 2) := by decide +kernel
theorem dX8_init_89 : decode cX8_init 89 = .ok (.putfield 55, 3) := by decide +kernel
theorem dX8_init_92 : decode cX8_init 92 = .ok (.aload_n 0, 1) := by decide +kernel
theorem dX8_init_93 : decode cX8_init 93 = .ok (.bipush (-2), 2) := by decide +kernel
theorem dX8_init_95 : decode cX8_init 95 = .ok (.putfield 59, 3) := by decide +kernel
theorem dX8_init_98 : decode cX8_init 98 = .ok (.aload_n 0, 1) := by decide +kernel
theorem dX8_init_99 : decode cX8_init 99 = .ok (.new 63, 3) := by decide +kernel
theorem dX8_init_102 : decode cX8_init 102 = .ok (.dup, 1) := by decide +kernel
theorem dX8_init_103 : decode cX8_init 103 = .ok (.invokespecial 65, 3) := by decide +kernel
theorem dX8_init_106 : decode cX8_init 106 = .ok (.putfield 66, 3) := by decide +kernel
theorem dX8_init_109 : decode cX8_init 109 = .ok (.aload_n 0, 1) := by decide +kernel
theorem dX8_init_110 : decode cX8_init 110 = .ok (.new 63, 3) := by decide +kernel
theorem dX8_init_113 : decode cX8_init 113 = .ok (.dup, 1) := by decide +kernel
theorem dX8_init_114 : decode cX8_init 114 = .ok (.invokespecial 65, 3) := by decide +kernel
theorem dX8_init_117 : decode cX8_init 117 = .ok (.putfield 70, 3) := by decide +kernel
theorem dX8_init_120 : decode cX8_init 120 = .ok (.iconst 0, 1) := by decide +kernel
theorem dX8_init_121 : decode cX8_init 121 = .ok (.istore_n 1, 1) := by decide +kernel
theorem dX8_init_122 : decode cX8_init 122 = .ok (.iload_n 1, 1) := by decide +kernel
theorem dX8_init_123 : decode cX8_init 123 = .ok (.aload_n 0, 1) := by decide +kernel
theorem dX8_init_124 : decode cX8_init 124 = .ok (.getfield 48, 3) := by decide +kernel
theorem dX8_init_127 : decode cX8_init 127 = .ok (.arraylength, 1) := by decide +kernel
theorem dX8_init_128 : decode cX8_init 128 = .ok (.if_icmp .ge 22, 3) := by decide +kernel
theorem dX8_init_131 : decode cX8_init 131 = .ok (.aload_n 0, 1) := by decide +kernel
theorem dX8_init_132 : decode cX8_init 132 = .ok (.getfield 48, 3) := by decide +kernel
theorem dX8_init_135 : decode cX8_init 135 = .ok (.iload_n 1, 1) := by decide +kernel
theorem dX8_init_136 : decode cX8_init 136 = .ok (.new 41, 3) := by decide +kernel
theorem dX8_init_139 : decode cX8_init 139 = .ok (.dup, 1) := by decide +kernel
theorem dX8_init_140 : decode cX8_init 140 = .ok (.invokespecial 43, 3) := by decide +kernel
theorem dX8_init_143 : decode cX8_init 143 = .ok (.aastore, 1) := by decide +kernel
theorem dX8_init_144 : decode cX8_init 144 = .ok (.iinc 1 1, 3) := by decide +kernel
theorem dX8_init_147 : decode cX8_init 147 = .ok (.goto (-25), 3) := by decide +kernel
theorem dX8_init_150 : decode cX8_init 150 = .ok (.iconst 0, 1) := by decide +kernel
theorem dX8_init_151 : decode cX8_init 151 = .ok (.istore_n 1, 1) := by decide +kernel
theorem dX8_init_152 : decode cX8_init 152 = .ok (.iload_n 1, 1) := by decide +kernel
theorem dX8_init_153 : decode cX8_init 153 = .ok (.aload_n 0, 1) := by decide +kernel
theorem dX8_init_154 : decode cX8_init 154 = .ok (.getfield 52, 3) := by decide +kernel
theorem dX8_init_157 : decode cX8_init 157 = .ok (.arraylength, 1) := by decide +kernel
theorem dX8_init_158 : decode cX8_init 158 = .ok (.if_icmp .ge 22, 3) := by decide +kernel
theorem dX8_init_161 : decode cX8_init 161 = .ok (.aload_n 0, 1) := by decide +kernel
theorem dX8_init_162 : decode cX8_init 162 = .ok (.getfield 52, 3) := by decide +kernel
theorem dX8_init_165 : decode cX8_init 165 = .ok (.iload_n 1, 1) := by decide +kernel
theorem dX8_init_166 : decode cX8_init 166 = .ok (.new 41, 3) := by decide +kernel
theorem dX8_init_169 : decode cX8_init 169 = .ok (.dup, 1) := by decide +kernel
theorem dX8_init_170 : decode cX8_init 170 = .ok (.invokespecial 43, 3) := by decide +kernel
theorem dX8_init_173 : decode cX8_init 173 = .ok (.aastore, 1) := by decide +kernel
theorem dX8_init_174 : decode cX8_init 174 = .ok (.iinc 1 1, 3) := by decide +kernel
theorem dX8_init_177 : decode cX8_init 177 = .ok (.goto (-25), 3) := by decide +kernel
theorem dX8_init_180 : decode cX8_init 180 = .ok (.aload_n 0, 1) := by decide +kernel
theorem dX8_init_181 : decode cX8_init 181 = .ok (.getfield 44, 3) := by decide +kernel
theorem dX8_init_184 : decode cX8_init 184 = .ok (.aload_n 0, 1) := by decide +kernel
theorem dX8_init_185 : decode cX8_init 185 = .ok (.getfield 66, 3) := by decide +kernel
theorem dX8_init_188 : decode cX8_init 188 = .ok (.invokevirtual 73, 3) := by decide +kernel
theorem dX8_init_191 : decode cX8_init 191 = .ok (.return_, 1) := by decide +kernel
set_option maxRecDepth 20000 in
theorem ggX8_append_X8_appendBytes : GoodIn wsX8_append wsX8_appendBytes := goodIn_r _ [6, 1, 7, 8, 9, 10, 11, 12, 13, 14, 15, 16, 17, 18, 19, 20, 21, 22] (by decide +kernel) (by decide +kernel)
set_option maxRecDepth 20000 in
theorem gX8_append_X8_appendBytes : GoodIn wsX8_append (wsV RX8 80 RX8 yX8_appendBytes wsX8_appendBytes) := goodIn_app (goodIn_of _ (by decide +kernel)) ggX8_append_X8_appendBytes
theorem dX8_append_0 : decode cX8_append 0 = .ok (.aload_n 0, 1) := by decide +kernel
theorem dX8_append_1 : decode cX8_append 1 = .ok (.getfield 77, 3) := by decide +kernel
theorem dX8_append_4 : decode cX8_append 4 = .ok (.sipush 880, 3) := by decide +kernel
theorem dX8_append_7 : decode cX8_append 7 = .ok (.if_icmp .le 5, 3) := by decide +kernel
theorem dX8_append_10 : decode cX8_append 10 = .ok (.iconst (-1), 1) := by decide +kernel
theorem dX8_append_11 : decode cX8_append 11 = .ok (.ireturn, 1) := by decide +kernel
theorem dX8_append_12 : decode cX8_append 12 = .ok (.aload_n 0, 1) := by decide +kernel
theorem dX8_append_13 : decode cX8_append 13 = .ok (.iload_n 1, 1) := by decide +kernel
theorem dX8_append_14 : decode cX8_append 14 = .ok (.invokevirtual 80, 3) := by decide +kernel
theorem dX8_append_17 : decode cX8_append 17 = .ok (.aload_n 0, 1) := by decide +kernel
theorem dX8_append_18 : decode cX8_append 18 = .ok (.iload_n 2, 1) := by decide +kernel
theorem dX8_append_19 : decode cX8_append 19 = .ok (.invokevirtual 80, 3) := by decide +kernel
theorem dX8_append_22 : decode cX8_append 22 = .ok (.aload_n 0, 1) := by decide +kernel
theorem dX8_append_23 : decode cX8_append 23 = .ok (.iload_n 3, 1) := by decide +kernel
theorem dX8_append_24 : decode cX8_append 24 = .ok (.invokevirtual 80, 3) := by decide +kernel
theorem dX8_append_27 : decode cX8_append 27 = .ok (.aload_n 0, 1) := by decide +kernel
theorem dX8_append_28 : decode cX8_append 28 = .ok (.iload 4, 2) := by decide +kernel
theorem dX8_append_30 : decode cX8_append 30 = .ok (.invokevirtual 80, 3) := by decide +kernel
theorem dX8_append_33 : decode cX8_append 33 = .ok (.aload_n 0, 1) := by decide +kernel
theorem dX8_append_34 : decode cX8_append 34 = .ok (.iload 5, 2) := by decide +kernel
theorem dX8_append_36 : decode cX8_append 36 = .ok (.invokevirtual 80, 3) := by decide +kernel
theorem dX8_append_39 : decode cX8_append 39 = .ok (.aload_n 0, 1) := by decide +kernel
theorem dX8_append_40 : decode cX8_append 40 = .ok (.getfield 77, 3) := by decide +kernel
theorem dX8_append_43 : decode cX8_append 43 = .ok (.ireturn, 1) := by decide +kernel
theorem dX8_appendBytes_0 : decode cX8_appendBytes 0 = .ok (.bipush 24, 2) := by decide +kernel
theorem dX8_appendBytes_2 : decode cX8_appendBytes 2 = .ok (.istore_n 2, 1) := by decide +kernel
theorem dX8_appendBytes_3 : decode cX8_appendBytes 3 = .ok (.iload_n 2, 1) := by decide +kernel
theorem dX8_appendBytes_4 : decode cX8_appendBytes 4 = .ok (.ifCond .lt 51, 3) := by decide +kernel
theorem dX8_appendBytes_7 : decode cX8_appendBytes 7 = .ok (.aload_n 0, 1) := by decide +kernel
theorem dX8_appendBytes_8 : decode cX8_appendBytes 8 = .ok (.getfield 77, 3) := by decide +kernel
theorem dX8_appendBytes_11 : decode cX8_appendBytes 11 = .ok (.ifCond .lt 38, 3) := by decide +kernel
theorem dX8_appendBytes_14 : decode cX8_appendBytes 14 = .ok (.aload_n 0, 1) := by decide +kernel
theorem dX8_appendBytes_15 : decode cX8_appendBytes 15 = .ok (.getfield 77, 3) := by decide +kernel
theorem dX8_appendBytes_18 : decode cX8_appendBytes 18 = .ok (.aload_n 0, 1) := by decide +kernel
theorem dX8_appendBytes_19 : decode cX8_appendBytes 19 = .ok (.getfield 9, 3) := by decide +kernel
theorem dX8_appendBytes_22 : decode cX8_appendBytes 22 = .ok (.arraylength, 1) := by decide +kernel
theorem dX8_appendBytes_23 : decode cX8_appendBytes 23 = .ok (.if_icmp .ge 26, 3) := by decide +kernel
theorem dX8_appendBytes_26 : decode cX8_appendBytes 26 = .ok (.aload_n 0, 1) := by decide +kernel
theorem dX8_appendBytes_27 : decode cX8_appendBytes 27 = .ok (.getfield 9, 3) := by decide +kernel
theorem dX8_appendBytes_30 : decode cX8_appendBytes 30 = .ok (.aload_n 0, 1) := by decide +kernel
theorem dX8_appendBytes_31 : decode cX8_appendBytes 31 = .ok (.getfield 77, 3) := by decide +kernel
theorem dX8_appendBytes_34 : decode cX8_appendBytes 34 = .ok (.iload_n 1, 1) := by decide +kernel
theorem dX8_appendBytes_35 : decode cX8_appendBytes 35 = .ok (.iload_n 2, 1) := by decide +kernel
theorem dX8_appendBytes_36 : decode cX8_appendBytes 36 = .ok (.ishr, 1) := by decide +kernel
theorem dX8_appendBytes_37 : decode cX8_appendBytes 37 = .ok (.i2b, 1) := by decide +kernel
theorem dX8_appendBytes_38 : decode cX8_appendBytes 38 = .ok (.bastore, 1) := by decide +kernel
theorem dX8_appendBytes_39 : decode cX8_appendBytes 39 = .ok (.aload_n 0, 1) := by decide +kernel
theorem dX8_appendBytes_40 : decode cX8_appendBytes 40 = .ok (.dup, 1) := by decide +kernel
theorem dX8_appendBytes_41 : decode cX8_appendBytes 41 = .ok (.getfield 77, 3) := by decide +kernel
theorem dX8_appendBytes_44 : decode cX8_appendBytes 44 = .ok (.iconst 1, 1) := by decide +kernel
theorem dX8_appendBytes_45 : decode cX8_appendBytes 45 = .ok (.iadd, 1) := by decide +kernel
theorem dX8_appendBytes_46 : decode cX8_appendBytes 46 = .ok (.putfield 77, 3) := by decide +kernel
theorem dX8_appendBytes_49 : decode cX8_appendBytes 49 = .ok (.iinc 2 (-8), 3) := by decide +kernel
theorem dX8_appendBytes_52 : decode cX8_appendBytes 52 = .ok (.goto (-49), 3) := by decide +kernel
theorem dX8_appendBytes_55 : decode cX8_appendBytes 55 = .ok (.return_, 1) := by decide +kernel
set_option maxRecDepth 20000 in
theorem ggX8_parse_X4_read : GoodIn wsX8_parse wsX4_read := goodIn_r _ [11, 12, 13, 14, 15, 16, 17, 18, 19, 20, 21, 22, 23, 24, 25, 26, 27, 28, 29, 30, 31, 32, 33, 34, 35, 36, 37, 38, 39, 40, 41, 42, 43, 44, 45, 10, 46, 47, 48, 49, 50, 51, 52, 53, 54, 55, 56, 57, 58, 59, 60, 61, 62, 63, 64, 65, 66, 67, 68, 69, 70, 71, 72, 73, 74, 75, 76, 77, 78, 79, 80, 81, 82, 83, 84, 85, 86, 87, 88, 89, 90, 91, 92, 93, 94, 95, 96, 97, 98, 99, 100, 101, 102, 103, 104, 105, 106, 107, 108, 109, 110, 111, 112, 113, 114, 115, 116, 117, 118, 119, 120, 121, 122, 123, 124, 125, 126, 127, 128, 129, 130, 131, 132, 133, 134, 135, 136, 137, 138, 139, 140, 141, 142, 143, 144, 145, 146, 147, 148, 149, 150, 151, 152, 153, 154, 155, 156, 157, 158, 159, 160, 161, 162, 163, 164, 165, 166, 167, 168, 169, 170, 171, 172, 173, 174, 175, 176, 177, 178, 179, 180, 181, 182, 183, 184, 185, 186, 187, 188, 189, 190, 191, 192, 193, 194, 195, 196, 197, 198, 199, 200, 201, 202, 203, 204, 205, 206, 207, 208, 209, 210, 211, 212, 213, 214, 215, 216, 217, 218, 219, 220, 221, 222, 223, 285, 286, 287, 288, 289, 290, 291, 292, 293, 294, 295, 296, 297, 298, 299, 300, 301, 302, 303, 304, 305, 306, 307, 308, 309, 310, 311, 312, 313, 314, 315, 316] (by decide +kernel) (by decide +kernel)
set_option maxRecDepth 20000 in
theorem gX8_parse_X4_read : GoodIn wsX8_parse (wsV RX8 84 RX4 yX4_read wsX4_read) := goodIn_app (goodIn_of _ (by decide +kernel)) ggX8_parse_X4_read
set_option maxRecDepth 20000 in
theorem ggX8_parse_X8_replaceSiege : GoodIn wsX8_parse wsX8_replaceSiege := goodIn_r _ [228, 229, 4, 230, 231, 232, 233, 234, 235, 236, 237, 238, 239, 240, 241, 242, 243, 244, 245, 246, 247, 248, 249, 250, 251, 252, 253, 254, 255, 256, 257, 258, 259, 260, 261, 262, 263, 264, 265, 266, 267, 268, 269, 270, 271, 272, 273, 274, 275, 276, 277, 278, 279, 280, 281, 282, 283, 284, 317, 318, 319, 320, 321, 322, 323, 324, 325, 326, 327, 328, 329, 330, 331, 332, 333, 334, 335, 295, 296, 297, 298, 299, 300, 301, 302, 303, 304, 305, 306, 307, 308, 309, 310, 311, 312, 313, 314, 315, 316, 336, 337, 338, 339, 340, 341] (by decide +kernel) (by decide +kernel)
set_option maxRecDepth 20000 in
theorem gX8_parse_X8_replaceSiege : GoodIn wsX8_parse (wsV RX8 91 RX8 yX8_replaceSiege wsX8_replaceSiege) := goodIn_app (goodIn_of _ (by decide +kernel)) ggX8_parse_X8_replaceSiege
theorem dX8_parse_0 : decode cX8_parse 0 = .ok (.iload_n 1, 1) := by decide +kernel
theorem dX8_parse_1 : decode cX8_parse 1 = .ok (.ifCond .lt 11, 3) := by decide +kernel
theorem dX8_parse_4 : decode cX8_parse 4 = .ok (.iload_n 1, 1) := by decide +kernel
theorem dX8_parse_5 : decode cX8_parse 5 = .ok (.aload_n 0, 1) := by decide +kernel
theorem dX8_parse_6 : decode cX8_parse 6 = .ok (.getfield 77, 3) := by decide +kernel
theorem dX8_parse_9 : decode cX8_parse 9 = .ok (.if_icmp .le 5, 3) := by decide +kernel
theorem dX8_parse_12 : decode cX8_parse 12 = .ok (.iconst (-1), 1) := by decide +kernel
theorem dX8_parse_13 : decode cX8_parse 13 = .ok (.ireturn, 1) := by decide +kernel
theorem dX8_parse_14 : decode cX8_parse 14 = .ok (.aload_n 0, 1) := by decide +kernel
theorem dX8_parse_15 : decode cX8_parse 15 = .ok (.getfield 16, 3) := by decide +kernel
theorem dX8_parse_18 : decode cX8_parse 18 = .ok (.aload_n 0, 1) := by decide +kernel
theorem dX8_parse_19 : decode cX8_parse 19 = .ok (.getfield 9, 3) := by decide +kernel
theorem dX8_parse_22 : decode cX8_parse 22 = .ok (.iload_n 1, 1) := by decide +kernel
theorem dX8_parse_23 : decode cX8_parse 23 = .ok (.aload_n 0, 1) := by decide +kernel
theorem dX8_parse_24 : decode cX8_parse 24 = .ok (.getfield 70, 3) := by decide +kernel
theorem dX8_parse_27 : decode cX8_parse 27 = .ok (.invokevirtual 84, 3) := by decide +kernel
theorem dX8_parse_30 : decode cX8_parse 30 = .ok (.istore_n 2, 1) := by decide +kernel
theorem dX8_parse_31 : decode cX8_parse 31 = .ok (.aload_n 0, 1) := by decide +kernel
theorem dX8_parse_32 : decode cX8_parse 32 = .ok (.iconst 0, 1) := by decide +kernel
theorem dX8_parse_33 : decode cX8_parse 33 = .ok (.putfield 77, 3) := by decide +kernel
theorem dX8_parse_36 : decode cX8_parse 36 = .ok (.iload_n 2, 1) := by decide +kernel
theorem dX8_parse_37 : decode cX8_parse 37 = .ok (.ifCond .eq 16, 3) := by decide +kernel
theorem dX8_parse_40 : decode cX8_parse 40 = .ok (.aload_n 0, 1) := by decide +kernel
theorem dX8_parse_41 : decode cX8_parse 41 = .ok (.aload_n 0, 1) := by decide +kernel
theorem dX8_parse_42 : decode cX8_parse 42 = .ok (.getfield 16, 3) := by decide +kernel
theorem dX8_parse_45 : decode cX8_parse 45 = .ok (.getfield 88, 3) := by decide +kernel
theorem dX8_parse_48 : decode cX8_parse 48 = .ok (.putfield 59, 3) := by decide +kernel
theorem dX8_parse_51 : decode cX8_parse 51 = .ok (.iload_n 2, 1) := by decide +kernel
theorem dX8_parse_52 : decode cX8_parse 52 = .ok (.ireturn, 1) := by decide +kernel
theorem dX8_parse_53 : decode cX8_parse 53 = .ok (.aload_n 0, 1) := by decide +kernel
theorem dX8_parse_54 : decode cX8_parse 54 = .ok (.bipush (-2), 2) := by decide +kernel
theorem dX8_parse_56 : decode cX8_parse 56 = .ok (.putfield 59, 3) := by decide +kernel
theorem dX8_parse_59 : decode cX8_parse 59 = .ok (.aload_n 0, 1) := by decide +kernel
theorem dX8_parse_60 : decode cX8_parse 60 = .ok (.invokevirtual 91, 3) := by decide +kernel
theorem dX8_parse_63 : decode cX8_parse 63 = .ok (.iconst 0, 1) := by decide +kernel
theorem dX8_parse_64 : decode cX8_parse 64 = .ok (.ireturn, 1) := by decide +kernel
set_option maxRecDepth 20000 in
theorem ggX8_replaceSiege_X6_begin : GoodIn wsX8_replaceSiege wsX6_begin := goodIn_r _ [11, 12, 13, 14, 15, 16, 17, 18, 19, 20, 21, 22, 23, 24, 25, 26, 27, 28, 29, 30, 31, 32, 33, 34, 35, 36, 58, 59, 60, 61, 62, 63, 64, 65, 66, 67, 68, 69, 70, 71, 72, 73, 74, 75, 76, 77, 78, 79, 80, 81, 82, 83, 84, 85, 86, 87, 88, 89, 90, 91, 92, 93, 94, 95, 96, 97, 98] (by decide +kernel) (by decide +kernel)
set_option maxRecDepth 20000 in
theorem gX8_replaceSiege_X6_begin : GoodIn wsX8_replaceSiege (wsV RX8 73 RX6 yX6_begin wsX6_begin) := goodIn_app (goodIn_of _ (by decide +kernel)) ggX8_replaceSiege_X6_begin
set_option maxRecDepth 20000 in
theorem ggX8_replaceSiege_X3_forget : GoodIn wsX8_replaceSiege wsX3_forget := goodIn_r _ [41, 42, 99, 100, 101, 102, 103, 104] (by decide +kernel) (by decide +kernel)
set_option maxRecDepth 20000 in
theorem gX8_replaceSiege_X3_forget : GoodIn wsX8_replaceSiege (wsV RX8 94 RX3 yX3_forget wsX3_forget) := goodIn_app (goodIn_of _ (by decide +kernel)) ggX8_replaceSiege_X3_forget
theorem dX8_replaceSiege_0 : decode cX8_replaceSiege 0 = .ok (.aload_n 0, 1) := by decide +kernel
theorem dX8_replaceSiege_1 : decode cX8_replaceSiege 1 = .ok (.getfield 66, 3) := by decide +kernel
theorem dX8_replaceSiege_4 : decode cX8_replaceSiege 4 = .ok (.astore_n 1, 1) := by decide +kernel
theorem dX8_replaceSiege_5 : decode cX8_replaceSiege 5 = .ok (.aload_n 0, 1) := by decide +kernel
theorem dX8_replaceSiege_6 : decode cX8_replaceSiege 6 = .ok (.aload_n 0, 1) := by decide +kernel
theorem dX8_replaceSiege_7 : decode cX8_replaceSiege 7 = .ok (.getfield 70, 3) := by decide +kernel
theorem dX8_replaceSiege_10 : decode cX8_replaceSiege 10 = .ok (.putfield 66, 3) := by decide +kernel
theorem dX8_replaceSiege_13 : decode cX8_replaceSiege 13 = .ok (.aload_n 0, 1) := by decide +kernel
theorem dX8_replaceSiege_14 : decode cX8_replaceSiege 14 = .ok (.aload_n 1, 1) := by decide +kernel
theorem dX8_replaceSiege_15 : decode cX8_replaceSiege 15 = .ok (.putfield 70, 3) := by decide +kernel
theorem dX8_replaceSiege_18 : decode cX8_replaceSiege 18 = .ok (.aload_n 0, 1) := by decide +kernel
theorem dX8_replaceSiege_19 : decode cX8_replaceSiege 19 = .ok (.getfield 44, 3) := by decide +kernel
theorem dX8_replaceSiege_22 : decode cX8_replaceSiege 22 = .ok (.aload_n 0, 1) := by decide +kernel
theorem dX8_replaceSiege_23 : decode cX8_replaceSiege 23 = .ok (.getfield 66, 3) := by decide +kernel
theorem dX8_replaceSiege_26 : decode cX8_replaceSiege 26 = .ok (.invokevirtual 73, 3) := by decide +kernel
theorem dX8_replaceSiege_29 : decode cX8_replaceSiege 29 = .ok (.aload_n 0, 1) := by decide +kernel
theorem dX8_replaceSiege_30 : decode cX8_replaceSiege 30 = .ok (.getfield 30, 3) := by decide +kernel
theorem dX8_replaceSiege_33 : decode cX8_replaceSiege 33 = .ok (.invokevirtual 94, 3) := by decide +kernel
theorem dX8_replaceSiege_36 : decode cX8_replaceSiege 36 = .ok (.aload_n 0, 1) := by decide +kernel
theorem dX8_replaceSiege_37 : decode cX8_replaceSiege 37 = .ok (.iconst 0, 1) := by decide +kernel
theorem dX8_replaceSiege_38 : decode cX8_replaceSiege 38 = .ok (.putfield 97, 3) := by decide +kernel
theorem dX8_replaceSiege_41 : decode cX8_replaceSiege 41 = .ok (.iconst 0, 1) := by decide +kernel
theorem dX8_replaceSiege_42 : decode cX8_replaceSiege 42 = .ok (.istore_n 2, 1) := by decide +kernel
theorem dX8_replaceSiege_43 : decode cX8_replaceSiege 43 = .ok (.iload_n 2, 1) := by decide +kernel
theorem dX8_replaceSiege_44 : decode cX8_replaceSiege 44 = .ok (.aload_n 0, 1) := by decide +kernel
theorem dX8_replaceSiege_45 : decode cX8_replaceSiege 45 = .ok (.getfield 55, 3) := by decide +kernel
theorem dX8_replaceSiege_48 : decode cX8_replaceSiege 48 = .ok (.arraylength, 1) := by decide +kernel
theorem dX8_replaceSiege_49 : decode cX8_replaceSiege 49 = .ok (.if_icmp .ge 16, 3) := by decide +kernel
theorem dX8_replaceSiege_52 : decode cX8_replaceSiege 52 = .ok (.aload_n 0, 1) := by decide +kernel
theorem dX8_replaceSiege_53 : decode cX8_replaceSiege 53 = .ok (.getfield 55, 3) := by decide +kernel
theorem dX8_replaceSiege_56 : decode cX8_replaceSiege 56 = .ok (.iload_n 2, 1) := by decide +kernel
theorem dX8_replaceSiege_57 : decode cX8_replaceSiege 57 = .ok (.iconst 0, 1) := by decide +kernel
theorem dX8_replaceSiege_58 : decode cX8_replaceSiege 58 = .ok (.bastore, 1) := by decide +kernel
theorem dX8_replaceSiege_59 : decode cX8_replaceSiege 59 = .ok (.iinc 2 1, 3) := by decide +kernel
theorem dX8_replaceSiege_62 : decode cX8_replaceSiege 62 = .ok (.goto (-19), 3) := by decide +kernel
theorem dX8_replaceSiege_65 : decode cX8_replaceSiege 65 = .ok (.return_, 1) := by decide +kernel
theorem dX8_errorPosition_0 : decode cX8_errorPosition 0 = .ok (.aload_n 0, 1) := by decide +kernel
theorem dX8_errorPosition_1 : decode cX8_errorPosition 1 = .ok (.getfield 59, 3) := by decide +kernel
theorem dX8_errorPosition_4 : decode cX8_errorPosition 4 = .ok (.ireturn, 1) := by decide +kernel
theorem dX8_regionCount_0 : decode cX8_regionCount 0 = .ok (.aload_n 0, 1) := by decide +kernel
theorem dX8_regionCount_1 : decode cX8_regionCount 1 = .ok (.getfield 66, 3) := by decide +kernel
theorem dX8_regionCount_4 : decode cX8_regionCount 4 = .ok (.getfield 100, 3) := by decide +kernel
theorem dX8_regionCount_7 : decode cX8_regionCount 7 = .ok (.ireturn, 1) := by decide +kernel
theorem dX8_windCount_0 : decode cX8_windCount 0 = .ok (.aload_n 0, 1) := by decide +kernel
theorem dX8_windCount_1 : decode cX8_windCount 1 = .ok (.getfield 66, 3) := by decide +kernel
theorem dX8_windCount_4 : decode cX8_windCount 4 = .ok (.getfield 103, 3) := by decide +kernel
theorem dX8_windCount_7 : decode cX8_windCount 7 = .ok (.getfield 107, 3) := by decide +kernel
theorem dX8_windCount_10 : decode cX8_windCount 10 = .ok (.ireturn, 1) := by decide +kernel
theorem dX8_balloonCount_0 : decode cX8_balloonCount 0 = .ok (.aload_n 0, 1) := by decide +kernel
theorem dX8_balloonCount_1 : decode cX8_balloonCount 1 = .ok (.getfield 66, 3) := by decide +kernel
theorem dX8_balloonCount_4 : decode cX8_balloonCount 4 = .ok (.getfield 112, 3) := by decide +kernel
theorem dX8_balloonCount_7 : decode cX8_balloonCount 7 = .ok (.ireturn, 1) := by decide +kernel
theorem dX8_letterCount_0 : decode cX8_letterCount 0 = .ok (.aload_n 0, 1) := by decide +kernel
theorem dX8_letterCount_1 : decode cX8_letterCount 1 = .ok (.getfield 66, 3) := by decide +kernel
theorem dX8_letterCount_4 : decode cX8_letterCount 4 = .ok (.getfield 115, 3) := by decide +kernel
theorem dX8_letterCount_7 : decode cX8_letterCount 7 = .ok (.ireturn, 1) := by decide +kernel
set_option maxRecDepth 20000 in
theorem ggX8_capacity_X5_hasBalloon : GoodIn wsX8_capacity wsX5_hasBalloon := goodIn_r _ [7, 8, 24, 25, 26, 27, 28, 29, 30, 31, 32, 33, 34, 35, 36, 37] (by decide +kernel) (by decide +kernel)
set_option maxRecDepth 20000 in
theorem gX8_capacity_X5_hasBalloon : GoodIn wsX8_capacity (wsV RX8 118 RX5 yX5_hasBalloon wsX5_hasBalloon) := goodIn_app (goodIn_of _ (by decide +kernel)) ggX8_capacity_X5_hasBalloon
theorem dX8_capacity_0 : decode cX8_capacity 0 = .ok (.aload_n 0, 1) := by decide +kernel
theorem dX8_capacity_1 : decode cX8_capacity 1 = .ok (.getfield 66, 3) := by decide +kernel
theorem dX8_capacity_4 : decode cX8_capacity 4 = .ok (.iload_n 1, 1) := by decide +kernel
theorem dX8_capacity_5 : decode cX8_capacity 5 = .ok (.invokevirtual 118, 3) := by decide +kernel
theorem dX8_capacity_8 : decode cX8_capacity 8 = .ok (.ifCond .eq 15, 3) := by decide +kernel
theorem dX8_capacity_11 : decode cX8_capacity 11 = .ok (.aload_n 0, 1) := by decide +kernel
theorem dX8_capacity_12 : decode cX8_capacity 12 = .ok (.getfield 66, 3) := by decide +kernel
theorem dX8_capacity_15 : decode cX8_capacity 15 = .ok (.getfield 122, 3) := by decide +kernel
theorem dX8_capacity_18 : decode cX8_capacity 18 = .ok (.iload_n 1, 1) := by decide +kernel
theorem dX8_capacity_19 : decode cX8_capacity 19 = .ok (.iaload, 1) := by decide +kernel
theorem dX8_capacity_20 : decode cX8_capacity 20 = .ok (.goto 4, 3) := by decide +kernel
theorem dX8_capacity_23 : decode cX8_capacity 23 = .ok (.iconst (-1), 1) := by decide +kernel
theorem dX8_capacity_24 : decode cX8_capacity 24 = .ok (.ireturn, 1) := by decide +kernel
set_option maxRecDepth 20000 in
theorem ggX8_letterWeight_X5_hasLetter : GoodIn wsX8_letterWeight wsX5_hasLetter := goodIn_r _ [7, 8, 24, 25, 26, 27, 28, 29, 30, 31, 32, 33, 34, 35, 36, 37] (by decide +kernel) (by decide +kernel)
set_option maxRecDepth 20000 in
theorem gX8_letterWeight_X5_hasLetter : GoodIn wsX8_letterWeight (wsV RX8 126 RX5 yX5_hasLetter wsX5_hasLetter) := goodIn_app (goodIn_of _ (by decide +kernel)) ggX8_letterWeight_X5_hasLetter
theorem dX8_letterWeight_0 : decode cX8_letterWeight 0 = .ok (.aload_n 0, 1) := by decide +kernel
theorem dX8_letterWeight_1 : decode cX8_letterWeight 1 = .ok (.getfield 66, 3) := by decide +kernel
theorem dX8_letterWeight_4 : decode cX8_letterWeight 4 = .ok (.iload_n 1, 1) := by decide +kernel
theorem dX8_letterWeight_5 : decode cX8_letterWeight 5 = .ok (.invokevirtual 126, 3) := by decide +kernel
theorem dX8_letterWeight_8 : decode cX8_letterWeight 8 = .ok (.ifCond .eq 15, 3) := by decide +kernel
theorem dX8_letterWeight_11 : decode cX8_letterWeight 11 = .ok (.aload_n 0, 1) := by decide +kernel
theorem dX8_letterWeight_12 : decode cX8_letterWeight 12 = .ok (.getfield 66, 3) := by decide +kernel
theorem dX8_letterWeight_15 : decode cX8_letterWeight 15 = .ok (.getfield 129, 3) := by decide +kernel
theorem dX8_letterWeight_18 : decode cX8_letterWeight 18 = .ok (.iload_n 1, 1) := by decide +kernel
theorem dX8_letterWeight_19 : decode cX8_letterWeight 19 = .ok (.iaload, 1) := by decide +kernel
theorem dX8_letterWeight_20 : decode cX8_letterWeight 20 = .ok (.goto 4, 3) := by decide +kernel
theorem dX8_letterWeight_23 : decode cX8_letterWeight 23 = .ok (.iconst (-1), 1) := by decide +kernel
theorem dX8_letterWeight_24 : decode cX8_letterWeight 24 = .ok (.ireturn, 1) := by decide +kernel
set_option maxRecDepth 20000 in
theorem ggX8_windChance_X7_has : GoodIn wsX8_windChance wsX7_has := goodIn_r _ [11, 12, 94, 95, 96, 97, 98, 99, 100, 101] (by decide +kernel) (by decide +kernel)
set_option maxRecDepth 20000 in
theorem gX8_windChance_X7_has : GoodIn wsX8_windChance (wsV RX8 132 RX7 yX7_has wsX7_has) := goodIn_app (goodIn_of _ (by decide +kernel)) ggX8_windChance_X7_has
set_option maxRecDepth 20000 in
theorem ggX8_windChance_X8_isForecast : GoodIn wsX8_windChance wsX8_isForecast := goodIn_r _ [16] (by decide +kernel) (by decide +kernel)
set_option maxRecDepth 20000 in
theorem gX8_windChance_X8_isForecast : GoodIn wsX8_windChance (va_wsS RX8 135 yX8_isForecast wsX8_isForecast) := goodIn_app (goodIn_of _ (by decide +kernel)) ggX8_windChance_X8_isForecast
set_option maxRecDepth 20000 in
theorem ggX8_windChance_X0_lookAhead : GoodIn wsX8_windChance wsX0_lookAhead := goodIn_r _ [21, 22, 23, 24, 20, 25, 26, 27, 28, 29, 30, 31, 32, 33, 34, 35, 36, 37, 38, 39, 40, 41, 42, 43, 10, 44, 12, 45, 102, 103, 94, 95, 96, 97, 98, 99, 100, 101] (by decide +kernel) (by decide +kernel)
set_option maxRecDepth 20000 in
theorem gX8_windChance_X0_lookAhead : GoodIn wsX8_windChance (wsV RX8 143 RX0 yX0_lookAhead wsX0_lookAhead) := goodIn_app (goodIn_of _ (by decide +kernel)) ggX8_windChance_X0_lookAhead
set_option maxRecDepth 20000 in
theorem ggX8_windChance_X0_of : GoodIn wsX8_windChance wsX0_of := goodIn_r _ [49, 26, 102, 103] (by decide +kernel) (by decide +kernel)
set_option maxRecDepth 20000 in
theorem gX8_windChance_X0_of : GoodIn wsX8_windChance (wsV RX8 147 RX0 yX0_of wsX0_of) := goodIn_app (goodIn_of _ (by decide +kernel)) ggX8_windChance_X0_of
theorem dX8_windChance_0 : decode cX8_windChance 0 = .ok (.aload_n 0, 1) := by decide +kernel
theorem dX8_windChance_1 : decode cX8_windChance 1 = .ok (.getfield 66, 3) := by decide +kernel
theorem dX8_windChance_4 : decode cX8_windChance 4 = .ok (.getfield 103, 3) := by decide +kernel
theorem dX8_windChance_7 : decode cX8_windChance 7 = .ok (.iload_n 1, 1) := by decide +kernel
theorem dX8_windChance_8 : decode cX8_windChance 8 = .ok (.invokevirtual 132, 3) := by decide +kernel
theorem dX8_windChance_11 : decode cX8_windChance 11 = .ok (.ifCond .eq 10, 3) := by decide +kernel
theorem dX8_windChance_14 : decode cX8_windChance 14 = .ok (.iload_n 2, 1) := by decide +kernel
theorem dX8_windChance_15 : decode cX8_windChance 15 = .ok (.invokestatic 135, 3) := by decide +kernel
theorem dX8_windChance_18 : decode cX8_windChance 18 = .ok (.ifCond .ne 7, 3) := by decide +kernel
theorem dX8_windChance_21 : decode cX8_windChance 21 = .ok (.ldc2_w 138, 3) := by decide +kernel
theorem dX8_windChance_24 : decode cX8_windChance 24 = .ok (.lreturn, 1) := by decide +kernel
theorem dX8_windChance_25 : decode cX8_windChance 25 = .ok (.aload_n 0, 1) := by decide +kernel
theorem dX8_windChance_26 : decode cX8_windChance 26 = .ok (.getfield 23, 3) := by decide +kernel
theorem dX8_windChance_29 : decode cX8_windChance 29 = .ok (.aload_n 0, 1) := by decide +kernel
theorem dX8_windChance_30 : decode cX8_windChance 30 = .ok (.getfield 66, 3) := by decide +kernel
theorem dX8_windChance_33 : decode cX8_windChance 33 = .ok (.getfield 103, 3) := by decide +kernel
theorem dX8_windChance_36 : decode cX8_windChance 36 = .ok (.aload_n 0, 1) := by decide +kernel
theorem dX8_windChance_37 : decode cX8_windChance 37 = .ok (.getfield 44, 3) := by decide +kernel
theorem dX8_windChance_40 : decode cX8_windChance 40 = .ok (.getfield 140, 3) := by decide +kernel
theorem dX8_windChance_43 : decode cX8_windChance 43 = .ok (.iload_n 2, 1) := by decide +kernel
theorem dX8_windChance_44 : decode cX8_windChance 44 = .ok (.bipush (-2), 2) := by decide +kernel
theorem dX8_windChance_46 : decode cX8_windChance 46 = .ok (.invokevirtual 143, 3) := by decide +kernel
theorem dX8_windChance_49 : decode cX8_windChance 49 = .ok (.aload_n 0, 1) := by decide +kernel
theorem dX8_windChance_50 : decode cX8_windChance 50 = .ok (.getfield 23, 3) := by decide +kernel
theorem dX8_windChance_53 : decode cX8_windChance 53 = .ok (.iload_n 1, 1) := by decide +kernel
theorem dX8_windChance_54 : decode cX8_windChance 54 = .ok (.invokevirtual 147, 3) := by decide +kernel
theorem dX8_windChance_57 : decode cX8_windChance 57 = .ok (.lreturn, 1) := by decide +kernel
set_option maxRecDepth 20000 in
theorem ggX8_avoidChance_X7_has : GoodIn wsX8_avoidChance wsX7_has := goodIn_r _ [11, 12, 94, 95, 96, 97, 98, 99, 100, 101] (by decide +kernel) (by decide +kernel)
set_option maxRecDepth 20000 in
theorem gX8_avoidChance_X7_has : GoodIn wsX8_avoidChance (wsV RX8 132 RX7 yX7_has wsX7_has) := goodIn_app (goodIn_of _ (by decide +kernel)) ggX8_avoidChance_X7_has
set_option maxRecDepth 20000 in
theorem ggX8_avoidChance_X8_isForecast : GoodIn wsX8_avoidChance wsX8_isForecast := goodIn_r _ [16] (by decide +kernel) (by decide +kernel)
set_option maxRecDepth 20000 in
theorem gX8_avoidChance_X8_isForecast : GoodIn wsX8_avoidChance (va_wsS RX8 135 yX8_isForecast wsX8_isForecast) := goodIn_app (goodIn_of _ (by decide +kernel)) ggX8_avoidChance_X8_isForecast
set_option maxRecDepth 20000 in
theorem ggX8_avoidChance_X0_lookAhead : GoodIn wsX8_avoidChance wsX0_lookAhead := goodIn_r _ [21, 22, 23, 24, 20, 25, 26, 27, 28, 29, 30, 31, 32, 33, 34, 35, 36, 37, 38, 39, 40, 41, 42, 43, 10, 44, 12, 45, 102, 103, 94, 95, 96, 97, 98, 99, 100, 101] (by decide +kernel) (by decide +kernel)
set_option maxRecDepth 20000 in
theorem gX8_avoidChance_X0_lookAhead : GoodIn wsX8_avoidChance (wsV RX8 143 RX0 yX0_lookAhead wsX0_lookAhead) := goodIn_app (goodIn_of _ (by decide +kernel)) ggX8_avoidChance_X0_lookAhead
set_option maxRecDepth 20000 in
theorem ggX8_avoidChance_X0_sum : GoodIn wsX8_avoidChance wsX0_sum := goodIn_r _ [49, 26, 102, 103] (by decide +kernel) (by decide +kernel)
set_option maxRecDepth 20000 in
theorem gX8_avoidChance_X0_sum : GoodIn wsX8_avoidChance (wsV RX8 151 RX0 yX0_sum wsX0_sum) := goodIn_app (goodIn_of _ (by decide +kernel)) ggX8_avoidChance_X0_sum
theorem dX8_avoidChance_0 : decode cX8_avoidChance 0 = .ok (.aload_n 0, 1) := by decide +kernel
theorem dX8_avoidChance_1 : decode cX8_avoidChance 1 = .ok (.getfield 66, 3) := by decide +kernel
theorem dX8_avoidChance_4 : decode cX8_avoidChance 4 = .ok (.getfield 103, 3) := by decide +kernel
theorem dX8_avoidChance_7 : decode cX8_avoidChance 7 = .ok (.iload_n 1, 1) := by decide +kernel
theorem dX8_avoidChance_8 : decode cX8_avoidChance 8 = .ok (.invokevirtual 132, 3) := by decide +kernel
theorem dX8_avoidChance_11 : decode cX8_avoidChance 11 = .ok (.ifCond .eq 10, 3) := by decide +kernel
theorem dX8_avoidChance_14 : decode cX8_avoidChance 14 = .ok (.iload_n 2, 1) := by decide +kernel
theorem dX8_avoidChance_15 : decode cX8_avoidChance 15 = .ok (.invokestatic 135, 3) := by decide +kernel
theorem dX8_avoidChance_18 : decode cX8_avoidChance 18 = .ok (.ifCond .ne 7, 3) := by decide +kernel
theorem dX8_avoidChance_21 : decode cX8_avoidChance 21 = .ok (.ldc2_w 138, 3) := by decide +kernel
theorem dX8_avoidChance_24 : decode cX8_avoidChance 24 = .ok (.lreturn, 1) := by decide +kernel
theorem dX8_avoidChance_25 : decode cX8_avoidChance 25 = .ok (.aload_n 0, 1) := by decide +kernel
theorem dX8_avoidChance_26 : decode cX8_avoidChance 26 = .ok (.getfield 23, 3) := by decide +kernel
theorem dX8_avoidChance_29 : decode cX8_avoidChance 29 = .ok (.aload_n 0, 1) := by decide +kernel
theorem dX8_avoidChance_30 : decode cX8_avoidChance 30 = .ok (.getfield 66, 3) := by decide +kernel
theorem dX8_avoidChance_33 : decode cX8_avoidChance 33 = .ok (.getfield 103, 3) := by decide +kernel
theorem dX8_avoidChance_36 : decode cX8_avoidChance 36 = .ok (.aload_n 0, 1) := by decide +kernel
theorem dX8_avoidChance_37 : decode cX8_avoidChance 37 = .ok (.getfield 44, 3) := by decide +kernel
theorem dX8_avoidChance_40 : decode cX8_avoidChance 40 = .ok (.getfield 140, 3) := by decide +kernel
theorem dX8_avoidChance_43 : decode cX8_avoidChance 43 = .ok (.iload_n 2, 1) := by decide +kernel
theorem dX8_avoidChance_44 : decode cX8_avoidChance 44 = .ok (.iload_n 1, 1) := by decide +kernel
theorem dX8_avoidChance_45 : decode cX8_avoidChance 45 = .ok (.invokevirtual 143, 3) := by decide +kernel
theorem dX8_avoidChance_48 : decode cX8_avoidChance 48 = .ok (.aload_n 0, 1) := by decide +kernel
theorem dX8_avoidChance_49 : decode cX8_avoidChance 49 = .ok (.getfield 23, 3) := by decide +kernel
theorem dX8_avoidChance_52 : decode cX8_avoidChance 52 = .ok (.invokevirtual 151, 3) := by decide +kernel
theorem dX8_avoidChance_55 : decode cX8_avoidChance 55 = .ok (.lreturn, 1) := by decide +kernel
set_option maxRecDepth 20000 in
theorem ggX8_landingChance_X5_hasRegion : GoodIn wsX8_landingChance wsX5_hasRegion := goodIn_r _ [11, 12, 77, 78, 79, 80, 81, 82, 83, 84, 85, 86, 87, 88, 89, 90] (by decide +kernel) (by decide +kernel)
set_option maxRecDepth 20000 in
theorem gX8_landingChance_X5_hasRegion : GoodIn wsX8_landingChance (wsV RX8 155 RX5 yX5_hasRegion wsX5_hasRegion) := goodIn_app (goodIn_of _ (by decide +kernel)) ggX8_landingChance_X5_hasRegion
set_option maxRecDepth 20000 in
theorem ggX8_landingChance_X8_canForecast : GoodIn wsX8_landingChance wsX8_canForecast := goodIn_r _ [17, 1, 4, 18, 19, 20, 16, 21, 62, 63, 64, 65, 66, 67, 68, 69, 70, 71, 72, 73, 74, 75, 76, 77, 78, 79, 80, 81, 82, 83, 84, 85, 86, 87, 88, 89, 90, 106, 107, 108, 109, 110, 111, 112, 113] (by decide +kernel) (by decide +kernel)
set_option maxRecDepth 20000 in
theorem gX8_landingChance_X8_canForecast : GoodIn wsX8_landingChance (wsV RX8 158 RX8 yX8_canForecast wsX8_canForecast) := goodIn_app (goodIn_of _ (by decide +kernel)) ggX8_landingChance_X8_canForecast
set_option maxRecDepth 20000 in
theorem ggX8_landingChance_X0_lookAhead : GoodIn wsX8_landingChance wsX0_lookAhead := goodIn_r _ [26, 27, 28, 29, 25, 30, 31, 32, 33, 34, 35, 36, 37, 38, 39, 40, 41, 42, 43, 44, 45, 46, 47, 48, 49, 50, 51, 52, 114, 115, 106, 107, 108, 109, 110, 111, 112, 113] (by decide +kernel) (by decide +kernel)
set_option maxRecDepth 20000 in
theorem gX8_landingChance_X0_lookAhead : GoodIn wsX8_landingChance (wsV RX8 143 RX0 yX0_lookAhead wsX0_lookAhead) := goodIn_app (goodIn_of _ (by decide +kernel)) ggX8_landingChance_X0_lookAhead
set_option maxRecDepth 20000 in
theorem ggX8_landingChance_X0_comingDown : GoodIn wsX8_landingChance wsX0_comingDown := goodIn_r _ [56, 41, 31, 57, 58, 59, 49, 60, 51, 61, 106, 107, 108, 109, 110, 111, 112, 113, 114, 115] (by decide +kernel) (by decide +kernel)
set_option maxRecDepth 20000 in
theorem gX8_landingChance_X0_comingDown : GoodIn wsX8_landingChance (wsV RX8 161 RX0 yX0_comingDown wsX0_comingDown) := goodIn_app (goodIn_of _ (by decide +kernel)) ggX8_landingChance_X0_comingDown
theorem dX8_landingChance_0 : decode cX8_landingChance 0 = .ok (.iload_n 1, 1) := by decide +kernel
theorem dX8_landingChance_1 : decode cX8_landingChance 1 = .ok (.bipush (-2), 2) := by decide +kernel
theorem dX8_landingChance_3 : decode cX8_landingChance 3 = .ok (.if_icmp .eq 14, 3) := by decide +kernel
theorem dX8_landingChance_6 : decode cX8_landingChance 6 = .ok (.aload_n 0, 1) := by decide +kernel
theorem dX8_landingChance_7 : decode cX8_landingChance 7 = .ok (.getfield 66, 3) := by decide +kernel
theorem dX8_landingChance_10 : decode cX8_landingChance 10 = .ok (.iload_n 1, 1) := by decide +kernel
theorem dX8_landingChance_11 : decode cX8_landingChance 11 = .ok (.invokevirtual 155, 3) := by decide +kernel
theorem dX8_landingChance_14 : decode cX8_landingChance 14 = .ok (.ifCond .eq 7, 3) := by decide +kernel
theorem dX8_landingChance_17 : decode cX8_landingChance 17 = .ok (.iconst 1, 1) := by decide +kernel
theorem dX8_landingChance_18 : decode cX8_landingChance 18 = .ok (.goto 4, 3) := by decide +kernel
theorem dX8_landingChance_21 : decode cX8_landingChance 21 = .ok (.iconst 0, 1) := by decide +kernel
theorem dX8_landingChance_22 : decode cX8_landingChance 22 = .ok (.istore_n 3, 1) := by decide +kernel
theorem dX8_landingChance_23 : decode cX8_landingChance 23 = .ok (.iload_n 3, 1) := by decide +kernel
theorem dX8_landingChance_24 : decode cX8_landingChance 24 = .ok (.ifCond .eq 11, 3) := by decide +kernel
theorem dX8_landingChance_27 : decode cX8_landingChance 27 = .ok (.aload_n 0, 1) := by decide +kernel
theorem dX8_landingChance_28 : decode cX8_landingChance 28 = .ok (.iload_n 2, 1) := by decide +kernel
theorem dX8_landingChance_29 : decode cX8_landingChance 29 = .ok (.invokevirtual 158, 3) := by decide +kernel
theorem dX8_landingChance_32 : decode cX8_landingChance 32 = .ok (.ifCond .ne 7, 3) := by decide +kernel
theorem dX8_landingChance_35 : decode cX8_landingChance 35 = .ok (.ldc2_w 138, 3) := by decide +kernel
theorem dX8_landingChance_38 : decode cX8_landingChance 38 = .ok (.lreturn, 1) := by decide +kernel
theorem dX8_landingChance_39 : decode cX8_landingChance 39 = .ok (.aload_n 0, 1) := by decide +kernel
theorem dX8_landingChance_40 : decode cX8_landingChance 40 = .ok (.getfield 23, 3) := by decide +kernel
theorem dX8_landingChance_43 : decode cX8_landingChance 43 = .ok (.aload_n 0, 1) := by decide +kernel
theorem dX8_landingChance_44 : decode cX8_landingChance 44 = .ok (.getfield 66, 3) := by decide +kernel
theorem dX8_landingChance_47 : decode cX8_landingChance 47 = .ok (.getfield 103, 3) := by decide +kernel
theorem dX8_landingChance_50 : decode cX8_landingChance 50 = .ok (.aload_n 0, 1) := by decide +kernel
theorem dX8_landingChance_51 : decode cX8_landingChance 51 = .ok (.getfield 44, 3) := by decide +kernel
theorem dX8_landingChance_54 : decode cX8_landingChance 54 = .ok (.getfield 140, 3) := by decide +kernel
theorem dX8_landingChance_57 : decode cX8_landingChance 57 = .ok (.iload_n 2, 1) := by decide +kernel
theorem dX8_landingChance_58 : decode cX8_landingChance 58 = .ok (.bipush (-2), 2) := by decide +kernel
theorem dX8_landingChance_60 : decode cX8_landingChance 60 = .ok (.invokevirtual 143, 3) := by decide +kernel
theorem dX8_landingChance_63 : decode cX8_landingChance 63 = .ok (.aload_n 0, 1) := by decide +kernel
theorem dX8_landingChance_64 : decode cX8_landingChance 64 = .ok (.getfield 23, 3) := by decide +kernel
theorem dX8_landingChance_67 : decode cX8_landingChance 67 = .ok (.aload_n 0, 1) := by decide +kernel
theorem dX8_landingChance_68 : decode cX8_landingChance 68 = .ok (.getfield 66, 3) := by decide +kernel
theorem dX8_landingChance_71 : decode cX8_landingChance 71 = .ok (.getfield 103, 3) := by decide +kernel
theorem dX8_landingChance_74 : decode cX8_landingChance 74 = .ok (.iload_n 1, 1) := by decide +kernel
theorem dX8_landingChance_75 : decode cX8_landingChance 75 = .ok (.bipush (-2), 2) := by decide +kernel
theorem dX8_landingChance_77 : decode cX8_landingChance 77 = .ok (.if_icmp .ne 8, 3) := by decide +kernel
theorem dX8_landingChance_80 : decode cX8_landingChance 80 = .ok (.bipush 8, 2) := by decide +kernel
theorem dX8_landingChance_82 : decode cX8_landingChance 82 = .ok (.goto 4, 3) := by decide +kernel
theorem dX8_landingChance_85 : decode cX8_landingChance 85 = .ok (.iload_n 1, 1) := by decide +kernel
theorem dX8_landingChance_86 : decode cX8_landingChance 86 = .ok (.invokevirtual 161, 3) := by decide +kernel
theorem dX8_landingChance_89 : decode cX8_landingChance 89 = .ok (.lreturn, 1) := by decide +kernel
set_option maxRecDepth 20000 in
theorem ggX8_deliveryChance_X8_canForecast : GoodIn wsX8_deliveryChance wsX8_canForecast := goodIn_r _ [11, 3, 4, 12, 13, 14, 10, 15, 73, 74, 75, 76, 77, 78, 79, 80, 81, 82, 83, 84, 85, 86, 87, 88, 89, 90, 91, 92, 93, 94, 95, 96, 97, 98, 99, 100, 101, 117, 118, 119, 120, 121, 122, 123, 124] (by decide +kernel) (by decide +kernel)
set_option maxRecDepth 20000 in
theorem gX8_deliveryChance_X8_canForecast : GoodIn wsX8_deliveryChance (wsV RX8 158 RX8 yX8_canForecast wsX8_canForecast) := goodIn_app (goodIn_of _ (by decide +kernel)) ggX8_deliveryChance_X8_canForecast
set_option maxRecDepth 20000 in
theorem ggX8_deliveryChance_X0_lookAhead : GoodIn wsX8_deliveryChance wsX0_lookAhead := goodIn_r _ [20, 21, 22, 23, 19, 24, 25, 26, 27, 28, 29, 30, 31, 32, 33, 34, 35, 36, 37, 38, 39, 40, 41, 42, 43, 44, 45, 46, 125, 126, 117, 118, 119, 120, 121, 122, 123, 124] (by decide +kernel) (by decide +kernel)
set_option maxRecDepth 20000 in
theorem gX8_deliveryChance_X0_lookAhead : GoodIn wsX8_deliveryChance (wsV RX8 143 RX0 yX0_lookAhead wsX0_lookAhead) := goodIn_app (goodIn_of _ (by decide +kernel)) ggX8_deliveryChance_X0_lookAhead
set_option maxRecDepth 20000 in
theorem ggX8_deliveryChance_X0_delivered : GoodIn wsX8_deliveryChance wsX0_delivered := goodIn_r _ [50, 51, 52, 53, 54, 19, 55, 56, 57, 58, 59, 60, 61, 62, 63, 64, 65, 66, 67, 35, 25, 68, 69, 70, 43, 71, 45, 72, 88, 89, 90, 91, 92, 93, 94, 95, 96, 97, 98, 99, 100, 101, 117, 118, 119, 120, 121, 122, 123, 124, 125, 126] (by decide +kernel) (by decide +kernel)
set_option maxRecDepth 20000 in
theorem gX8_deliveryChance_X0_delivered : GoodIn wsX8_deliveryChance (wsV RX8 165 RX0 yX0_delivered wsX0_delivered) := goodIn_app (goodIn_of _ (by decide +kernel)) ggX8_deliveryChance_X0_delivered
theorem dX8_deliveryChance_0 : decode cX8_deliveryChance 0 = .ok (.aload_n 0, 1) := by decide +kernel
theorem dX8_deliveryChance_1 : decode cX8_deliveryChance 1 = .ok (.iload_n 1, 1) := by decide +kernel
theorem dX8_deliveryChance_2 : decode cX8_deliveryChance 2 = .ok (.invokevirtual 158, 3) := by decide +kernel
theorem dX8_deliveryChance_5 : decode cX8_deliveryChance 5 = .ok (.ifCond .ne 7, 3) := by decide +kernel
theorem dX8_deliveryChance_8 : decode cX8_deliveryChance 8 = .ok (.ldc2_w 138, 3) := by decide +kernel
theorem dX8_deliveryChance_11 : decode cX8_deliveryChance 11 = .ok (.lreturn, 1) := by decide +kernel
theorem dX8_deliveryChance_12 : decode cX8_deliveryChance 12 = .ok (.aload_n 0, 1) := by decide +kernel
theorem dX8_deliveryChance_13 : decode cX8_deliveryChance 13 = .ok (.getfield 23, 3) := by decide +kernel
theorem dX8_deliveryChance_16 : decode cX8_deliveryChance 16 = .ok (.aload_n 0, 1) := by decide +kernel
theorem dX8_deliveryChance_17 : decode cX8_deliveryChance 17 = .ok (.getfield 66, 3) := by decide +kernel
theorem dX8_deliveryChance_20 : decode cX8_deliveryChance 20 = .ok (.getfield 103, 3) := by decide +kernel
theorem dX8_deliveryChance_23 : decode cX8_deliveryChance 23 = .ok (.aload_n 0, 1) := by decide +kernel
theorem dX8_deliveryChance_24 : decode cX8_deliveryChance 24 = .ok (.getfield 44, 3) := by decide +kernel
theorem dX8_deliveryChance_27 : decode cX8_deliveryChance 27 = .ok (.getfield 140, 3) := by decide +kernel
theorem dX8_deliveryChance_30 : decode cX8_deliveryChance 30 = .ok (.iload_n 1, 1) := by decide +kernel
theorem dX8_deliveryChance_31 : decode cX8_deliveryChance 31 = .ok (.bipush (-2), 2) := by decide +kernel
theorem dX8_deliveryChance_33 : decode cX8_deliveryChance 33 = .ok (.invokevirtual 143, 3) := by decide +kernel
theorem dX8_deliveryChance_36 : decode cX8_deliveryChance 36 = .ok (.aload_n 0, 1) := by decide +kernel
theorem dX8_deliveryChance_37 : decode cX8_deliveryChance 37 = .ok (.getfield 23, 3) := by decide +kernel
theorem dX8_deliveryChance_40 : decode cX8_deliveryChance 40 = .ok (.aload_n 0, 1) := by decide +kernel
theorem dX8_deliveryChance_41 : decode cX8_deliveryChance 41 = .ok (.getfield 66, 3) := by decide +kernel
theorem dX8_deliveryChance_44 : decode cX8_deliveryChance 44 = .ok (.invokevirtual 165, 3) := by decide +kernel
theorem dX8_deliveryChance_47 : decode cX8_deliveryChance 47 = .ok (.lreturn, 1) := by decide +kernel
set_option maxRecDepth 20000 in
theorem ggX8_answerChance_X8_isCrew : GoodIn wsX8_answerChance wsX8_isCrew := goodIn_r _ [10] (by decide +kernel) (by decide +kernel)
set_option maxRecDepth 20000 in
theorem gX8_answerChance_X8_isCrew : GoodIn wsX8_answerChance (va_wsS RX8 169 yX8_isCrew wsX8_isCrew) := goodIn_app (goodIn_of _ (by decide +kernel)) ggX8_answerChance_X8_isCrew
set_option maxRecDepth 20000 in
theorem ggX8_answerChance_X8_canForecast : GoodIn wsX8_answerChance wsX8_canForecast := goodIn_r _ [14, 3, 4, 15, 16, 17, 9, 18, 79, 80, 81, 82, 83, 84, 85, 86, 87, 88, 89, 90, 91, 92, 93, 94, 95, 96, 97, 98, 99, 100, 101, 102, 103, 104, 105, 106, 107, 123, 124, 125, 126, 127, 128, 129, 130] (by decide +kernel) (by decide +kernel)
set_option maxRecDepth 20000 in
theorem gX8_answerChance_X8_canForecast : GoodIn wsX8_answerChance (wsV RX8 158 RX8 yX8_canForecast wsX8_canForecast) := goodIn_app (goodIn_of _ (by decide +kernel)) ggX8_answerChance_X8_canForecast
set_option maxRecDepth 20000 in
theorem ggX8_answerChance_X0_lookAhead : GoodIn wsX8_answerChance wsX0_lookAhead := goodIn_r _ [23, 24, 25, 26, 22, 27, 28, 29, 30, 31, 32, 33, 34, 35, 36, 37, 38, 39, 40, 41, 42, 43, 44, 45, 46, 47, 48, 49, 131, 132, 123, 124, 125, 126, 127, 128, 129, 130] (by decide +kernel) (by decide +kernel)
set_option maxRecDepth 20000 in
theorem gX8_answerChance_X0_lookAhead : GoodIn wsX8_answerChance (wsV RX8 143 RX0 yX0_lookAhead wsX0_lookAhead) := goodIn_app (goodIn_of _ (by decide +kernel)) ggX8_answerChance_X0_lookAhead
set_option maxRecDepth 20000 in
theorem ggX8_answerChance_X0_answered : GoodIn wsX8_answerChance wsX0_answered := goodIn_r _ [53, 54, 55, 56, 9, 57, 58, 59, 60, 22, 61, 62, 63, 64, 65, 66, 67, 68, 69, 70, 71, 72, 73, 38, 28, 74, 75, 76, 46, 77, 48, 78, 94, 95, 96, 97, 98, 99, 100, 101, 102, 103, 104, 105, 106, 107, 123, 124, 125, 126, 127, 128, 129, 130, 131, 132] (by decide +kernel) (by decide +kernel)
set_option maxRecDepth 20000 in
theorem gX8_answerChance_X0_answered : GoodIn wsX8_answerChance (wsV RX8 172 RX0 yX0_answered wsX0_answered) := goodIn_app (goodIn_of _ (by decide +kernel)) ggX8_answerChance_X0_answered
theorem dX8_answerChance_0 : decode cX8_answerChance 0 = .ok (.iload_n 1, 1) := by decide +kernel
theorem dX8_answerChance_1 : decode cX8_answerChance 1 = .ok (.invokestatic 169, 3) := by decide +kernel
theorem dX8_answerChance_4 : decode cX8_answerChance 4 = .ok (.ifCond .eq 11, 3) := by decide +kernel
theorem dX8_answerChance_7 : decode cX8_answerChance 7 = .ok (.aload_n 0, 1) := by decide +kernel
theorem dX8_answerChance_8 : decode cX8_answerChance 8 = .ok (.iload_n 2, 1) := by decide +kernel
theorem dX8_answerChance_9 : decode cX8_answerChance 9 = .ok (.invokevirtual 158, 3) := by decide +kernel
theorem dX8_answerChance_12 : decode cX8_answerChance 12 = .ok (.ifCond .ne 7, 3) := by decide +kernel
theorem dX8_answerChance_15 : decode cX8_answerChance 15 = .ok (.ldc2_w 138, 3) := by decide +kernel
theorem dX8_answerChance_18 : decode cX8_answerChance 18 = .ok (.lreturn, 1) := by decide +kernel
theorem dX8_answerChance_19 : decode cX8_answerChance 19 = .ok (.aload_n 0, 1) := by decide +kernel
theorem dX8_answerChance_20 : decode cX8_answerChance 20 = .ok (.getfield 23, 3) := by decide +kernel
theorem dX8_answerChance_23 : decode cX8_answerChance 23 = .ok (.aload_n 0, 1) := by decide +kernel
theorem dX8_answerChance_24 : decode cX8_answerChance 24 = .ok (.getfield 66, 3) := by decide +kernel
theorem dX8_answerChance_27 : decode cX8_answerChance 27 = .ok (.getfield 103, 3) := by decide +kernel
theorem dX8_answerChance_30 : decode cX8_answerChance 30 = .ok (.aload_n 0, 1) := by decide +kernel
theorem dX8_answerChance_31 : decode cX8_answerChance 31 = .ok (.getfield 44, 3) := by decide +kernel
theorem dX8_answerChance_34 : decode cX8_answerChance 34 = .ok (.getfield 140, 3) := by decide +kernel
theorem dX8_answerChance_37 : decode cX8_answerChance 37 = .ok (.iload_n 2, 1) := by decide +kernel
theorem dX8_answerChance_38 : decode cX8_answerChance 38 = .ok (.bipush (-2), 2) := by decide +kernel
theorem dX8_answerChance_40 : decode cX8_answerChance 40 = .ok (.invokevirtual 143, 3) := by decide +kernel
theorem dX8_answerChance_43 : decode cX8_answerChance 43 = .ok (.aload_n 0, 1) := by decide +kernel
theorem dX8_answerChance_44 : decode cX8_answerChance 44 = .ok (.getfield 23, 3) := by decide +kernel
theorem dX8_answerChance_47 : decode cX8_answerChance 47 = .ok (.aload_n 0, 1) := by decide +kernel
theorem dX8_answerChance_48 : decode cX8_answerChance 48 = .ok (.getfield 66, 3) := by decide +kernel
theorem dX8_answerChance_51 : decode cX8_answerChance 51 = .ok (.iload_n 1, 1) := by decide +kernel
theorem dX8_answerChance_52 : decode cX8_answerChance 52 = .ok (.invokevirtual 172, 3) := by decide +kernel
theorem dX8_answerChance_55 : decode cX8_answerChance 55 = .ok (.lreturn, 1) := by decide +kernel
set_option maxRecDepth 20000 in
theorem ggX8_answerPermille_X8_isCrew : GoodIn wsX8_answerPermille wsX8_isCrew := goodIn_r _ [11] (by decide +kernel) (by decide +kernel)
set_option maxRecDepth 20000 in
theorem gX8_answerPermille_X8_isCrew : GoodIn wsX8_answerPermille (va_wsS RX8 169 yX8_isCrew wsX8_isCrew) := goodIn_app (goodIn_of _ (by decide +kernel)) ggX8_answerPermille_X8_isCrew
set_option maxRecDepth 20000 in
theorem ggX8_answerPermille_X8_canForecast : GoodIn wsX8_answerPermille wsX8_canForecast := goodIn_r _ [15, 2, 3, 16, 17, 18, 10, 19, 80, 81, 82, 83, 84, 85, 86, 87, 88, 89, 90, 91, 92, 93, 94, 95, 96, 97, 98, 99, 100, 101, 102, 103, 104, 105, 106, 107, 108, 124, 125, 126, 127, 128, 129, 130, 131] (by decide +kernel) (by decide +kernel)
set_option maxRecDepth 20000 in
theorem gX8_answerPermille_X8_canForecast : GoodIn wsX8_answerPermille (wsV RX8 158 RX8 yX8_canForecast wsX8_canForecast) := goodIn_app (goodIn_of _ (by decide +kernel)) ggX8_answerPermille_X8_canForecast
set_option maxRecDepth 20000 in
theorem ggX8_answerPermille_X0_lookAhead : GoodIn wsX8_answerPermille wsX0_lookAhead := goodIn_r _ [24, 25, 26, 27, 23, 28, 29, 30, 31, 32, 33, 34, 35, 36, 37, 38, 39, 40, 41, 42, 43, 44, 45, 46, 47, 48, 49, 50, 132, 133, 124, 125, 126, 127, 128, 129, 130, 131] (by decide +kernel) (by decide +kernel)
set_option maxRecDepth 20000 in
theorem gX8_answerPermille_X0_lookAhead : GoodIn wsX8_answerPermille (wsV RX8 143 RX0 yX0_lookAhead wsX0_lookAhead) := goodIn_app (goodIn_of _ (by decide +kernel)) ggX8_answerPermille_X0_lookAhead
set_option maxRecDepth 20000 in
theorem ggX8_answerPermille_X0_answered : GoodIn wsX8_answerPermille wsX0_answered := goodIn_r _ [54, 55, 56, 57, 10, 58, 59, 60, 61, 23, 62, 63, 64, 65, 66, 67, 68, 69, 70, 71, 72, 73, 74, 39, 29, 75, 76, 77, 47, 78, 49, 79, 95, 96, 97, 98, 99, 100, 101, 102, 103, 104, 105, 106, 107, 108, 124, 125, 126, 127, 128, 129, 130, 131, 132, 133] (by decide +kernel) (by decide +kernel)
set_option maxRecDepth 20000 in
theorem gX8_answerPermille_X0_answered : GoodIn wsX8_answerPermille (wsV RX8 172 RX0 yX0_answered wsX0_answered) := goodIn_app (goodIn_of _ (by decide +kernel)) ggX8_answerPermille_X0_answered
theorem dX8_answerPermille_0 : decode cX8_answerPermille 0 = .ok (.iload_n 1, 1) := by decide +kernel
theorem dX8_answerPermille_1 : decode cX8_answerPermille 1 = .ok (.invokestatic 169, 3) := by decide +kernel
theorem dX8_answerPermille_4 : decode cX8_answerPermille 4 = .ok (.ifCond .eq 11, 3) := by decide +kernel
theorem dX8_answerPermille_7 : decode cX8_answerPermille 7 = .ok (.aload_n 0, 1) := by decide +kernel
theorem dX8_answerPermille_8 : decode cX8_answerPermille 8 = .ok (.iload_n 2, 1) := by decide +kernel
theorem dX8_answerPermille_9 : decode cX8_answerPermille 9 = .ok (.invokevirtual 158, 3) := by decide +kernel
theorem dX8_answerPermille_12 : decode cX8_answerPermille 12 = .ok (.ifCond .ne 5, 3) := by decide +kernel
theorem dX8_answerPermille_15 : decode cX8_answerPermille 15 = .ok (.iconst (-1), 1) := by decide +kernel
theorem dX8_answerPermille_16 : decode cX8_answerPermille 16 = .ok (.ireturn, 1) := by decide +kernel
theorem dX8_answerPermille_17 : decode cX8_answerPermille 17 = .ok (.aload_n 0, 1) := by decide +kernel
theorem dX8_answerPermille_18 : decode cX8_answerPermille 18 = .ok (.getfield 23, 3) := by decide +kernel
theorem dX8_answerPermille_21 : decode cX8_answerPermille 21 = .ok (.aload_n 0, 1) := by decide +kernel
theorem dX8_answerPermille_22 : decode cX8_answerPermille 22 = .ok (.getfield 66, 3) := by decide +kernel
theorem dX8_answerPermille_25 : decode cX8_answerPermille 25 = .ok (.getfield 103, 3) := by decide +kernel
theorem dX8_answerPermille_28 : decode cX8_answerPermille 28 = .ok (.aload_n 0, 1) := by decide +kernel
theorem dX8_answerPermille_29 : decode cX8_answerPermille 29 = .ok (.getfield 44, 3) := by decide +kernel
theorem dX8_answerPermille_32 : decode cX8_answerPermille 32 = .ok (.getfield 140, 3) := by decide +kernel
theorem dX8_answerPermille_35 : decode cX8_answerPermille 35 = .ok (.iload_n 2, 1) := by decide +kernel
theorem dX8_answerPermille_36 : decode cX8_answerPermille 36 = .ok (.bipush (-2), 2) := by decide +kernel
theorem dX8_answerPermille_38 : decode cX8_answerPermille 38 = .ok (.invokevirtual 143, 3) := by decide +kernel
theorem dX8_answerPermille_41 : decode cX8_answerPermille 41 = .ok (.aload_n 0, 1) := by decide +kernel
theorem dX8_answerPermille_42 : decode cX8_answerPermille 42 = .ok (.getfield 23, 3) := by decide +kernel
theorem dX8_answerPermille_45 : decode cX8_answerPermille 45 = .ok (.aload_n 0, 1) := by decide +kernel
theorem dX8_answerPermille_46 : decode cX8_answerPermille 46 = .ok (.getfield 66, 3) := by decide +kernel
theorem dX8_answerPermille_49 : decode cX8_answerPermille 49 = .ok (.iload_n 1, 1) := by decide +kernel
theorem dX8_answerPermille_50 : decode cX8_answerPermille 50 = .ok (.invokevirtual 172, 3) := by decide +kernel
theorem dX8_answerPermille_53 : decode cX8_answerPermille 53 = .ok (.ldc2_w 176, 3) := by decide +kernel
theorem dX8_answerPermille_56 : decode cX8_answerPermille 56 = .ok (.lmul, 1) := by decide +kernel
theorem dX8_answerPermille_57 : decode cX8_answerPermille 57 = .ok (.lstore_n 3, 1) := by decide +kernel
