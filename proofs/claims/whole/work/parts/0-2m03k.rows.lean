theorem dX9_draw_14 : decode cX9_draw 14 = .ok (.ladd, 1) := by decide +kernel
theorem dX9_draw_15 : decode cX9_draw 15 = .ok (.ldc2_w 311, 3) := by decide +kernel
theorem dX9_draw_18 : decode cX9_draw 18 = .ok (.lrem, 1) := by decide +kernel
theorem dX9_draw_19 : decode cX9_draw 19 = .ok (.lstore_n 1, 1) := by decide +kernel
theorem dX9_draw_20 : decode cX9_draw 20 = .ok (.aload_n 0, 1) := by decide +kernel
theorem dX9_draw_21 : decode cX9_draw 21 = .ok (.getfield 13, 3) := by decide +kernel
theorem dX9_draw_24 : decode cX9_draw 24 = .ok (.iconst 2, 1) := by decide +kernel
theorem dX9_draw_25 : decode cX9_draw 25 = .ok (.lload_n 1, 1) := by decide +kernel
theorem dX9_draw_26 : decode cX9_draw 26 = .ok (.l2i, 1) := by decide +kernel
theorem dX9_draw_27 : decode cX9_draw 27 = .ok (.iastore, 1) := by decide +kernel
theorem dX9_draw_28 : decode cX9_draw 28 = .ok (.lload_n 1, 1) := by decide +kernel
theorem dX9_draw_29 : decode cX9_draw 29 = .ok (.ldc2_w 313, 3) := by decide +kernel
theorem dX9_draw_32 : decode cX9_draw 32 = .ok (.ldiv, 1) := by decide +kernel
theorem dX9_draw_33 : decode cX9_draw 33 = .ok (.ldc2_w 315, 3) := by decide +kernel
theorem dX9_draw_36 : decode cX9_draw 36 = .ok (.lrem, 1) := by decide +kernel
theorem dX9_draw_37 : decode cX9_draw 37 = .ok (.l2i, 1) := by decide +kernel
theorem dX9_draw_38 : decode cX9_draw 38 = .ok (.ireturn, 1) := by decide +kernel
set_option maxRecDepth 20000 in
theorem ggX9_notes_X9_copies : GoodIn wsX9_notes wsX9_copies := goodIn_r _ [5] (by decide +kernel) (by decide +kernel)
set_option maxRecDepth 20000 in
theorem gX9_notes_X9_copies : GoodIn wsX9_notes (va_wsS RX9 232 yX9_copies wsX9_copies) := goodIn_app (goodIn_of _ (by decide +kernel)) ggX9_notes_X9_copies
theorem dX9_notes_0 : decode cX9_notes 0 = .ok (.aload_n 0, 1) := by decide +kernel
theorem dX9_notes_1 : decode cX9_notes 1 = .ok (.getfield 13, 3) := by decide +kernel
theorem dX9_notes_4 : decode cX9_notes 4 = .ok (.sipush 164, 3) := by decide +kernel
theorem dX9_notes_7 : decode cX9_notes 7 = .ok (.iaload, 1) := by decide +kernel
theorem dX9_notes_8 : decode cX9_notes 8 = .ok (.bipush 16, 2) := by decide +kernel
theorem dX9_notes_10 : decode cX9_notes 10 = .ok (.if_icmp .ne 72, 3) := by decide +kernel
theorem dX9_notes_13 : decode cX9_notes 13 = .ok (.aload_n 0, 1) := by decide +kernel
theorem dX9_notes_14 : decode cX9_notes 14 = .ok (.getfield 13, 3) := by decide +kernel
theorem dX9_notes_17 : decode cX9_notes 17 = .ok (.sipush 164, 3) := by decide +kernel
theorem dX9_notes_20 : decode cX9_notes 20 = .ok (.dup2, 1) := by decide +kernel
theorem dX9_notes_21 : decode cX9_notes 21 = .ok (.iaload, 1) := by decide +kernel
theorem dX9_notes_22 : decode cX9_notes 22 = .ok (.iconst 1, 1) := by decide +kernel
theorem dX9_notes_23 : decode cX9_notes 23 = .ok (.isub, 1) := by decide +kernel
theorem dX9_notes_24 : decode cX9_notes 24 = .ok (.iastore, 1) := by decide +kernel
theorem dX9_notes_25 : decode cX9_notes 25 = .ok (.aload_n 0, 1) := by decide +kernel
theorem dX9_notes_26 : decode cX9_notes 26 = .ok (.getfield 13, 3) := by decide +kernel
theorem dX9_notes_29 : decode cX9_notes 29 = .ok (.sipush 166, 3) := by decide +kernel
theorem dX9_notes_32 : decode cX9_notes 32 = .ok (.aload_n 0, 1) := by decide +kernel
theorem dX9_notes_33 : decode cX9_notes 33 = .ok (.getfield 13, 3) := by decide +kernel
theorem dX9_notes_36 : decode cX9_notes 36 = .ok (.sipush 165, 3) := by decide +kernel
theorem dX9_notes_39 : decode cX9_notes 39 = .ok (.bipush 15, 2) := by decide +kernel
theorem dX9_notes_41 : decode cX9_notes 41 = .ok (.invokestatic 232, 3) := by decide +kernel
theorem dX9_notes_44 : decode cX9_notes 44 = .ok (.aload_n 0, 1) := by decide +kernel
theorem dX9_notes_45 : decode cX9_notes 45 = .ok (.getfield 13, 3) := by decide +kernel
theorem dX9_notes_48 : decode cX9_notes 48 = .ok (.sipush 182, 3) := by decide +kernel
theorem dX9_notes_51 : decode cX9_notes 51 = .ok (.aload_n 0, 1) := by decide +kernel
theorem dX9_notes_52 : decode cX9_notes 52 = .ok (.getfield 13, 3) := by decide +kernel
theorem dX9_notes_55 : decode cX9_notes 55 = .ok (.sipush 181, 3) := by decide +kernel
theorem dX9_notes_58 : decode cX9_notes 58 = .ok (.bipush 15, 2) := by decide +kernel
theorem dX9_notes_60 : decode cX9_notes 60 = .ok (.invokestatic 232, 3) := by decide +kernel
theorem dX9_notes_63 : decode cX9_notes 63 = .ok (.aload_n 0, 1) := by decide +kernel
theorem dX9_notes_64 : decode cX9_notes 64 = .ok (.getfield 13, 3) := by decide +kernel
theorem dX9_notes_67 : decode cX9_notes 67 = .ok (.sipush 198, 3) := by decide +kernel
theorem dX9_notes_70 : decode cX9_notes 70 = .ok (.aload_n 0, 1) := by decide +kernel
theorem dX9_notes_71 : decode cX9_notes 71 = .ok (.getfield 13, 3) := by decide +kernel
theorem dX9_notes_74 : decode cX9_notes 74 = .ok (.sipush 197, 3) := by decide +kernel
theorem dX9_notes_77 : decode cX9_notes 77 = .ok (.bipush 15, 2) := by decide +kernel
theorem dX9_notes_79 : decode cX9_notes 79 = .ok (.invokestatic 232, 3) := by decide +kernel
theorem dX9_notes_82 : decode cX9_notes 82 = .ok (.aload_n 0, 1) := by decide +kernel
theorem dX9_notes_83 : decode cX9_notes 83 = .ok (.getfield 13, 3) := by decide +kernel
theorem dX9_notes_86 : decode cX9_notes 86 = .ok (.sipush 165, 3) := by decide +kernel
theorem dX9_notes_89 : decode cX9_notes 89 = .ok (.aload_n 0, 1) := by decide +kernel
theorem dX9_notes_90 : decode cX9_notes 90 = .ok (.getfield 13, 3) := by decide +kernel
theorem dX9_notes_93 : decode cX9_notes 93 = .ok (.sipush 164, 3) := by decide +kernel
theorem dX9_notes_96 : decode cX9_notes 96 = .ok (.iaload, 1) := by decide +kernel
theorem dX9_notes_97 : decode cX9_notes 97 = .ok (.iadd, 1) := by decide +kernel
theorem dX9_notes_98 : decode cX9_notes 98 = .ok (.iload_n 1, 1) := by decide +kernel
theorem dX9_notes_99 : decode cX9_notes 99 = .ok (.iastore, 1) := by decide +kernel
theorem dX9_notes_100 : decode cX9_notes 100 = .ok (.aload_n 0, 1) := by decide +kernel
theorem dX9_notes_101 : decode cX9_notes 101 = .ok (.getfield 13, 3) := by decide +kernel
theorem dX9_notes_104 : decode cX9_notes 104 = .ok (.sipush 181, 3) := by decide +kernel
theorem dX9_notes_107 : decode cX9_notes 107 = .ok (.aload_n 0, 1) := by decide +kernel
theorem dX9_notes_108 : decode cX9_notes 108 = .ok (.getfield 13, 3) := by decide +kernel
theorem dX9_notes_111 : decode cX9_notes 111 = .ok (.sipush 164, 3) := by decide +kernel
theorem dX9_notes_114 : decode cX9_notes 114 = .ok (.iaload, 1) := by decide +kernel
theorem dX9_notes_115 : decode cX9_notes 115 = .ok (.iadd, 1) := by decide +kernel
theorem dX9_notes_116 : decode cX9_notes 116 = .ok (.iload_n 2, 1) := by decide +kernel
theorem dX9_notes_117 : decode cX9_notes 117 = .ok (.iastore, 1) := by decide +kernel
theorem dX9_notes_118 : decode cX9_notes 118 = .ok (.aload_n 0, 1) := by decide +kernel
theorem dX9_notes_119 : decode cX9_notes 119 = .ok (.getfield 13, 3) := by decide +kernel
theorem dX9_notes_122 : decode cX9_notes 122 = .ok (.sipush 197, 3) := by decide +kernel
theorem dX9_notes_125 : decode cX9_notes 125 = .ok (.aload_n 0, 1) := by decide +kernel
theorem dX9_notes_126 : decode cX9_notes 126 = .ok (.getfield 13, 3) := by decide +kernel
theorem dX9_notes_129 : decode cX9_notes 129 = .ok (.sipush 164, 3) := by decide +kernel
theorem dX9_notes_132 : decode cX9_notes 132 = .ok (.iaload, 1) := by decide +kernel
theorem dX9_notes_133 : decode cX9_notes 133 = .ok (.iadd, 1) := by decide +kernel
theorem dX9_notes_134 : decode cX9_notes 134 = .ok (.aload_n 0, 1) := by decide +kernel
theorem dX9_notes_135 : decode cX9_notes 135 = .ok (.getfield 13, 3) := by decide +kernel
theorem dX9_notes_138 : decode cX9_notes 138 = .ok (.iconst 0, 1) := by decide +kernel
theorem dX9_notes_139 : decode cX9_notes 139 = .ok (.iaload, 1) := by decide +kernel
theorem dX9_notes_140 : decode cX9_notes 140 = .ok (.iastore, 1) := by decide +kernel
theorem dX9_notes_141 : decode cX9_notes 141 = .ok (.aload_n 0, 1) := by decide +kernel
theorem dX9_notes_142 : decode cX9_notes 142 = .ok (.getfield 13, 3) := by decide +kernel
theorem dX9_notes_145 : decode cX9_notes 145 = .ok (.sipush 164, 3) := by decide +kernel
theorem dX9_notes_148 : decode cX9_notes 148 = .ok (.dup2, 1) := by decide +kernel
theorem dX9_notes_149 : decode cX9_notes 149 = .ok (.iaload, 1) := by decide +kernel
theorem dX9_notes_150 : decode cX9_notes 150 = .ok (.iconst 1, 1) := by decide +kernel
theorem dX9_notes_151 : decode cX9_notes 151 = .ok (.iadd, 1) := by decide +kernel
theorem dX9_notes_152 : decode cX9_notes 152 = .ok (.iastore, 1) := by decide +kernel
theorem dX9_notes_153 : decode cX9_notes 153 = .ok (.return_, 1) := by decide +kernel
set_option maxRecDepth 20000 in
theorem ggX9_become_X9_has : GoodIn wsX9_become wsX9_has := goodIn_r _ [6] (by decide +kernel) (by decide +kernel)
set_option maxRecDepth 20000 in
theorem gX9_become_X9_has : GoodIn wsX9_become (va_wsS RX9 173 yX9_has wsX9_has) := goodIn_app (goodIn_of _ (by decide +kernel)) ggX9_become_X9_has
theorem dX9_become_0 : decode cX9_become 0 = .ok (.iconst 0, 1) := by decide +kernel
theorem dX9_become_1 : decode cX9_become 1 = .ok (.istore_n 3, 1) := by decide +kernel
theorem dX9_become_2 : decode cX9_become 2 = .ok (.iload_n 3, 1) := by decide +kernel
theorem dX9_become_3 : decode cX9_become 3 = .ok (.aload_n 0, 1) := by decide +kernel
theorem dX9_become_4 : decode cX9_become 4 = .ok (.getfield 62, 3) := by decide +kernel
theorem dX9_become_7 : decode cX9_become 7 = .ok (.iconst 0, 1) := by decide +kernel
theorem dX9_become_8 : decode cX9_become 8 = .ok (.iaload, 1) := by decide +kernel
theorem dX9_become_9 : decode cX9_become 9 = .ok (.if_icmp .ge 39, 3) := by decide +kernel
theorem dX9_become_12 : decode cX9_become 12 = .ok (.aload_n 0, 1) := by decide +kernel
theorem dX9_become_13 : decode cX9_become 13 = .ok (.getfield 13, 3) := by decide +kernel
theorem dX9_become_16 : decode cX9_become 16 = .ok (.bipush 35, 2) := by decide +kernel
theorem dX9_become_18 : decode cX9_become 18 = .ok (.iload_n 3, 1) := by decide +kernel
theorem dX9_become_19 : decode cX9_become 19 = .ok (.iadd, 1) := by decide +kernel
theorem dX9_become_20 : decode cX9_become 20 = .ok (.iload_n 1, 1) := by decide +kernel
theorem dX9_become_21 : decode cX9_become 21 = .ok (.iload_n 3, 1) := by decide +kernel
theorem dX9_become_22 : decode cX9_become 22 = .ok (.invokestatic 173, 3) := by decide +kernel
theorem dX9_become_25 : decode cX9_become 25 = .ok (.ifCond .eq 7, 3) := by decide +kernel
theorem dX9_become_28 : decode cX9_become 28 = .ok (.iload_n 2, 1) := by decide +kernel
theorem dX9_become_29 : decode cX9_become 29 = .ok (.goto 12, 3) := by decide +kernel
theorem dX9_become_32 : decode cX9_become 32 = .ok (.aload_n 0, 1) := by decide +kernel
theorem dX9_become_33 : decode cX9_become 33 = .ok (.getfield 13, 3) := by decide +kernel
theorem dX9_become_36 : decode cX9_become 36 = .ok (.bipush 35, 2) := by decide +kernel
theorem dX9_become_38 : decode cX9_become 38 = .ok (.iload_n 3, 1) := by decide +kernel
theorem dX9_become_39 : decode cX9_become 39 = .ok (.iadd, 1) := by decide +kernel
theorem dX9_become_40 : decode cX9_become 40 = .ok (.iaload, 1) := by decide +kernel
theorem dX9_become_41 : decode cX9_become 41 = .ok (.iastore, 1) := by decide +kernel
theorem dX9_become_42 : decode cX9_become 42 = .ok (.iinc 3 1, 3) := by decide +kernel
theorem dX9_become_45 : decode cX9_become 45 = .ok (.goto (-43), 3) := by decide +kernel
theorem dX9_become_48 : decode cX9_become 48 = .ok (.return_, 1) := by decide +kernel
set_option maxRecDepth 20000 in
theorem ggX9_regionDrawn_X9_draw : GoodIn wsX9_regionDrawn wsX9_draw := goodIn_r _ [9, 1, 10, 11, 12, 13, 14, 15, 16, 17, 18, 19, 20, 21, 22, 23, 24, 25, 26, 27, 28, 29, 30, 31, 32, 33, 34, 35, 36, 37, 38, 39, 40, 41, 42, 43, 44, 45, 46, 47, 48, 49, 50, 51, 52, 53, 54, 55, 56, 57, 58, 59] (by decide +kernel) (by decide +kernel)
set_option maxRecDepth 20000 in
theorem gX9_regionDrawn_X9_draw : GoodIn wsX9_regionDrawn (wsV RX9 317 RX9 yX9_draw wsX9_draw) := goodIn_app (goodIn_of _ (by decide +kernel)) ggX9_regionDrawn_X9_draw
theorem dX9_regionDrawn_0 : decode cX9_regionDrawn 0 = .ok (.aload_n 0, 1) := by decide +kernel
theorem dX9_regionDrawn_1 : decode cX9_regionDrawn 1 = .ok (.getfield 13, 3) := by decide +kernel
theorem dX9_regionDrawn_4 : decode cX9_regionDrawn 4 = .ok (.iconst 1, 1) := by decide +kernel
theorem dX9_regionDrawn_5 : decode cX9_regionDrawn 5 = .ok (.iaload, 1) := by decide +kernel
theorem dX9_regionDrawn_6 : decode cX9_regionDrawn 6 = .ok (.istore_n 1, 1) := by decide +kernel
theorem dX9_regionDrawn_7 : decode cX9_regionDrawn 7 = .ok (.aload_n 0, 1) := by decide +kernel
theorem dX9_regionDrawn_8 : decode cX9_regionDrawn 8 = .ok (.invokevirtual 317, 3) := by decide +kernel
theorem dX9_regionDrawn_11 : decode cX9_regionDrawn 11 = .ok (.istore_n 2, 1) := by decide +kernel
theorem dX9_regionDrawn_12 : decode cX9_regionDrawn 12 = .ok (.iconst 0, 1) := by decide +kernel
theorem dX9_regionDrawn_13 : decode cX9_regionDrawn 13 = .ok (.istore_n 3, 1) := by decide +kernel
theorem dX9_regionDrawn_14 : decode cX9_regionDrawn 14 = .ok (.iload_n 3, 1) := by decide +kernel
theorem dX9_regionDrawn_15 : decode cX9_regionDrawn 15 = .ok (.aload_n 0, 1) := by decide +kernel
theorem dX9_regionDrawn_16 : decode cX9_regionDrawn 16 = .ok (.getfield 32, 3) := by decide +kernel
theorem dX9_regionDrawn_19 : decode cX9_regionDrawn 19 = .ok (.iload_n 1, 1) := by decide +kernel
theorem dX9_regionDrawn_20 : decode cX9_regionDrawn 20 = .ok (.iaload, 1) := by decide +kernel
theorem dX9_regionDrawn_21 : decode cX9_regionDrawn 21 = .ok (.if_icmp .ge 50, 3) := by decide +kernel
theorem dX9_regionDrawn_24 : decode cX9_regionDrawn 24 = .ok (.iload_n 2, 1) := by decide +kernel
theorem dX9_regionDrawn_25 : decode cX9_regionDrawn 25 = .ok (.aload_n 0, 1) := by decide +kernel
theorem dX9_regionDrawn_26 : decode cX9_regionDrawn 26 = .ok (.getfield 38, 3) := by decide +kernel
theorem dX9_regionDrawn_29 : decode cX9_regionDrawn 29 = .ok (.bipush 8, 2) := by decide +kernel
theorem dX9_regionDrawn_31 : decode cX9_regionDrawn 31 = .ok (.iload_n 1, 1) := by decide +kernel
theorem dX9_regionDrawn_32 : decode cX9_regionDrawn 32 = .ok (.imul, 1) := by decide +kernel
theorem dX9_regionDrawn_33 : decode cX9_regionDrawn 33 = .ok (.iload_n 3, 1) := by decide +kernel
theorem dX9_regionDrawn_34 : decode cX9_regionDrawn 34 = .ok (.iadd, 1) := by decide +kernel
theorem dX9_regionDrawn_35 : decode cX9_regionDrawn 35 = .ok (.iaload, 1) := by decide +kernel
theorem dX9_regionDrawn_36 : decode cX9_regionDrawn 36 = .ok (.if_icmp .ge 15, 3) := by decide +kernel
theorem dX9_regionDrawn_39 : decode cX9_regionDrawn 39 = .ok (.aload_n 0, 1) := by decide +kernel
theorem dX9_regionDrawn_40 : decode cX9_regionDrawn 40 = .ok (.getfield 35, 3) := by decide +kernel
theorem dX9_regionDrawn_43 : decode cX9_regionDrawn 43 = .ok (.bipush 8, 2) := by decide +kernel
theorem dX9_regionDrawn_45 : decode cX9_regionDrawn 45 = .ok (.iload_n 1, 1) := by decide +kernel
theorem dX9_regionDrawn_46 : decode cX9_regionDrawn 46 = .ok (.imul, 1) := by decide +kernel
theorem dX9_regionDrawn_47 : decode cX9_regionDrawn 47 = .ok (.iload_n 3, 1) := by decide +kernel
theorem dX9_regionDrawn_48 : decode cX9_regionDrawn 48 = .ok (.iadd, 1) := by decide +kernel
theorem dX9_regionDrawn_49 : decode cX9_regionDrawn 49 = .ok (.iaload, 1) := by decide +kernel
theorem dX9_regionDrawn_50 : decode cX9_regionDrawn 50 = .ok (.ireturn, 1) := by decide +kernel
theorem dX9_regionDrawn_51 : decode cX9_regionDrawn 51 = .ok (.iload_n 2, 1) := by decide +kernel
theorem dX9_regionDrawn_52 : decode cX9_regionDrawn 52 = .ok (.aload_n 0, 1) := by decide +kernel
theorem dX9_regionDrawn_53 : decode cX9_regionDrawn 53 = .ok (.getfield 38, 3) := by decide +kernel
theorem dX9_regionDrawn_56 : decode cX9_regionDrawn 56 = .ok (.bipush 8, 2) := by decide +kernel
theorem dX9_regionDrawn_58 : decode cX9_regionDrawn 58 = .ok (.iload_n 1, 1) := by decide +kernel
theorem dX9_regionDrawn_59 : decode cX9_regionDrawn 59 = .ok (.imul, 1) := by decide +kernel
theorem dX9_regionDrawn_60 : decode cX9_regionDrawn 60 = .ok (.iload_n 3, 1) := by decide +kernel
theorem dX9_regionDrawn_61 : decode cX9_regionDrawn 61 = .ok (.iadd, 1) := by decide +kernel
theorem dX9_regionDrawn_62 : decode cX9_regionDrawn 62 = .ok (.iaload, 1) := by decide +kernel
theorem dX9_regionDrawn_63 : decode cX9_regionDrawn 63 = .ok (.isub, 1) := by decide +kernel
theorem dX9_regionDrawn_64 : decode cX9_regionDrawn 64 = .ok (.istore_n 2, 1) := by decide +kernel
theorem dX9_regionDrawn_65 : decode cX9_regionDrawn 65 = .ok (.iinc 3 1, 3) := by decide +kernel
theorem dX9_regionDrawn_68 : decode cX9_regionDrawn 68 = .ok (.goto (-54), 3) := by decide +kernel
theorem dX9_regionDrawn_71 : decode cX9_regionDrawn 71 = .ok (.bipush (-2), 2) := by decide +kernel
theorem dX9_regionDrawn_73 : decode cX9_regionDrawn 73 = .ok (.ireturn, 1) := by decide +kernel
set_option maxRecDepth 20000 in
theorem ggX9_launch_X9_isBalloon : GoodIn wsX9_launch wsX9_isBalloon := goodIn_r _ [14, 15, 16, 17, 13, 18, 68, 69, 70, 71, 72, 73, 74, 75, 76, 77, 78, 79, 80, 81, 82, 83, 84, 85, 86, 87, 88, 89, 90, 91, 92, 93, 94, 95, 96, 97, 98, 99, 100, 101, 102, 103, 104, 105, 106, 107, 108, 109, 110, 111, 112] (by decide +kernel) (by decide +kernel)
set_option maxRecDepth 20000 in
theorem gX9_launch_X9_isBalloon : GoodIn wsX9_launch (wsV RX9 246 RX9 yX9_isBalloon wsX9_isBalloon) := goodIn_app (goodIn_of _ (by decide +kernel)) ggX9_launch_X9_isBalloon
set_option maxRecDepth 20000 in
theorem ggX9_launch_X9_areLetters : GoodIn wsX9_launch wsX9_areLetters := goodIn_r _ [22, 23, 16, 17, 13, 18, 68, 69, 70, 71, 72, 73, 74, 75, 76, 77, 78, 79, 80, 81, 82, 83, 84, 85, 86, 87, 88, 89, 90, 91, 92, 93, 94, 95, 96, 97, 98, 99, 100, 101, 102, 103, 104, 105, 106, 107, 108, 109, 110, 111, 112] (by decide +kernel) (by decide +kernel)
set_option maxRecDepth 20000 in
theorem gX9_launch_X9_areLetters : GoodIn wsX9_launch (wsV RX9 297 RX9 yX9_areLetters wsX9_areLetters) := goodIn_app (goodIn_of _ (by decide +kernel)) ggX9_launch_X9_areLetters
set_option maxRecDepth 20000 in
theorem ggX9_launch_X9_inState : GoodIn wsX9_launch wsX9_inState := goodIn_r _ [27, 23, 2, 68, 69, 70, 71, 72, 73, 74, 75, 76, 77, 78, 79, 80, 81, 82, 83, 84, 85, 86, 87, 88, 89, 90, 91, 92, 93, 94, 95, 96, 97, 98, 99, 100, 101, 102, 103, 104, 105, 106, 107, 108, 109, 110, 111, 112] (by decide +kernel) (by decide +kernel)
set_option maxRecDepth 20000 in
theorem gX9_launch_X9_inState : GoodIn wsX9_launch (wsV RX9 304 RX9 yX9_inState wsX9_inState) := goodIn_app (goodIn_of _ (by decide +kernel)) ggX9_launch_X9_inState
set_option maxRecDepth 20000 in
theorem ggX9_launch_X9_sumOf : GoodIn wsX9_launch wsX9_sumOf := goodIn_r _ [31, 23, 32, 33, 13, 34, 68, 69, 70, 71, 72, 73, 74, 75, 76, 77, 78, 79, 80, 81, 82, 83, 84, 85, 86, 87, 88, 89, 90, 91, 92, 93, 94, 95, 96, 97, 98, 99, 100, 101, 102, 103, 104, 105, 106, 107, 108, 109, 110, 111, 112] (by decide +kernel) (by decide +kernel)
set_option maxRecDepth 20000 in
theorem gX9_launch_X9_sumOf : GoodIn wsX9_launch (wsV RX9 300 RX9 yX9_sumOf wsX9_sumOf) := goodIn_app (goodIn_of _ (by decide +kernel)) ggX9_launch_X9_sumOf
set_option maxRecDepth 20000 in
theorem ggX9_launch_X9_keeps : GoodIn wsX9_launch wsX9_keeps := goodIn_r _ [38, 39, 40, 2, 41, 42, 13, 43, 68, 69, 70, 71, 72, 73, 74, 75, 76, 77, 78, 79, 80, 81, 82, 83, 84, 85, 86, 87, 88, 89, 90, 91, 92, 93, 94, 95, 96, 97, 98, 99, 100, 101, 102, 103, 104, 105, 106, 107, 108, 109, 110, 111, 112] (by decide +kernel) (by decide +kernel)
set_option maxRecDepth 20000 in
theorem gX9_launch_X9_keeps : GoodIn wsX9_launch (wsV RX9 320 RX9 yX9_keeps wsX9_keeps) := goodIn_app (goodIn_of _ (by decide +kernel)) ggX9_launch_X9_keeps
set_option maxRecDepth 20000 in
theorem ggX9_launch_X9_regionDrawn : GoodIn wsX9_launch wsX9_regionDrawn := goodIn_r _ [47, 2, 48, 49, 50, 51, 52, 53, 13, 54, 55, 56, 57, 58, 59, 68, 69, 70, 71, 72, 73, 74, 75, 76, 77, 78, 79, 80, 81, 82, 83, 84, 85, 86, 87, 88, 89, 90, 91, 92, 93, 94, 95, 96, 97, 98, 99, 100, 101, 102, 103, 104, 105, 106, 107, 108, 109, 110, 111, 112] (by decide +kernel) (by decide +kernel)
set_option maxRecDepth 20000 in
theorem gX9_launch_X9_regionDrawn : GoodIn wsX9_launch (wsV RX9 323 RX9 yX9_regionDrawn wsX9_regionDrawn) := goodIn_app (goodIn_of _ (by decide +kernel)) ggX9_launch_X9_regionDrawn
set_option maxRecDepth 20000 in
theorem ggX9_launch_X9_draw : GoodIn wsX9_launch wsX9_draw := goodIn_r _ [54, 2, 55, 56, 57, 58, 59, 68, 69, 70, 71, 72, 73, 74, 75, 76, 77, 78, 79, 80, 81, 82, 83, 84, 85, 86, 87, 88, 89, 90, 91, 92, 93, 94, 95, 96, 97, 98, 99, 100, 101, 102, 103, 104, 105, 106, 107, 108, 109, 110, 111, 112] (by decide +kernel) (by decide +kernel)
set_option maxRecDepth 20000 in
theorem gX9_launch_X9_draw : GoodIn wsX9_launch (wsV RX9 317 RX9 yX9_draw wsX9_draw) := goodIn_app (goodIn_of _ (by decide +kernel)) ggX9_launch_X9_draw
set_option maxRecDepth 20000 in
theorem ggX9_launch_X9_become : GoodIn wsX9_launch wsX9_become := goodIn_r _ [63, 23, 2, 32, 33, 13, 34, 68, 69, 70, 71, 72, 73, 74, 75, 76, 77, 78, 79, 80, 81, 82, 83, 84, 85, 86, 87, 88, 89, 90, 91, 92, 93, 94, 95, 96, 97, 98, 99, 100, 101, 102, 103, 104, 105, 106, 107, 108, 109, 110, 111, 112] (by decide +kernel) (by decide +kernel)
set_option maxRecDepth 20000 in
theorem gX9_launch_X9_become : GoodIn wsX9_launch (wsV RX9 326 RX9 yX9_become wsX9_become) := goodIn_app (goodIn_of _ (by decide +kernel)) ggX9_launch_X9_become
set_option maxRecDepth 20000 in
theorem ggX9_launch_X9_notes : GoodIn wsX9_launch wsX9_notes := goodIn_r _ [67, 2, 41, 42, 13, 43, 68, 69, 70, 71, 72, 73, 74, 75, 76, 77, 78, 79, 80, 81, 82, 83, 84, 85, 86, 87, 88, 89, 90, 91, 92, 93, 94, 95, 96, 97, 98, 99, 100, 101, 102, 103, 104, 105, 106, 107, 108, 109, 110, 111, 112] (by decide +kernel) (by decide +kernel)
set_option maxRecDepth 20000 in
theorem gX9_launch_X9_notes : GoodIn wsX9_launch (wsV RX9 329 RX9 yX9_notes wsX9_notes) := goodIn_app (goodIn_of _ (by decide +kernel)) ggX9_launch_X9_notes
theorem dX9_launch_0 : decode cX9_launch 0 = .ok (.aload_n 0, 1) := by decide +kernel
theorem dX9_launch_1 : decode cX9_launch 1 = .ok (.iconst 0, 1) := by decide +kernel
theorem dX9_launch_2 : decode cX9_launch 2 = .ok (.putfield 1, 3) := by decide +kernel
theorem dX9_launch_5 : decode cX9_launch 5 = .ok (.aload_n 0, 1) := by decide +kernel
theorem dX9_launch_6 : decode cX9_launch 6 = .ok (.iload_n 1, 1) := by decide +kernel
theorem dX9_launch_7 : decode cX9_launch 7 = .ok (.invokevirtual 246, 3) := by decide +kernel
theorem dX9_launch_10 : decode cX9_launch 10 = .ok (.ifCond .eq 11, 3) := by decide +kernel
theorem dX9_launch_13 : decode cX9_launch 13 = .ok (.aload_n 0, 1) := by decide +kernel
theorem dX9_launch_14 : decode cX9_launch 14 = .ok (.iload_n 2, 1) := by decide +kernel
theorem dX9_launch_15 : decode cX9_launch 15 = .ok (.invokevirtual 297, 3) := by decide +kernel
theorem dX9_launch_18 : decode cX9_launch 18 = .ok (.ifCond .ne 5, 3) := by decide +kernel
theorem dX9_launch_21 : decode cX9_launch 21 = .ok (.iconst (-1), 1) := by decide +kernel
theorem dX9_launch_22 : decode cX9_launch 22 = .ok (.ireturn, 1) := by decide +kernel
theorem dX9_launch_23 : decode cX9_launch 23 = .ok (.aload_n 0, 1) := by decide +kernel
theorem dX9_launch_24 : decode cX9_launch 24 = .ok (.getfield 13, 3) := by decide +kernel
theorem dX9_launch_27 : decode cX9_launch 27 = .ok (.iconst 5, 1) := by decide +kernel
theorem dX9_launch_28 : decode cX9_launch 28 = .ok (.iload_n 1, 1) := by decide +kernel
theorem dX9_launch_29 : decode cX9_launch 29 = .ok (.iadd, 1) := by decide +kernel
theorem dX9_launch_30 : decode cX9_launch 30 = .ok (.iaload, 1) := by decide +kernel
theorem dX9_launch_31 : decode cX9_launch 31 = .ok (.ifCond .ne 24, 3) := by decide +kernel
theorem dX9_launch_34 : decode cX9_launch 34 = .ok (.iload_n 2, 1) := by decide +kernel
theorem dX9_launch_35 : decode cX9_launch 35 = .ok (.aload_n 0, 1) := by decide +kernel
theorem dX9_launch_36 : decode cX9_launch 36 = .ok (.iconst 0, 1) := by decide +kernel
theorem dX9_launch_37 : decode cX9_launch 37 = .ok (.invokevirtual 304, 3) := by decide +kernel
theorem dX9_launch_40 : decode cX9_launch 40 = .ok (.iconst (-1), 1) := by decide +kernel
theorem dX9_launch_41 : decode cX9_launch 41 = .ok (.ixor, 1) := by decide +kernel
theorem dX9_launch_42 : decode cX9_launch 42 = .ok (.iand, 1) := by decide +kernel
theorem dX9_launch_43 : decode cX9_launch 43 = .ok (.ifCond .ne 12, 3) := by decide +kernel
theorem dX9_launch_46 : decode cX9_launch 46 = .ok (.aload_n 0, 1) := by decide +kernel
theorem dX9_launch_47 : decode cX9_launch 47 = .ok (.getfield 29, 3) := by decide +kernel
theorem dX9_launch_50 : decode cX9_launch 50 = .ok (.iconst 0, 1) := by decide +kernel
theorem dX9_launch_51 : decode cX9_launch 51 = .ok (.iaload, 1) := by decide +kernel
theorem dX9_launch_52 : decode cX9_launch 52 = .ok (.ifCond .ne 6, 3) := by decide +kernel
theorem dX9_launch_55 : decode cX9_launch 55 = .ok (.bipush (-2), 2) := by decide +kernel
theorem dX9_launch_57 : decode cX9_launch 57 = .ok (.ireturn, 1) := by decide +kernel
theorem dX9_launch_58 : decode cX9_launch 58 = .ok (.aload_n 0, 1) := by decide +kernel
theorem dX9_launch_59 : decode cX9_launch 59 = .ok (.iload_n 2, 1) := by decide +kernel
theorem dX9_launch_60 : decode cX9_launch 60 = .ok (.aload_n 0, 1) := by decide +kernel
theorem dX9_launch_61 : decode cX9_launch 61 = .ok (.getfield 65, 3) := by decide +kernel
theorem dX9_launch_64 : decode cX9_launch 64 = .ok (.invokevirtual 300, 3) := by decide +kernel
theorem dX9_launch_67 : decode cX9_launch 67 = .ok (.aload_n 0, 1) := by decide +kernel
theorem dX9_launch_68 : decode cX9_launch 68 = .ok (.getfield 56, 3) := by decide +kernel
theorem dX9_launch_71 : decode cX9_launch 71 = .ok (.iload_n 1, 1) := by decide +kernel
theorem dX9_launch_72 : decode cX9_launch 72 = .ok (.iaload, 1) := by decide +kernel
theorem dX9_launch_73 : decode cX9_launch 73 = .ok (.if_icmp .le 6, 3) := by decide +kernel
theorem dX9_launch_76 : decode cX9_launch 76 = .ok (.bipush (-3), 2) := by decide +kernel
theorem dX9_launch_78 : decode cX9_launch 78 = .ok (.ireturn, 1) := by decide +kernel
theorem dX9_launch_79 : decode cX9_launch 79 = .ok (.aload_n 0, 1) := by decide +kernel
theorem dX9_launch_80 : decode cX9_launch 80 = .ok (.getfield 13, 3) := by decide +kernel
theorem dX9_launch_83 : decode cX9_launch 83 = .ok (.iconst 3, 1) := by decide +kernel
theorem dX9_launch_84 : decode cX9_launch 84 = .ok (.iaload, 1) := by decide +kernel
theorem dX9_launch_85 : decode cX9_launch 85 = .ok (.aload_n 0, 1) := by decide +kernel
theorem dX9_launch_86 : decode cX9_launch 86 = .ok (.getfield 59, 3) := by decide +kernel
theorem dX9_launch_89 : decode cX9_launch 89 = .ok (.iload_n 1, 1) := by decide +kernel
theorem dX9_launch_90 : decode cX9_launch 90 = .ok (.iaload, 1) := by decide +kernel
theorem dX9_launch_91 : decode cX9_launch 91 = .ok (.if_icmp .ge 6, 3) := by decide +kernel
theorem dX9_launch_94 : decode cX9_launch 94 = .ok (.bipush (-4), 2) := by decide +kernel
theorem dX9_launch_96 : decode cX9_launch 96 = .ok (.ireturn, 1) := by decide +kernel
theorem dX9_launch_97 : decode cX9_launch 97 = .ok (.aload_n 0, 1) := by decide +kernel
theorem dX9_launch_98 : decode cX9_launch 98 = .ok (.invokevirtual 320, 3) := by decide +kernel
theorem dX9_launch_101 : decode cX9_launch 101 = .ok (.aload_n 0, 1) := by decide +kernel
theorem dX9_launch_102 : decode cX9_launch 102 = .ok (.getfield 13, 3) := by decide +kernel
theorem dX9_launch_105 : decode cX9_launch 105 = .ok (.iconst 3, 1) := by decide +kernel
theorem dX9_launch_106 : decode cX9_launch 106 = .ok (.dup2, 1) := by decide +kernel
theorem dX9_launch_107 : decode cX9_launch 107 = .ok (.iaload, 1) := by decide +kernel
theorem dX9_launch_108 : decode cX9_launch 108 = .ok (.aload_n 0, 1) := by decide +kernel
theorem dX9_launch_109 : decode cX9_launch 109 = .ok (.getfield 59, 3) := by decide +kernel
theorem dX9_launch_112 : decode cX9_launch 112 = .ok (.iload_n 1, 1) := by decide +kernel
theorem dX9_launch_113 : decode cX9_launch 113 = .ok (.iaload, 1) := by decide +kernel
theorem dX9_launch_114 : decode cX9_launch 114 = .ok (.isub, 1) := by decide +kernel
theorem dX9_launch_115 : decode cX9_launch 115 = .ok (.iastore, 1) := by decide +kernel
theorem dX9_launch_116 : decode cX9_launch 116 = .ok (.aload_n 0, 1) := by decide +kernel
theorem dX9_launch_117 : decode cX9_launch 117 = .ok (.getfield 13, 3) := by decide +kernel
theorem dX9_launch_120 : decode cX9_launch 120 = .ok (.bipush 25, 2) := by decide +kernel
theorem dX9_launch_122 : decode cX9_launch 122 = .ok (.iload_n 1, 1) := by decide +kernel
theorem dX9_launch_123 : decode cX9_launch 123 = .ok (.iadd, 1) := by decide +kernel
theorem dX9_launch_124 : decode cX9_launch 124 = .ok (.iload_n 2, 1) := by decide +kernel
theorem dX9_launch_125 : decode cX9_launch 125 = .ok (.iastore, 1) := by decide +kernel
theorem dX9_launch_126 : decode cX9_launch 126 = .ok (.aload_n 0, 1) := by decide +kernel
theorem dX9_launch_127 : decode cX9_launch 127 = .ok (.invokevirtual 323, 3) := by decide +kernel
theorem dX9_launch_130 : decode cX9_launch 130 = .ok (.istore_n 3, 1) := by decide +kernel
theorem dX9_launch_131 : decode cX9_launch 131 = .ok (.aload_n 0, 1) := by decide +kernel
theorem dX9_launch_132 : decode cX9_launch 132 = .ok (.getfield 13, 3) := by decide +kernel
theorem dX9_launch_135 : decode cX9_launch 135 = .ok (.bipush 15, 2) := by decide +kernel
theorem dX9_launch_137 : decode cX9_launch 137 = .ok (.iload_n 1, 1) := by decide +kernel
theorem dX9_launch_138 : decode cX9_launch 138 = .ok (.iadd, 1) := by decide +kernel
theorem dX9_launch_139 : decode cX9_launch 139 = .ok (.iload_n 3, 1) := by decide +kernel
theorem dX9_launch_140 : decode cX9_launch 140 = .ok (.iastore, 1) := by decide +kernel
theorem dX9_launch_141 : decode cX9_launch 141 = .ok (.iload_n 3, 1) := by decide +kernel
theorem dX9_launch_142 : decode cX9_launch 142 = .ok (.bipush (-2), 2) := by decide +kernel
theorem dX9_launch_144 : decode cX9_launch 144 = .ok (.if_icmp .ne 7, 3) := by decide +kernel
theorem dX9_launch_147 : decode cX9_launch 147 = .ok (.iconst 1, 1) := by decide +kernel
theorem dX9_launch_148 : decode cX9_launch 148 = .ok (.goto 21, 3) := by decide +kernel
theorem dX9_launch_151 : decode cX9_launch 151 = .ok (.aload_n 0, 1) := by decide +kernel
theorem dX9_launch_152 : decode cX9_launch 152 = .ok (.invokevirtual 317, 3) := by decide +kernel
theorem dX9_launch_155 : decode cX9_launch 155 = .ok (.aload_n 0, 1) := by decide +kernel
theorem dX9_launch_156 : decode cX9_launch 156 = .ok (.getfield 20, 3) := by decide +kernel
theorem dX9_launch_159 : decode cX9_launch 159 = .ok (.iload_n 3, 1) := by decide +kernel
theorem dX9_launch_160 : decode cX9_launch 160 = .ok (.iaload, 1) := by decide +kernel
theorem dX9_launch_161 : decode cX9_launch 161 = .ok (.if_icmp .ge 7, 3) := by decide +kernel
theorem dX9_launch_164 : decode cX9_launch 164 = .ok (.iconst 2, 1) := by decide +kernel
theorem dX9_launch_165 : decode cX9_launch 165 = .ok (.goto 4, 3) := by decide +kernel
theorem dX9_launch_168 : decode cX9_launch 168 = .ok (.iconst 3, 1) := by decide +kernel
theorem dX9_launch_169 : decode cX9_launch 169 = .ok (.istore 4, 2) := by decide +kernel
theorem dX9_launch_171 : decode cX9_launch 171 = .ok (.aload_n 0, 1) := by decide +kernel
theorem dX9_launch_172 : decode cX9_launch 172 = .ok (.getfield 13, 3) := by decide +kernel
theorem dX9_launch_175 : decode cX9_launch 175 = .ok (.iconst 5, 1) := by decide +kernel
theorem dX9_launch_176 : decode cX9_launch 176 = .ok (.iload_n 1, 1) := by decide +kernel
theorem dX9_launch_177 : decode cX9_launch 177 = .ok (.iadd, 1) := by decide +kernel
theorem dX9_launch_178 : decode cX9_launch 178 = .ok (.iload 4, 2) := by decide +kernel
theorem dX9_launch_180 : decode cX9_launch 180 = .ok (.iastore, 1) := by decide +kernel
theorem dX9_launch_181 : decode cX9_launch 181 = .ok (.aload_n 0, 1) := by decide +kernel
theorem dX9_launch_182 : decode cX9_launch 182 = .ok (.iload_n 2, 1) := by decide +kernel
theorem dX9_launch_183 : decode cX9_launch 183 = .ok (.iload 4, 2) := by decide +kernel
theorem dX9_launch_185 : decode cX9_launch 185 = .ok (.iconst 3, 1) := by decide +kernel
theorem dX9_launch_186 : decode cX9_launch 186 = .ok (.if_icmp .ne 7, 3) := by decide +kernel
theorem dX9_launch_189 : decode cX9_launch 189 = .ok (.iconst 2, 1) := by decide +kernel
theorem dX9_launch_190 : decode cX9_launch 190 = .ok (.goto 4, 3) := by decide +kernel
theorem dX9_launch_193 : decode cX9_launch 193 = .ok (.iconst 1, 1) := by decide +kernel
theorem dX9_launch_194 : decode cX9_launch 194 = .ok (.invokevirtual 326, 3) := by decide +kernel
theorem dX9_launch_197 : decode cX9_launch 197 = .ok (.iload 4, 2) := by decide +kernel
theorem dX9_launch_199 : decode cX9_launch 199 = .ok (.iconst 3, 1) := by decide +kernel
theorem dX9_launch_200 : decode cX9_launch 200 = .ok (.if_icmp .eq 18, 3) := by decide +kernel
theorem dX9_launch_203 : decode cX9_launch 203 = .ok (.aload_n 0, 1) := by decide +kernel
theorem dX9_launch_204 : decode cX9_launch 204 = .ok (.getfield 13, 3) := by decide +kernel
theorem dX9_launch_207 : decode cX9_launch 207 = .ok (.iconst 4, 1) := by decide +kernel
theorem dX9_launch_208 : decode cX9_launch 208 = .ok (.dup2, 1) := by decide +kernel
theorem dX9_launch_209 : decode cX9_launch 209 = .ok (.iaload, 1) := by decide +kernel
theorem dX9_launch_210 : decode cX9_launch 210 = .ok (.aload_n 0, 1) := by decide +kernel
theorem dX9_launch_211 : decode cX9_launch 211 = .ok (.getfield 59, 3) := by decide +kernel
theorem dX9_launch_214 : decode cX9_launch 214 = .ok (.iload_n 1, 1) := by decide +kernel
theorem dX9_launch_215 : decode cX9_launch 215 = .ok (.iaload, 1) := by decide +kernel
theorem dX9_launch_216 : decode cX9_launch 216 = .ok (.iadd, 1) := by decide +kernel
theorem dX9_launch_217 : decode cX9_launch 217 = .ok (.iastore, 1) := by decide +kernel
theorem dX9_launch_218 : decode cX9_launch 218 = .ok (.iconst 0, 1) := by decide +kernel
theorem dX9_launch_219 : decode cX9_launch 219 = .ok (.istore 5, 2) := by decide +kernel
theorem dX9_launch_221 : decode cX9_launch 221 = .ok (.iload 5, 2) := by decide +kernel
theorem dX9_launch_223 : decode cX9_launch 223 = .ok (.aload_n 0, 1) := by decide +kernel
theorem dX9_launch_224 : decode cX9_launch 224 = .ok (.getfield 59, 3) := by decide +kernel
theorem dX9_launch_227 : decode cX9_launch 227 = .ok (.iload_n 1, 1) := by decide +kernel
theorem dX9_launch_228 : decode cX9_launch 228 = .ok (.iaload, 1) := by decide +kernel
theorem dX9_launch_229 : decode cX9_launch 229 = .ok (.if_icmp .ge 96, 3) := by decide +kernel
theorem dX9_launch_232 : decode cX9_launch 232 = .ok (.iload 4, 2) := by decide +kernel
theorem dX9_launch_234 : decode cX9_launch 234 = .ok (.iconst 3, 1) := by decide +kernel
theorem dX9_launch_235 : decode cX9_launch 235 = .ok (.if_icmp .ne 90, 3) := by decide +kernel
theorem dX9_launch_238 : decode cX9_launch 238 = .ok (.aload_n 0, 1) := by decide +kernel
theorem dX9_launch_239 : decode cX9_launch 239 = .ok (.invokevirtual 317, 3) := by decide +kernel
theorem dX9_launch_242 : decode cX9_launch 242 = .ok (.aload_n 0, 1) := by decide +kernel
theorem dX9_launch_243 : decode cX9_launch 243 = .ok (.getfield 26, 3) := by decide +kernel
theorem dX9_launch_246 : decode cX9_launch 246 = .ok (.iload_n 3, 1) := by decide +kernel
theorem dX9_launch_247 : decode cX9_launch 247 = .ok (.iaload, 1) := by decide +kernel
theorem dX9_launch_248 : decode cX9_launch 248 = .ok (.if_icmp .ge 61, 3) := by decide +kernel
theorem dX9_launch_251 : decode cX9_launch 251 = .ok (.aload_n 0, 1) := by decide +kernel
theorem dX9_launch_252 : decode cX9_launch 252 = .ok (.getfield 13, 3) := by decide +kernel
theorem dX9_launch_255 : decode cX9_launch 255 = .ok (.bipush 84, 2) := by decide +kernel
theorem dX9_launch_257 : decode cX9_launch 257 = .ok (.aload_n 0, 1) := by decide +kernel
theorem dX9_launch_258 : decode cX9_launch 258 = .ok (.getfield 13, 3) := by decide +kernel
theorem dX9_launch_261 : decode cX9_launch 261 = .ok (.bipush 83, 2) := by decide +kernel
theorem dX9_launch_263 : decode cX9_launch 263 = .ok (.iaload, 1) := by decide +kernel
theorem dX9_launch_264 : decode cX9_launch 264 = .ok (.iadd, 1) := by decide +kernel
theorem dX9_launch_265 : decode cX9_launch 265 = .ok (.iload_n 1, 1) := by decide +kernel
theorem dX9_launch_266 : decode cX9_launch 266 = .ok (.iastore, 1) := by decide +kernel
theorem dX9_launch_267 : decode cX9_launch 267 = .ok (.aload_n 0, 1) := by decide +kernel
theorem dX9_launch_268 : decode cX9_launch 268 = .ok (.getfield 13, 3) := by decide +kernel
theorem dX9_launch_271 : decode cX9_launch 271 = .ok (.bipush 124, 2) := by decide +kernel
theorem dX9_launch_273 : decode cX9_launch 273 = .ok (.aload_n 0, 1) := by decide +kernel
theorem dX9_launch_274 : decode cX9_launch 274 = .ok (.getfield 13, 3) := by decide +kernel
theorem dX9_launch_277 : decode cX9_launch 277 = .ok (.bipush 83, 2) := by decide +kernel
theorem dX9_launch_279 : decode cX9_launch 279 = .ok (.iaload, 1) := by decide +kernel
theorem dX9_launch_280 : decode cX9_launch 280 = .ok (.iadd, 1) := by decide +kernel
theorem dX9_launch_281 : decode cX9_launch 281 = .ok (.aload_n 0, 1) := by decide +kernel
theorem dX9_launch_282 : decode cX9_launch 282 = .ok (.getfield 13, 3) := by decide +kernel
theorem dX9_launch_285 : decode cX9_launch 285 = .ok (.iconst 0, 1) := by decide +kernel
theorem dX9_launch_286 : decode cX9_launch 286 = .ok (.iaload, 1) := by decide +kernel
theorem dX9_launch_287 : decode cX9_launch 287 = .ok (.aload_n 0, 1) := by decide +kernel
theorem dX9_launch_288 : decode cX9_launch 288 = .ok (.getfield 23, 3) := by decide +kernel
theorem dX9_launch_291 : decode cX9_launch 291 = .ok (.iload_n 3, 1) := by decide +kernel
theorem dX9_launch_292 : decode cX9_launch 292 = .ok (.iaload, 1) := by decide +kernel
theorem dX9_launch_293 : decode cX9_launch 293 = .ok (.iadd, 1) := by decide +kernel
theorem dX9_launch_294 : decode cX9_launch 294 = .ok (.iastore, 1) := by decide +kernel
theorem dX9_launch_295 : decode cX9_launch 295 = .ok (.aload_n 0, 1) := by decide +kernel
theorem dX9_launch_296 : decode cX9_launch 296 = .ok (.getfield 13, 3) := by decide +kernel
theorem dX9_launch_299 : decode cX9_launch 299 = .ok (.bipush 83, 2) := by decide +kernel
theorem dX9_launch_301 : decode cX9_launch 301 = .ok (.dup2, 1) := by decide +kernel
theorem dX9_launch_302 : decode cX9_launch 302 = .ok (.iaload, 1) := by decide +kernel
theorem dX9_launch_303 : decode cX9_launch 303 = .ok (.iconst 1, 1) := by decide +kernel
theorem dX9_launch_304 : decode cX9_launch 304 = .ok (.iadd, 1) := by decide +kernel
theorem dX9_launch_305 : decode cX9_launch 305 = .ok (.iastore, 1) := by decide +kernel
theorem dX9_launch_306 : decode cX9_launch 306 = .ok (.goto 13, 3) := by decide +kernel
theorem dX9_launch_309 : decode cX9_launch 309 = .ok (.aload_n 0, 1) := by decide +kernel
theorem dX9_launch_310 : decode cX9_launch 310 = .ok (.getfield 13, 3) := by decide +kernel
theorem dX9_launch_313 : decode cX9_launch 313 = .ok (.iconst 4, 1) := by decide +kernel
theorem dX9_launch_314 : decode cX9_launch 314 = .ok (.dup2, 1) := by decide +kernel
theorem dX9_launch_315 : decode cX9_launch 315 = .ok (.iaload, 1) := by decide +kernel
theorem dX9_launch_316 : decode cX9_launch 316 = .ok (.iconst 1, 1) := by decide +kernel
theorem dX9_launch_317 : decode cX9_launch 317 = .ok (.iadd, 1) := by decide +kernel
theorem dX9_launch_318 : decode cX9_launch 318 = .ok (.iastore, 1) := by decide +kernel
theorem dX9_launch_319 : decode cX9_launch 319 = .ok (.iinc 5 1, 3) := by decide +kernel
theorem dX9_launch_322 : decode cX9_launch 322 = .ok (.goto (-101), 3) := by decide +kernel
theorem dX9_launch_325 : decode cX9_launch 325 = .ok (.aload_n 0, 1) := by decide +kernel
theorem dX9_launch_326 : decode cX9_launch 326 = .ok (.iload 4, 2) := by decide +kernel
theorem dX9_launch_328 : decode cX9_launch 328 = .ok (.iload_n 1, 1) := by decide +kernel
theorem dX9_launch_329 : decode cX9_launch 329 = .ok (.invokevirtual 329, 3) := by decide +kernel
theorem dX9_launch_332 : decode cX9_launch 332 = .ok (.iload 4, 2) := by decide +kernel
theorem dX9_launch_334 : decode cX9_launch 334 = .ok (.ireturn, 1) := by decide +kernel
set_option maxRecDepth 20000 in
theorem ggX9_comeBack_X9_notes : GoodIn wsX9_comeBack wsX9_notes := goodIn_r _ [6, 1, 7, 8, 5, 9, 18, 19, 20, 21, 22, 23, 24, 25, 26, 27, 28, 29, 30, 31, 32, 33, 34, 35, 36, 37, 38, 39, 40, 41, 42, 43, 44, 45, 46, 47, 48, 49, 50, 51, 52, 53, 54, 55, 56, 57, 58, 59, 60, 61, 62] (by decide +kernel) (by decide +kernel)
set_option maxRecDepth 20000 in
theorem gX9_comeBack_X9_notes : GoodIn wsX9_comeBack (wsV RX9 329 RX9 yX9_notes wsX9_notes) := goodIn_app (goodIn_of _ (by decide +kernel)) ggX9_comeBack_X9_notes
set_option maxRecDepth 20000 in
theorem ggX9_comeBack_X9_answers : GoodIn wsX9_comeBack wsX9_answers := goodIn_r _ [13, 14, 1, 15, 16, 5, 17, 18, 19, 20, 21, 22, 23, 24, 25, 26, 27, 28, 29, 30, 31, 32, 33, 34, 35, 36, 37, 38, 39, 40, 41, 42, 43, 44, 45, 46, 47, 48, 49, 50, 51, 52, 53, 54, 55, 56, 57, 58, 59, 60, 61, 62] (by decide +kernel) (by decide +kernel)
set_option maxRecDepth 20000 in
theorem gX9_comeBack_X9_answers : GoodIn wsX9_comeBack (wsV RX9 332 RX9 yX9_answers wsX9_answers) := goodIn_app (goodIn_of _ (by decide +kernel)) ggX9_comeBack_X9_answers
theorem dX9_comeBack_0 : decode cX9_comeBack 0 = .ok (.aload_n 0, 1) := by decide +kernel
theorem dX9_comeBack_1 : decode cX9_comeBack 1 = .ok (.getfield 13, 3) := by decide +kernel
theorem dX9_comeBack_4 : decode cX9_comeBack 4 = .ok (.bipush 83, 2) := by decide +kernel
theorem dX9_comeBack_6 : decode cX9_comeBack 6 = .ok (.iaload, 1) := by decide +kernel
theorem dX9_comeBack_7 : decode cX9_comeBack 7 = .ok (.istore_n 1, 1) := by decide +kernel
theorem dX9_comeBack_8 : decode cX9_comeBack 8 = .ok (.iconst 0, 1) := by decide +kernel
theorem dX9_comeBack_9 : decode cX9_comeBack 9 = .ok (.istore_n 2, 1) := by decide +kernel
theorem dX9_comeBack_10 : decode cX9_comeBack 10 = .ok (.iconst 0, 1) := by decide +kernel
theorem dX9_comeBack_11 : decode cX9_comeBack 11 = .ok (.istore_n 3, 1) := by decide +kernel
theorem dX9_comeBack_12 : decode cX9_comeBack 12 = .ok (.iload_n 3, 1) := by decide +kernel
theorem dX9_comeBack_13 : decode cX9_comeBack 13 = .ok (.iload_n 1, 1) := by decide +kernel
theorem dX9_comeBack_14 : decode cX9_comeBack 14 = .ok (.if_icmp .ge 96, 3) := by decide +kernel
theorem dX9_comeBack_17 : decode cX9_comeBack 17 = .ok (.aload_n 0, 1) := by decide +kernel
theorem dX9_comeBack_18 : decode cX9_comeBack 18 = .ok (.getfield 13, 3) := by decide +kernel
theorem dX9_comeBack_21 : decode cX9_comeBack 21 = .ok (.bipush 84, 2) := by decide +kernel
theorem dX9_comeBack_23 : decode cX9_comeBack 23 = .ok (.iload_n 3, 1) := by decide +kernel
theorem dX9_comeBack_24 : decode cX9_comeBack 24 = .ok (.iadd, 1) := by decide +kernel
theorem dX9_comeBack_25 : decode cX9_comeBack 25 = .ok (.iaload, 1) := by decide +kernel
theorem dX9_comeBack_26 : decode cX9_comeBack 26 = .ok (.istore 4, 2) := by decide +kernel
theorem dX9_comeBack_28 : decode cX9_comeBack 28 = .ok (.aload_n 0, 1) := by decide +kernel
theorem dX9_comeBack_29 : decode cX9_comeBack 29 = .ok (.getfield 13, 3) := by decide +kernel
theorem dX9_comeBack_32 : decode cX9_comeBack 32 = .ok (.bipush 124, 2) := by decide +kernel
theorem dX9_comeBack_34 : decode cX9_comeBack 34 = .ok (.iload_n 3, 1) := by decide +kernel
theorem dX9_comeBack_35 : decode cX9_comeBack 35 = .ok (.iadd, 1) := by decide +kernel
theorem dX9_comeBack_36 : decode cX9_comeBack 36 = .ok (.iaload, 1) := by decide +kernel
theorem dX9_comeBack_37 : decode cX9_comeBack 37 = .ok (.aload_n 0, 1) := by decide +kernel
theorem dX9_comeBack_38 : decode cX9_comeBack 38 = .ok (.getfield 13, 3) := by decide +kernel
theorem dX9_comeBack_41 : decode cX9_comeBack 41 = .ok (.iconst 0, 1) := by decide +kernel
theorem dX9_comeBack_42 : decode cX9_comeBack 42 = .ok (.iaload, 1) := by decide +kernel
theorem dX9_comeBack_43 : decode cX9_comeBack 43 = .ok (.if_icmp .le 38, 3) := by decide +kernel
theorem dX9_comeBack_46 : decode cX9_comeBack 46 = .ok (.aload_n 0, 1) := by decide +kernel
theorem dX9_comeBack_47 : decode cX9_comeBack 47 = .ok (.getfield 13, 3) := by decide +kernel
theorem dX9_comeBack_50 : decode cX9_comeBack 50 = .ok (.bipush 84, 2) := by decide +kernel
theorem dX9_comeBack_52 : decode cX9_comeBack 52 = .ok (.iload_n 2, 1) := by decide +kernel
theorem dX9_comeBack_53 : decode cX9_comeBack 53 = .ok (.iadd, 1) := by decide +kernel
theorem dX9_comeBack_54 : decode cX9_comeBack 54 = .ok (.iload 4, 2) := by decide +kernel
theorem dX9_comeBack_56 : decode cX9_comeBack 56 = .ok (.iastore, 1) := by decide +kernel
theorem dX9_comeBack_57 : decode cX9_comeBack 57 = .ok (.aload_n 0, 1) := by decide +kernel
theorem dX9_comeBack_58 : decode cX9_comeBack 58 = .ok (.getfield 13, 3) := by decide +kernel
theorem dX9_comeBack_61 : decode cX9_comeBack 61 = .ok (.bipush 124, 2) := by decide +kernel
theorem dX9_comeBack_63 : decode cX9_comeBack 63 = .ok (.iload_n 2, 1) := by decide +kernel
theorem dX9_comeBack_64 : decode cX9_comeBack 64 = .ok (.iadd, 1) := by decide +kernel
theorem dX9_comeBack_65 : decode cX9_comeBack 65 = .ok (.aload_n 0, 1) := by decide +kernel
theorem dX9_comeBack_66 : decode cX9_comeBack 66 = .ok (.getfield 13, 3) := by decide +kernel
theorem dX9_comeBack_69 : decode cX9_comeBack 69 = .ok (.bipush 124, 2) := by decide +kernel
theorem dX9_comeBack_71 : decode cX9_comeBack 71 = .ok (.iload_n 3, 1) := by decide +kernel
theorem dX9_comeBack_72 : decode cX9_comeBack 72 = .ok (.iadd, 1) := by decide +kernel
theorem dX9_comeBack_73 : decode cX9_comeBack 73 = .ok (.iaload, 1) := by decide +kernel
theorem dX9_comeBack_74 : decode cX9_comeBack 74 = .ok (.iastore, 1) := by decide +kernel
theorem dX9_comeBack_75 : decode cX9_comeBack 75 = .ok (.iinc 2 1, 3) := by decide +kernel
theorem dX9_comeBack_78 : decode cX9_comeBack 78 = .ok (.goto 26, 3) := by decide +kernel
theorem dX9_comeBack_81 : decode cX9_comeBack 81 = .ok (.aload_n 0, 1) := by decide +kernel
theorem dX9_comeBack_82 : decode cX9_comeBack 82 = .ok (.getfield 13, 3) := by decide +kernel
theorem dX9_comeBack_85 : decode cX9_comeBack 85 = .ok (.iconst 3, 1) := by decide +kernel
theorem dX9_comeBack_86 : decode cX9_comeBack 86 = .ok (.dup2, 1) := by decide +kernel
theorem dX9_comeBack_87 : decode cX9_comeBack 87 = .ok (.iaload, 1) := by decide +kernel
theorem dX9_comeBack_88 : decode cX9_comeBack 88 = .ok (.iconst 1, 1) := by decide +kernel
theorem dX9_comeBack_89 : decode cX9_comeBack 89 = .ok (.iadd, 1) := by decide +kernel
theorem dX9_comeBack_90 : decode cX9_comeBack 90 = .ok (.iastore, 1) := by decide +kernel
theorem dX9_comeBack_91 : decode cX9_comeBack 91 = .ok (.aload_n 0, 1) := by decide +kernel
theorem dX9_comeBack_92 : decode cX9_comeBack 92 = .ok (.iconst 4, 1) := by decide +kernel
theorem dX9_comeBack_93 : decode cX9_comeBack 93 = .ok (.iload 4, 2) := by decide +kernel
theorem dX9_comeBack_95 : decode cX9_comeBack 95 = .ok (.invokevirtual 329, 3) := by decide +kernel
theorem dX9_comeBack_98 : decode cX9_comeBack 98 = .ok (.aload_n 0, 1) := by decide +kernel
theorem dX9_comeBack_99 : decode cX9_comeBack 99 = .ok (.iload 4, 2) := by decide +kernel
theorem dX9_comeBack_101 : decode cX9_comeBack 101 = .ok (.invokevirtual 332, 3) := by decide +kernel
theorem dX9_comeBack_104 : decode cX9_comeBack 104 = .ok (.iinc 3 1, 3) := by decide +kernel
theorem dX9_comeBack_107 : decode cX9_comeBack 107 = .ok (.goto (-95), 3) := by decide +kernel
theorem dX9_comeBack_110 : decode cX9_comeBack 110 = .ok (.iload_n 2, 1) := by decide +kernel
theorem dX9_comeBack_111 : decode cX9_comeBack 111 = .ok (.istore_n 3, 1) := by decide +kernel
theorem dX9_comeBack_112 : decode cX9_comeBack 112 = .ok (.iload_n 3, 1) := by decide +kernel
theorem dX9_comeBack_113 : decode cX9_comeBack 113 = .ok (.iload_n 1, 1) := by decide +kernel
theorem dX9_comeBack_114 : decode cX9_comeBack 114 = .ok (.if_icmp .ge 29, 3) := by decide +kernel
theorem dX9_comeBack_117 : decode cX9_comeBack 117 = .ok (.aload_n 0, 1) := by decide +kernel
theorem dX9_comeBack_118 : decode cX9_comeBack 118 = .ok (.getfield 13, 3) := by decide +kernel
theorem dX9_comeBack_121 : decode cX9_comeBack 121 = .ok (.bipush 84, 2) := by decide +kernel
theorem dX9_comeBack_123 : decode cX9_comeBack 123 = .ok (.iload_n 3, 1) := by decide +kernel
theorem dX9_comeBack_124 : decode cX9_comeBack 124 = .ok (.iadd, 1) := by decide +kernel
theorem dX9_comeBack_125 : decode cX9_comeBack 125 = .ok (.iconst 0, 1) := by decide +kernel
theorem dX9_comeBack_126 : decode cX9_comeBack 126 = .ok (.iastore, 1) := by decide +kernel
theorem dX9_comeBack_127 : decode cX9_comeBack 127 = .ok (.aload_n 0, 1) := by decide +kernel
theorem dX9_comeBack_128 : decode cX9_comeBack 128 = .ok (.getfield 13, 3) := by decide +kernel
theorem dX9_comeBack_131 : decode cX9_comeBack 131 = .ok (.bipush 124, 2) := by decide +kernel
theorem dX9_comeBack_133 : decode cX9_comeBack 133 = .ok (.iload_n 3, 1) := by decide +kernel
theorem dX9_comeBack_134 : decode cX9_comeBack 134 = .ok (.iadd, 1) := by decide +kernel
theorem dX9_comeBack_135 : decode cX9_comeBack 135 = .ok (.iconst 0, 1) := by decide +kernel
theorem dX9_comeBack_136 : decode cX9_comeBack 136 = .ok (.iastore, 1) := by decide +kernel
theorem dX9_comeBack_137 : decode cX9_comeBack 137 = .ok (.iinc 3 1, 3) := by decide +kernel
theorem dX9_comeBack_140 : decode cX9_comeBack 140 = .ok (.goto (-28), 3) := by decide +kernel
theorem dX9_comeBack_143 : decode cX9_comeBack 143 = .ok (.aload_n 0, 1) := by decide +kernel
theorem dX9_comeBack_144 : decode cX9_comeBack 144 = .ok (.getfield 13, 3) := by decide +kernel
theorem dX9_comeBack_147 : decode cX9_comeBack 147 = .ok (.bipush 83, 2) := by decide +kernel
theorem dX9_comeBack_149 : decode cX9_comeBack 149 = .ok (.iload_n 2, 1) := by decide +kernel
theorem dX9_comeBack_150 : decode cX9_comeBack 150 = .ok (.iastore, 1) := by decide +kernel
theorem dX9_comeBack_151 : decode cX9_comeBack 151 = .ok (.return_, 1) := by decide +kernel
set_option maxRecDepth 20000 in
theorem ggX9_answers_X9_has : GoodIn wsX9_answers wsX9_has := goodIn_r _ [6] (by decide +kernel) (by decide +kernel)
set_option maxRecDepth 20000 in
theorem gX9_answers_X9_has : GoodIn wsX9_answers (va_wsS RX9 173 yX9_has wsX9_has) := goodIn_app (goodIn_of _ (by decide +kernel)) ggX9_answers_X9_has
theorem dX9_answers_0 : decode cX9_answers 0 = .ok (.iconst 0, 1) := by decide +kernel
theorem dX9_answers_1 : decode cX9_answers 1 = .ok (.istore_n 2, 1) := by decide +kernel
theorem dX9_answers_2 : decode cX9_answers 2 = .ok (.iload_n 2, 1) := by decide +kernel
theorem dX9_answers_3 : decode cX9_answers 3 = .ok (.aload_n 0, 1) := by decide +kernel
theorem dX9_answers_4 : decode cX9_answers 4 = .ok (.getfield 62, 3) := by decide +kernel
theorem dX9_answers_7 : decode cX9_answers 7 = .ok (.iconst 0, 1) := by decide +kernel
theorem dX9_answers_8 : decode cX9_answers 8 = .ok (.iaload, 1) := by decide +kernel
theorem dX9_answers_9 : decode cX9_answers 9 = .ok (.if_icmp .ge 63, 3) := by decide +kernel
theorem dX9_answers_12 : decode cX9_answers 12 = .ok (.aload_n 0, 1) := by decide +kernel
theorem dX9_answers_13 : decode cX9_answers 13 = .ok (.getfield 13, 3) := by decide +kernel
theorem dX9_answers_16 : decode cX9_answers 16 = .ok (.bipush 25, 2) := by decide +kernel
theorem dX9_answers_18 : decode cX9_answers 18 = .ok (.iload_n 1, 1) := by decide +kernel
theorem dX9_answers_19 : decode cX9_answers 19 = .ok (.iadd, 1) := by decide +kernel
theorem dX9_answers_20 : decode cX9_answers 20 = .ok (.iaload, 1) := by decide +kernel
theorem dX9_answers_21 : decode cX9_answers 21 = .ok (.iload_n 2, 1) := by decide +kernel
theorem dX9_answers_22 : decode cX9_answers 22 = .ok (.invokestatic 173, 3) := by decide +kernel
theorem dX9_answers_25 : decode cX9_answers 25 = .ok (.ifCond .eq 41, 3) := by decide +kernel
theorem dX9_answers_28 : decode cX9_answers 28 = .ok (.aload_n 0, 1) := by decide +kernel
theorem dX9_answers_29 : decode cX9_answers 29 = .ok (.getfield 13, 3) := by decide +kernel
theorem dX9_answers_32 : decode cX9_answers 32 = .ok (.bipush 35, 2) := by decide +kernel
theorem dX9_answers_34 : decode cX9_answers 34 = .ok (.iload_n 2, 1) := by decide +kernel
theorem dX9_answers_35 : decode cX9_answers 35 = .ok (.iadd, 1) := by decide +kernel
theorem dX9_answers_36 : decode cX9_answers 36 = .ok (.iaload, 1) := by decide +kernel
theorem dX9_answers_37 : decode cX9_answers 37 = .ok (.iconst 2, 1) := by decide +kernel
theorem dX9_answers_38 : decode cX9_answers 38 = .ok (.if_icmp .ne 28, 3) := by decide +kernel
theorem dX9_answers_41 : decode cX9_answers 41 = .ok (.aload_n 0, 1) := by decide +kernel
theorem dX9_answers_42 : decode cX9_answers 42 = .ok (.getfield 13, 3) := by decide +kernel
theorem dX9_answers_45 : decode cX9_answers 45 = .ok (.bipush 35, 2) := by decide +kernel
theorem dX9_answers_47 : decode cX9_answers 47 = .ok (.iload_n 2, 1) := by decide +kernel
theorem dX9_answers_48 : decode cX9_answers 48 = .ok (.iadd, 1) := by decide +kernel
theorem dX9_answers_49 : decode cX9_answers 49 = .ok (.iconst 3, 1) := by decide +kernel
theorem dX9_answers_50 : decode cX9_answers 50 = .ok (.iastore, 1) := by decide +kernel
theorem dX9_answers_51 : decode cX9_answers 51 = .ok (.aload_n 0, 1) := by decide +kernel
theorem dX9_answers_52 : decode cX9_answers 52 = .ok (.getfield 13, 3) := by decide +kernel
theorem dX9_answers_55 : decode cX9_answers 55 = .ok (.bipush 59, 2) := by decide +kernel
theorem dX9_answers_57 : decode cX9_answers 57 = .ok (.iload_n 2, 1) := by decide +kernel
theorem dX9_answers_58 : decode cX9_answers 58 = .ok (.iadd, 1) := by decide +kernel
theorem dX9_answers_59 : decode cX9_answers 59 = .ok (.aload_n 0, 1) := by decide +kernel
theorem dX9_answers_60 : decode cX9_answers 60 = .ok (.getfield 13, 3) := by decide +kernel
theorem dX9_answers_63 : decode cX9_answers 63 = .ok (.iconst 0, 1) := by decide +kernel
theorem dX9_answers_64 : decode cX9_answers 64 = .ok (.iaload, 1) := by decide +kernel
theorem dX9_answers_65 : decode cX9_answers 65 = .ok (.iastore, 1) := by decide +kernel
theorem dX9_answers_66 : decode cX9_answers 66 = .ok (.iinc 2 1, 3) := by decide +kernel
theorem dX9_answers_69 : decode cX9_answers 69 = .ok (.goto (-67), 3) := by decide +kernel
theorem dX9_answers_72 : decode cX9_answers 72 = .ok (.return_, 1) := by decide +kernel
set_option maxRecDepth 20000 in
theorem ggX9_nextDay_X9_keeps : GoodIn wsX9_nextDay wsX9_keeps := goodIn_r _ [12, 13, 14, 2, 15, 16, 11, 17, 43, 44, 45, 46, 47, 48, 49, 50, 51, 52, 53, 54, 55, 56, 57, 58, 59, 60, 61, 62, 63, 64, 65, 66, 67, 68, 69, 70, 71, 72, 73, 74, 75, 76, 77, 78, 79, 80, 81, 82, 83, 84, 85, 86, 87] (by decide +kernel) (by decide +kernel)
set_option maxRecDepth 20000 in
theorem gX9_nextDay_X9_keeps : GoodIn wsX9_nextDay (wsV RX9 320 RX9 yX9_keeps wsX9_keeps) := goodIn_app (goodIn_of _ (by decide +kernel)) ggX9_nextDay_X9_keeps
set_option maxRecDepth 20000 in
theorem ggX9_nextDay_X9_draw : GoodIn wsX9_nextDay wsX9_draw := goodIn_r _ [21, 2, 22, 23, 24, 25, 26, 43, 44, 45, 46, 47, 48, 49, 50, 51, 52, 53, 54, 55, 56, 57, 58, 59, 60, 61, 62, 63, 64, 65, 66, 67, 68, 69, 70, 71, 72, 73, 74, 75, 76, 77, 78, 79, 80, 81, 82, 83, 84, 85, 86, 87] (by decide +kernel) (by decide +kernel)
set_option maxRecDepth 20000 in
theorem gX9_nextDay_X9_draw : GoodIn wsX9_nextDay (wsV RX9 317 RX9 yX9_draw wsX9_draw) := goodIn_app (goodIn_of _ (by decide +kernel)) ggX9_nextDay_X9_draw
set_option maxRecDepth 20000 in
theorem ggX9_nextDay_X9_notes : GoodIn wsX9_nextDay wsX9_notes := goodIn_r _ [30, 2, 15, 16, 11, 17, 43, 44, 45, 46, 47, 48, 49, 50, 51, 52, 53, 54, 55, 56, 57, 58, 59, 60, 61, 62, 63, 64, 65, 66, 67, 68, 69, 70, 71, 72, 73, 74, 75, 76, 77, 78, 79, 80, 81, 82, 83, 84, 85, 86, 87] (by decide +kernel) (by decide +kernel)
set_option maxRecDepth 20000 in
theorem gX9_nextDay_X9_notes : GoodIn wsX9_nextDay (wsV RX9 329 RX9 yX9_notes wsX9_notes) := goodIn_app (goodIn_of _ (by decide +kernel)) ggX9_nextDay_X9_notes
set_option maxRecDepth 20000 in
theorem ggX9_nextDay_X9_comeBack : GoodIn wsX9_nextDay wsX9_comeBack := goodIn_r _ [34, 2, 27, 28, 29, 11, 30, 15, 16, 17, 35, 36, 37, 38, 39, 40, 41, 42, 43, 44, 45, 46, 47, 48, 49, 50, 51, 52, 53, 54, 55, 56, 57, 58, 59, 60, 61, 62, 63, 64, 65, 66, 67, 68, 69, 70, 71, 72, 73, 74, 75, 76, 77, 78, 79, 80, 81, 82, 83, 84, 85, 86, 87] (by decide +kernel) (by decide +kernel)
set_option maxRecDepth 20000 in
theorem gX9_nextDay_X9_comeBack : GoodIn wsX9_nextDay (wsV RX9 335 RX9 yX9_comeBack wsX9_comeBack) := goodIn_app (goodIn_of _ (by decide +kernel)) ggX9_nextDay_X9_comeBack
theorem dX9_nextDay_0 : decode cX9_nextDay 0 = .ok (.aload_n 0, 1) := by decide +kernel
theorem dX9_nextDay_1 : decode cX9_nextDay 1 = .ok (.iconst 0, 1) := by decide +kernel
theorem dX9_nextDay_2 : decode cX9_nextDay 2 = .ok (.putfield 1, 3) := by decide +kernel
theorem dX9_nextDay_5 : decode cX9_nextDay 5 = .ok (.aload_n 0, 1) := by decide +kernel
theorem dX9_nextDay_6 : decode cX9_nextDay 6 = .ok (.invokevirtual 320, 3) := by decide +kernel
theorem dX9_nextDay_9 : decode cX9_nextDay 9 = .ok (.aload_n 0, 1) := by decide +kernel
theorem dX9_nextDay_10 : decode cX9_nextDay 10 = .ok (.getfield 13, 3) := by decide +kernel
theorem dX9_nextDay_13 : decode cX9_nextDay 13 = .ok (.iconst 1, 1) := by decide +kernel
theorem dX9_nextDay_14 : decode cX9_nextDay 14 = .ok (.iaload, 1) := by decide +kernel
theorem dX9_nextDay_15 : decode cX9_nextDay 15 = .ok (.istore_n 1, 1) := by decide +kernel
theorem dX9_nextDay_16 : decode cX9_nextDay 16 = .ok (.aload_n 0, 1) := by decide +kernel
theorem dX9_nextDay_17 : decode cX9_nextDay 17 = .ok (.getfield 13, 3) := by decide +kernel
theorem dX9_nextDay_20 : decode cX9_nextDay 20 = .ok (.iconst 0, 1) := by decide +kernel
theorem dX9_nextDay_21 : decode cX9_nextDay 21 = .ok (.dup2, 1) := by decide +kernel
theorem dX9_nextDay_22 : decode cX9_nextDay 22 = .ok (.iaload, 1) := by decide +kernel
theorem dX9_nextDay_23 : decode cX9_nextDay 23 = .ok (.iconst 1, 1) := by decide +kernel
theorem dX9_nextDay_24 : decode cX9_nextDay 24 = .ok (.iadd, 1) := by decide +kernel
theorem dX9_nextDay_25 : decode cX9_nextDay 25 = .ok (.iastore, 1) := by decide +kernel
theorem dX9_nextDay_26 : decode cX9_nextDay 26 = .ok (.aload_n 0, 1) := by decide +kernel
theorem dX9_nextDay_27 : decode cX9_nextDay 27 = .ok (.getfield 29, 3) := by decide +kernel
theorem dX9_nextDay_30 : decode cX9_nextDay 30 = .ok (.iconst 0, 1) := by decide +kernel
theorem dX9_nextDay_31 : decode cX9_nextDay 31 = .ok (.iaload, 1) := by decide +kernel
theorem dX9_nextDay_32 : decode cX9_nextDay 32 = .ok (.ifCond .le 96, 3) := by decide +kernel
theorem dX9_nextDay_35 : decode cX9_nextDay 35 = .ok (.aload_n 0, 1) := by decide +kernel
theorem dX9_nextDay_36 : decode cX9_nextDay 36 = .ok (.invokevirtual 317, 3) := by decide +kernel
theorem dX9_nextDay_39 : decode cX9_nextDay 39 = .ok (.istore_n 2, 1) := by decide +kernel
theorem dX9_nextDay_40 : decode cX9_nextDay 40 = .ok (.iload_n 1, 1) := by decide +kernel
theorem dX9_nextDay_41 : decode cX9_nextDay 41 = .ok (.istore_n 3, 1) := by decide +kernel
theorem dX9_nextDay_42 : decode cX9_nextDay 42 = .ok (.iconst 0, 1) := by decide +kernel
theorem dX9_nextDay_43 : decode cX9_nextDay 43 = .ok (.istore 4, 2) := by decide +kernel
theorem dX9_nextDay_45 : decode cX9_nextDay 45 = .ok (.iload 4, 2) := by decide +kernel
theorem dX9_nextDay_47 : decode cX9_nextDay 47 = .ok (.aload_n 0, 1) := by decide +kernel
theorem dX9_nextDay_48 : decode cX9_nextDay 48 = .ok (.getfield 41, 3) := by decide +kernel
theorem dX9_nextDay_51 : decode cX9_nextDay 51 = .ok (.iconst 0, 1) := by decide +kernel
theorem dX9_nextDay_52 : decode cX9_nextDay 52 = .ok (.iaload, 1) := by decide +kernel
theorem dX9_nextDay_53 : decode cX9_nextDay 53 = .ok (.if_icmp .ge 57, 3) := by decide +kernel
theorem dX9_nextDay_56 : decode cX9_nextDay 56 = .ok (.iload_n 2, 1) := by decide +kernel
theorem dX9_nextDay_57 : decode cX9_nextDay 57 = .ok (.ifCond .lt 53, 3) := by decide +kernel
theorem dX9_nextDay_60 : decode cX9_nextDay 60 = .ok (.aload_n 0, 1) := by decide +kernel
theorem dX9_nextDay_61 : decode cX9_nextDay 61 = .ok (.getfield 44, 3) := by decide +kernel
theorem dX9_nextDay_64 : decode cX9_nextDay 64 = .ok (.iload 4, 2) := by decide +kernel
theorem dX9_nextDay_66 : decode cX9_nextDay 66 = .ok (.iaload, 1) := by decide +kernel
theorem dX9_nextDay_67 : decode cX9_nextDay 67 = .ok (.iload_n 1, 1) := by decide +kernel
theorem dX9_nextDay_68 : decode cX9_nextDay 68 = .ok (.if_icmp .ne 36, 3) := by decide +kernel
theorem dX9_nextDay_71 : decode cX9_nextDay 71 = .ok (.iload_n 2, 1) := by decide +kernel
theorem dX9_nextDay_72 : decode cX9_nextDay 72 = .ok (.aload_n 0, 1) := by decide +kernel
theorem dX9_nextDay_73 : decode cX9_nextDay 73 = .ok (.getfield 50, 3) := by decide +kernel
theorem dX9_nextDay_76 : decode cX9_nextDay 76 = .ok (.iload 4, 2) := by decide +kernel
theorem dX9_nextDay_78 : decode cX9_nextDay 78 = .ok (.iaload, 1) := by decide +kernel
theorem dX9_nextDay_79 : decode cX9_nextDay 79 = .ok (.if_icmp .ge 13, 3) := by decide +kernel
theorem dX9_nextDay_82 : decode cX9_nextDay 82 = .ok (.aload_n 0, 1) := by decide +kernel
theorem dX9_nextDay_83 : decode cX9_nextDay 83 = .ok (.getfield 47, 3) := by decide +kernel
theorem dX9_nextDay_86 : decode cX9_nextDay 86 = .ok (.iload 4, 2) := by decide +kernel
theorem dX9_nextDay_88 : decode cX9_nextDay 88 = .ok (.iaload, 1) := by decide +kernel
theorem dX9_nextDay_89 : decode cX9_nextDay 89 = .ok (.goto 4, 3) := by decide +kernel
theorem dX9_nextDay_92 : decode cX9_nextDay 92 = .ok (.iload_n 3, 1) := by decide +kernel
theorem dX9_nextDay_93 : decode cX9_nextDay 93 = .ok (.istore_n 3, 1) := by decide +kernel
theorem dX9_nextDay_94 : decode cX9_nextDay 94 = .ok (.iload_n 2, 1) := by decide +kernel
theorem dX9_nextDay_95 : decode cX9_nextDay 95 = .ok (.aload_n 0, 1) := by decide +kernel
theorem dX9_nextDay_96 : decode cX9_nextDay 96 = .ok (.getfield 50, 3) := by decide +kernel
theorem dX9_nextDay_99 : decode cX9_nextDay 99 = .ok (.iload 4, 2) := by decide +kernel
theorem dX9_nextDay_101 : decode cX9_nextDay 101 = .ok (.iaload, 1) := by decide +kernel
theorem dX9_nextDay_102 : decode cX9_nextDay 102 = .ok (.isub, 1) := by decide +kernel
theorem dX9_nextDay_103 : decode cX9_nextDay 103 = .ok (.istore_n 2, 1) := by decide +kernel
theorem dX9_nextDay_104 : decode cX9_nextDay 104 = .ok (.iinc 4 1, 3) := by decide +kernel
theorem dX9_nextDay_107 : decode cX9_nextDay 107 = .ok (.goto (-62), 3) := by decide +kernel
theorem dX9_nextDay_110 : decode cX9_nextDay 110 = .ok (.aload_n 0, 1) := by decide +kernel
theorem dX9_nextDay_111 : decode cX9_nextDay 111 = .ok (.getfield 13, 3) := by decide +kernel
theorem dX9_nextDay_114 : decode cX9_nextDay 114 = .ok (.iconst 1, 1) := by decide +kernel
theorem dX9_nextDay_115 : decode cX9_nextDay 115 = .ok (.iload_n 3, 1) := by decide +kernel
theorem dX9_nextDay_116 : decode cX9_nextDay 116 = .ok (.iastore, 1) := by decide +kernel
theorem dX9_nextDay_117 : decode cX9_nextDay 117 = .ok (.iload_n 3, 1) := by decide +kernel
theorem dX9_nextDay_118 : decode cX9_nextDay 118 = .ok (.iload_n 1, 1) := by decide +kernel
theorem dX9_nextDay_119 : decode cX9_nextDay 119 = .ok (.if_icmp .eq 9, 3) := by decide +kernel
theorem dX9_nextDay_122 : decode cX9_nextDay 122 = .ok (.aload_n 0, 1) := by decide +kernel
theorem dX9_nextDay_123 : decode cX9_nextDay 123 = .ok (.iconst 5, 1) := by decide +kernel
theorem dX9_nextDay_124 : decode cX9_nextDay 124 = .ok (.iload_n 3, 1) := by decide +kernel
theorem dX9_nextDay_125 : decode cX9_nextDay 125 = .ok (.invokevirtual 329, 3) := by decide +kernel
theorem dX9_nextDay_128 : decode cX9_nextDay 128 = .ok (.aload_n 0, 1) := by decide +kernel
theorem dX9_nextDay_129 : decode cX9_nextDay 129 = .ok (.invokevirtual 335, 3) := by decide +kernel
theorem dX9_nextDay_132 : decode cX9_nextDay 132 = .ok (.aload_n 0, 1) := by decide +kernel
theorem dX9_nextDay_133 : decode cX9_nextDay 133 = .ok (.getfield 13, 3) := by decide +kernel
theorem dX9_nextDay_136 : decode cX9_nextDay 136 = .ok (.iconst 1, 1) := by decide +kernel
theorem dX9_nextDay_137 : decode cX9_nextDay 137 = .ok (.iaload, 1) := by decide +kernel
theorem dX9_nextDay_138 : decode cX9_nextDay 138 = .ok (.ireturn, 1) := by decide +kernel
set_option maxRecDepth 20000 in
theorem ggX9_balloonState_X9_isBalloon : GoodIn wsX9_balloonState wsX9_isBalloon := goodIn_r _ [7, 8, 9, 10, 6, 11, 12, 13, 14, 15, 16, 17, 18, 19, 20, 21, 22, 23, 24, 25, 26, 27, 28, 29, 30, 31, 32, 33, 34, 35, 36, 37, 38, 39, 40, 41, 42, 43, 44, 45, 46, 47, 48, 49, 50, 51, 52, 53, 54, 55, 56] (by decide +kernel) (by decide +kernel)
set_option maxRecDepth 20000 in
theorem gX9_balloonState_X9_isBalloon : GoodIn wsX9_balloonState (wsV RX9 246 RX9 yX9_isBalloon wsX9_isBalloon) := goodIn_app (goodIn_of _ (by decide +kernel)) ggX9_balloonState_X9_isBalloon
theorem dX9_balloonState_0 : decode cX9_balloonState 0 = .ok (.aload_n 0, 1) := by decide +kernel
theorem dX9_balloonState_1 : decode cX9_balloonState 1 = .ok (.iconst 0, 1) := by decide +kernel
theorem dX9_balloonState_2 : decode cX9_balloonState 2 = .ok (.putfield 1, 3) := by decide +kernel
theorem dX9_balloonState_5 : decode cX9_balloonState 5 = .ok (.aload_n 0, 1) := by decide +kernel
theorem dX9_balloonState_6 : decode cX9_balloonState 6 = .ok (.iload_n 1, 1) := by decide +kernel
theorem dX9_balloonState_7 : decode cX9_balloonState 7 = .ok (.invokevirtual 246, 3) := by decide +kernel
theorem dX9_balloonState_10 : decode cX9_balloonState 10 = .ok (.ifCond .eq 14, 3) := by decide +kernel
theorem dX9_balloonState_13 : decode cX9_balloonState 13 = .ok (.aload_n 0, 1) := by decide +kernel
theorem dX9_balloonState_14 : decode cX9_balloonState 14 = .ok (.getfield 13, 3) := by decide +kernel
theorem dX9_balloonState_17 : decode cX9_balloonState 17 = .ok (.iconst 5, 1) := by decide +kernel
theorem dX9_balloonState_18 : decode cX9_balloonState 18 = .ok (.iload_n 1, 1) := by decide +kernel
theorem dX9_balloonState_19 : decode cX9_balloonState 19 = .ok (.iadd, 1) := by decide +kernel
theorem dX9_balloonState_20 : decode cX9_balloonState 20 = .ok (.iaload, 1) := by decide +kernel
theorem dX9_balloonState_21 : decode cX9_balloonState 21 = .ok (.goto 4, 3) := by decide +kernel
theorem dX9_balloonState_24 : decode cX9_balloonState 24 = .ok (.iconst (-1), 1) := by decide +kernel
theorem dX9_balloonState_25 : decode cX9_balloonState 25 = .ok (.ireturn, 1) := by decide +kernel
set_option maxRecDepth 20000 in
theorem ggX9_balloonRegion_X9_isBalloon : GoodIn wsX9_balloonRegion wsX9_isBalloon := goodIn_r _ [7, 8, 9, 10, 6, 11, 12, 13, 14, 15, 16, 17, 18, 19, 20, 21, 22, 23, 24, 25, 26, 27, 28, 29, 30, 31, 32, 33, 34, 35, 36, 37, 38, 39, 40, 41, 42, 43, 44, 45, 46, 47, 48, 49, 50, 51, 52, 53, 54, 55, 56] (by decide +kernel) (by decide +kernel)
set_option maxRecDepth 20000 in
theorem gX9_balloonRegion_X9_isBalloon : GoodIn wsX9_balloonRegion (wsV RX9 246 RX9 yX9_isBalloon wsX9_isBalloon) := goodIn_app (goodIn_of _ (by decide +kernel)) ggX9_balloonRegion_X9_isBalloon
theorem dX9_balloonRegion_0 : decode cX9_balloonRegion 0 = .ok (.aload_n 0, 1) := by decide +kernel
theorem dX9_balloonRegion_1 : decode cX9_balloonRegion 1 = .ok (.iconst 0, 1) := by decide +kernel
theorem dX9_balloonRegion_2 : decode cX9_balloonRegion 2 = .ok (.putfield 1, 3) := by decide +kernel
theorem dX9_balloonRegion_5 : decode cX9_balloonRegion 5 = .ok (.aload_n 0, 1) := by decide +kernel
theorem dX9_balloonRegion_6 : decode cX9_balloonRegion 6 = .ok (.iload_n 1, 1) := by decide +kernel
theorem dX9_balloonRegion_7 : decode cX9_balloonRegion 7 = .ok (.invokevirtual 246, 3) := by decide +kernel
theorem dX9_balloonRegion_10 : decode cX9_balloonRegion 10 = .ok (.ifCond .eq 15, 3) := by decide +kernel
theorem dX9_balloonRegion_13 : decode cX9_balloonRegion 13 = .ok (.aload_n 0, 1) := by decide +kernel
theorem dX9_balloonRegion_14 : decode cX9_balloonRegion 14 = .ok (.getfield 13, 3) := by decide +kernel
theorem dX9_balloonRegion_17 : decode cX9_balloonRegion 17 = .ok (.bipush 15, 2) := by decide +kernel
theorem dX9_balloonRegion_19 : decode cX9_balloonRegion 19 = .ok (.iload_n 1, 1) := by decide +kernel
theorem dX9_balloonRegion_20 : decode cX9_balloonRegion 20 = .ok (.iadd, 1) := by decide +kernel
theorem dX9_balloonRegion_21 : decode cX9_balloonRegion 21 = .ok (.iaload, 1) := by decide +kernel
theorem dX9_balloonRegion_22 : decode cX9_balloonRegion 22 = .ok (.goto 4, 3) := by decide +kernel
theorem dX9_balloonRegion_25 : decode cX9_balloonRegion 25 = .ok (.iconst (-1), 1) := by decide +kernel
theorem dX9_balloonRegion_26 : decode cX9_balloonRegion 26 = .ok (.ireturn, 1) := by decide +kernel
set_option maxRecDepth 20000 in
theorem ggX9_cargo_X9_isBalloon : GoodIn wsX9_cargo wsX9_isBalloon := goodIn_r _ [7, 8, 9, 10, 6, 11, 12, 13, 14, 15, 16, 17, 18, 19, 20, 21, 22, 23, 24, 25, 26, 27, 28, 29, 30, 31, 32, 33, 34, 35, 36, 37, 38, 39, 40, 41, 42, 43, 44, 45, 46, 47, 48, 49, 50, 51, 52, 53, 54, 55, 56] (by decide +kernel) (by decide +kernel)
set_option maxRecDepth 20000 in
theorem gX9_cargo_X9_isBalloon : GoodIn wsX9_cargo (wsV RX9 246 RX9 yX9_isBalloon wsX9_isBalloon) := goodIn_app (goodIn_of _ (by decide +kernel)) ggX9_cargo_X9_isBalloon
theorem dX9_cargo_0 : decode cX9_cargo 0 = .ok (.aload_n 0, 1) := by decide +kernel
theorem dX9_cargo_1 : decode cX9_cargo 1 = .ok (.iconst 0, 1) := by decide +kernel
theorem dX9_cargo_2 : decode cX9_cargo 2 = .ok (.putfield 1, 3) := by decide +kernel
theorem dX9_cargo_5 : decode cX9_cargo 5 = .ok (.aload_n 0, 1) := by decide +kernel
theorem dX9_cargo_6 : decode cX9_cargo 6 = .ok (.iload_n 1, 1) := by decide +kernel
theorem dX9_cargo_7 : decode cX9_cargo 7 = .ok (.invokevirtual 246, 3) := by decide +kernel
theorem dX9_cargo_10 : decode cX9_cargo 10 = .ok (.ifCond .eq 15, 3) := by decide +kernel
theorem dX9_cargo_13 : decode cX9_cargo 13 = .ok (.aload_n 0, 1) := by decide +kernel
theorem dX9_cargo_14 : decode cX9_cargo 14 = .ok (.getfield 13, 3) := by decide +kernel
theorem dX9_cargo_17 : decode cX9_cargo 17 = .ok (.bipush 25, 2) := by decide +kernel
theorem dX9_cargo_19 : decode cX9_cargo 19 = .ok (.iload_n 1, 1) := by decide +kernel
theorem dX9_cargo_20 : decode cX9_cargo 20 = .ok (.iadd, 1) := by decide +kernel
theorem dX9_cargo_21 : decode cX9_cargo 21 = .ok (.iaload, 1) := by decide +kernel
theorem dX9_cargo_22 : decode cX9_cargo 22 = .ok (.goto 4, 3) := by decide +kernel
theorem dX9_cargo_25 : decode cX9_cargo 25 = .ok (.iconst (-1), 1) := by decide +kernel
theorem dX9_cargo_26 : decode cX9_cargo 26 = .ok (.ireturn, 1) := by decide +kernel
set_option maxRecDepth 20000 in
theorem ggX9_letterState_X9_isLetter : GoodIn wsX9_letterState wsX9_isLetter := goodIn_r _ [7, 8, 9, 10, 6, 11, 12, 13, 14, 15, 16, 17, 18, 19, 20, 21, 22, 23, 24, 25, 26, 27, 28, 29, 30, 31, 32, 33, 34, 35, 36, 37, 38, 39, 40, 41, 42, 43, 44, 45, 46, 47, 48, 49, 50, 51, 52, 53, 54, 55, 56] (by decide +kernel) (by decide +kernel)
set_option maxRecDepth 20000 in
theorem gX9_letterState_X9_isLetter : GoodIn wsX9_letterState (wsV RX9 249 RX9 yX9_isLetter wsX9_isLetter) := goodIn_app (goodIn_of _ (by decide +kernel)) ggX9_letterState_X9_isLetter
