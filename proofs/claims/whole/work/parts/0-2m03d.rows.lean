theorem dX6_copyFrom_146 : decode cX6_copyFrom 146 = .ok (.aload_n 0, 1) := by decide +kernel
theorem dX6_copyFrom_147 : decode cX6_copyFrom 147 = .ok (.aload_n 1, 1) := by decide +kernel
theorem dX6_copyFrom_148 : decode cX6_copyFrom 148 = .ok (.getfield 34, 3) := by decide +kernel
theorem dX6_copyFrom_151 : decode cX6_copyFrom 151 = .ok (.putfield 34, 3) := by decide +kernel
theorem dX6_copyFrom_154 : decode cX6_copyFrom 154 = .ok (.aload_n 0, 1) := by decide +kernel
theorem dX6_copyFrom_155 : decode cX6_copyFrom 155 = .ok (.aload_n 1, 1) := by decide +kernel
theorem dX6_copyFrom_156 : decode cX6_copyFrom 156 = .ok (.getfield 79, 3) := by decide +kernel
theorem dX6_copyFrom_159 : decode cX6_copyFrom 159 = .ok (.putfield 79, 3) := by decide +kernel
theorem dX6_copyFrom_162 : decode cX6_copyFrom 162 = .ok (.aload_n 0, 1) := by decide +kernel
theorem dX6_copyFrom_163 : decode cX6_copyFrom 163 = .ok (.aload_n 1, 1) := by decide +kernel
theorem dX6_copyFrom_164 : decode cX6_copyFrom 164 = .ok (.getfield 80, 3) := by decide +kernel
theorem dX6_copyFrom_167 : decode cX6_copyFrom 167 = .ok (.putfield 80, 3) := by decide +kernel
theorem dX6_copyFrom_170 : decode cX6_copyFrom 170 = .ok (.aload_n 0, 1) := by decide +kernel
theorem dX6_copyFrom_171 : decode cX6_copyFrom 171 = .ok (.aload_n 1, 1) := by decide +kernel
theorem dX6_copyFrom_172 : decode cX6_copyFrom 172 = .ok (.getfield 86, 3) := by decide +kernel
theorem dX6_copyFrom_175 : decode cX6_copyFrom 175 = .ok (.putfield 86, 3) := by decide +kernel
theorem dX6_copyFrom_178 : decode cX6_copyFrom 178 = .ok (.return_, 1) := by decide +kernel
theorem dX6_draw_0 : decode cX6_draw 0 = .ok (.aload_n 0, 1) := by decide +kernel
theorem dX6_draw_1 : decode cX6_draw 1 = .ok (.aload_n 0, 1) := by decide +kernel
theorem dX6_draw_2 : decode cX6_draw 2 = .ok (.getfield 86, 3) := by decide +kernel
theorem dX6_draw_5 : decode cX6_draw 5 = .ok (.ldc2_w 100, 3) := by decide +kernel
theorem dX6_draw_8 : decode cX6_draw 8 = .ok (.lmul, 1) := by decide +kernel
theorem dX6_draw_9 : decode cX6_draw 9 = .ok (.ldc2_w 102, 3) := by decide +kernel
theorem dX6_draw_12 : decode cX6_draw 12 = .ok (.ladd, 1) := by decide +kernel
theorem dX6_draw_13 : decode cX6_draw 13 = .ok (.ldc2_w 104, 3) := by decide +kernel
theorem dX6_draw_16 : decode cX6_draw 16 = .ok (.lrem, 1) := by decide +kernel
theorem dX6_draw_17 : decode cX6_draw 17 = .ok (.putfield 86, 3) := by decide +kernel
theorem dX6_draw_20 : decode cX6_draw 20 = .ok (.aload_n 0, 1) := by decide +kernel
theorem dX6_draw_21 : decode cX6_draw 21 = .ok (.getfield 86, 3) := by decide +kernel
theorem dX6_draw_24 : decode cX6_draw 24 = .ok (.ldc2_w 106, 3) := by decide +kernel
theorem dX6_draw_27 : decode cX6_draw 27 = .ok (.ldiv, 1) := by decide +kernel
theorem dX6_draw_28 : decode cX6_draw 28 = .ok (.ldc2_w 108, 3) := by decide +kernel
theorem dX6_draw_31 : decode cX6_draw 31 = .ok (.lrem, 1) := by decide +kernel
theorem dX6_draw_32 : decode cX6_draw 32 = .ok (.l2i, 1) := by decide +kernel
theorem dX6_draw_33 : decode cX6_draw 33 = .ok (.ireturn, 1) := by decide +kernel
set_option maxRecDepth 20000 in
theorem ggX6_fly_X5_hasBalloon : GoodIn wsX6_fly wsX5_hasBalloon := goodIn_r _ [18, 19, 94, 95, 96, 97, 98, 99, 100, 101, 102, 103, 104, 105, 106, 107] (by decide +kernel) (by decide +kernel)
set_option maxRecDepth 20000 in
theorem gX6_fly_X5_hasBalloon : GoodIn wsX6_fly (wsV RX6 110 RX5 yX5_hasBalloon wsX5_hasBalloon) := goodIn_app (goodIn_of _ (by decide +kernel)) ggX6_fly_X5_hasBalloon
set_option maxRecDepth 20000 in
theorem ggX6_fly_X6_draw : GoodIn wsX6_fly wsX6_draw := goodIn_r _ [24, 25, 26, 27, 28, 29, 30, 79, 80, 81, 82, 83, 84, 85, 86, 87, 88, 89, 90, 91, 92, 93] (by decide +kernel) (by decide +kernel)
set_option maxRecDepth 20000 in
theorem gX6_fly_X6_draw : GoodIn wsX6_fly (wsV RX6 114 RX6 yX6_draw wsX6_draw) := goodIn_app (goodIn_of _ (by decide +kernel)) ggX6_fly_X6_draw
set_option maxRecDepth 20000 in
theorem ggX6_fly_X7_chooseRegion : GoodIn wsX6_fly wsX7_chooseRegion := goodIn_r _ [35, 36, 37, 38, 39, 40, 34, 41, 42, 43, 44, 45, 46, 47, 108, 109, 110, 111, 112, 113, 114, 115] (by decide +kernel) (by decide +kernel)
set_option maxRecDepth 20000 in
theorem gX6_fly_X7_chooseRegion : GoodIn wsX6_fly (wsV RX6 118 RX7 yX7_chooseRegion wsX7_chooseRegion) := goodIn_app (goodIn_of _ (by decide +kernel)) ggX6_fly_X7_chooseRegion
set_option maxRecDepth 20000 in
theorem ggX6_fly_X6_drawFate : GoodIn wsX6_fly wsX6_drawFate := goodIn_r _ [51, 52, 53, 54, 55, 17, 56, 57, 20, 21, 22, 23, 24, 25, 26, 27, 28, 29, 30, 94, 95, 96, 97, 98, 99, 100, 101, 102, 103, 104, 105, 106, 107, 79, 80, 81, 82, 83, 84, 85, 86, 87, 88, 89, 90, 91, 92, 93] (by decide +kernel) (by decide +kernel)
set_option maxRecDepth 20000 in
theorem gX6_fly_X6_drawFate : GoodIn wsX6_fly (wsV RX6 122 RX6 yX6_drawFate wsX6_drawFate) := goodIn_app (goodIn_of _ (by decide +kernel)) ggX6_fly_X6_drawFate
set_option maxRecDepth 20000 in
theorem ggX6_fly_X1_add : GoodIn wsX6_fly wsX1_add := goodIn_r _ [62, 63, 64, 65, 66, 67, 68, 69, 61, 70, 116, 117, 118, 119] (by decide +kernel) (by decide +kernel)
set_option maxRecDepth 20000 in
theorem gX6_fly_X1_add : GoodIn wsX6_fly (wsV RX6 129 RX1 yX1_add wsX1_add) := goodIn_app (goodIn_of _ (by decide +kernel)) ggX6_fly_X1_add
set_option maxRecDepth 20000 in
theorem ggX6_fly_X6_release : GoodIn wsX6_fly wsX6_release := goodIn_r _ [74, 75, 12, 76, 10, 77, 78, 13, 14, 15, 16, 17, 18, 19, 53, 54, 55, 56, 57, 20, 21, 22, 23, 24, 25, 26, 27, 28, 29, 30, 79, 80, 81, 82, 83, 84, 85, 86, 87, 88, 89, 90, 91, 92, 93, 94, 95, 96, 97, 98, 99, 100, 101, 102, 103, 104, 105, 106, 107] (by decide +kernel) (by decide +kernel)
set_option maxRecDepth 20000 in
theorem gX6_fly_X6_release : GoodIn wsX6_fly (wsV RX6 133 RX6 yX6_release wsX6_release) := goodIn_app (goodIn_of _ (by decide +kernel)) ggX6_fly_X6_release
theorem dX6_fly_0 : decode cX6_fly 0 = .ok (.aload_n 1, 1) := by decide +kernel
theorem dX6_fly_1 : decode cX6_fly 1 = .ok (.iload_n 2, 1) := by decide +kernel
theorem dX6_fly_2 : decode cX6_fly 2 = .ok (.invokevirtual 110, 3) := by decide +kernel
theorem dX6_fly_5 : decode cX6_fly 5 = .ok (.ifCond .eq 19, 3) := by decide +kernel
theorem dX6_fly_8 : decode cX6_fly 8 = .ok (.aload_n 0, 1) := by decide +kernel
theorem dX6_fly_9 : decode cX6_fly 9 = .ok (.getfield 60, 3) := by decide +kernel
theorem dX6_fly_12 : decode cX6_fly 12 = .ok (.ifCond .lt 12, 3) := by decide +kernel
theorem dX6_fly_15 : decode cX6_fly 15 = .ok (.aload_n 0, 1) := by decide +kernel
theorem dX6_fly_16 : decode cX6_fly 16 = .ok (.getfield 60, 3) := by decide +kernel
theorem dX6_fly_19 : decode cX6_fly 19 = .ok (.bipush 10, 2) := by decide +kernel
theorem dX6_fly_21 : decode cX6_fly 21 = .ok (.if_icmp .lt 5, 3) := by decide +kernel
theorem dX6_fly_24 : decode cX6_fly 24 = .ok (.iconst (-1), 1) := by decide +kernel
theorem dX6_fly_25 : decode cX6_fly 25 = .ok (.ireturn, 1) := by decide +kernel
theorem dX6_fly_26 : decode cX6_fly 26 = .ok (.aload_n 1, 1) := by decide +kernel
theorem dX6_fly_27 : decode cX6_fly 27 = .ok (.getfield 66, 3) := by decide +kernel
theorem dX6_fly_30 : decode cX6_fly 30 = .ok (.aload_n 0, 1) := by decide +kernel
theorem dX6_fly_31 : decode cX6_fly 31 = .ok (.getfield 34, 3) := by decide +kernel
theorem dX6_fly_34 : decode cX6_fly 34 = .ok (.aload_n 0, 1) := by decide +kernel
theorem dX6_fly_35 : decode cX6_fly 35 = .ok (.invokevirtual 114, 3) := by decide +kernel
theorem dX6_fly_38 : decode cX6_fly 38 = .ok (.invokevirtual 118, 3) := by decide +kernel
theorem dX6_fly_41 : decode cX6_fly 41 = .ok (.istore 4, 2) := by decide +kernel
theorem dX6_fly_43 : decode cX6_fly 43 = .ok (.aload_n 0, 1) := by decide +kernel
theorem dX6_fly_44 : decode cX6_fly 44 = .ok (.aload_n 1, 1) := by decide +kernel
theorem dX6_fly_45 : decode cX6_fly 45 = .ok (.iload 4, 2) := by decide +kernel
theorem dX6_fly_47 : decode cX6_fly 47 = .ok (.invokevirtual 122, 3) := by decide +kernel
theorem dX6_fly_50 : decode cX6_fly 50 = .ok (.istore 5, 2) := by decide +kernel
theorem dX6_fly_52 : decode cX6_fly 52 = .ok (.aload_n 0, 1) := by decide +kernel
theorem dX6_fly_53 : decode cX6_fly 53 = .ok (.getfield 44, 3) := by decide +kernel
theorem dX6_fly_56 : decode cX6_fly 56 = .ok (.aload_n 0, 1) := by decide +kernel
theorem dX6_fly_57 : decode cX6_fly 57 = .ok (.getfield 60, 3) := by decide +kernel
theorem dX6_fly_60 : decode cX6_fly 60 = .ok (.iload_n 2, 1) := by decide +kernel
theorem dX6_fly_61 : decode cX6_fly 61 = .ok (.iastore, 1) := by decide +kernel
theorem dX6_fly_62 : decode cX6_fly 62 = .ok (.aload_n 0, 1) := by decide +kernel
theorem dX6_fly_63 : decode cX6_fly 63 = .ok (.dup, 1) := by decide +kernel
theorem dX6_fly_64 : decode cX6_fly 64 = .ok (.getfield 60, 3) := by decide +kernel
theorem dX6_fly_67 : decode cX6_fly 67 = .ok (.iconst 1, 1) := by decide +kernel
theorem dX6_fly_68 : decode cX6_fly 68 = .ok (.iadd, 1) := by decide +kernel
theorem dX6_fly_69 : decode cX6_fly 69 = .ok (.putfield 60, 3) := by decide +kernel
theorem dX6_fly_72 : decode cX6_fly 72 = .ok (.aload_n 0, 1) := by decide +kernel
theorem dX6_fly_73 : decode cX6_fly 73 = .ok (.getfield 18, 3) := by decide +kernel
theorem dX6_fly_76 : decode cX6_fly 76 = .ok (.iload_n 2, 1) := by decide +kernel
theorem dX6_fly_77 : decode cX6_fly 77 = .ok (.iload 5, 2) := by decide +kernel
theorem dX6_fly_79 : decode cX6_fly 79 = .ok (.iastore, 1) := by decide +kernel
theorem dX6_fly_80 : decode cX6_fly 80 = .ok (.aload_n 0, 1) := by decide +kernel
theorem dX6_fly_81 : decode cX6_fly 81 = .ok (.getfield 22, 3) := by decide +kernel
theorem dX6_fly_84 : decode cX6_fly 84 = .ok (.iload_n 2, 1) := by decide +kernel
theorem dX6_fly_85 : decode cX6_fly 85 = .ok (.iload 4, 2) := by decide +kernel
theorem dX6_fly_87 : decode cX6_fly 87 = .ok (.iastore, 1) := by decide +kernel
theorem dX6_fly_88 : decode cX6_fly 88 = .ok (.aload_n 0, 1) := by decide +kernel
theorem dX6_fly_89 : decode cX6_fly 89 = .ok (.getfield 25, 3) := by decide +kernel
theorem dX6_fly_92 : decode cX6_fly 92 = .ok (.iload_n 2, 1) := by decide +kernel
theorem dX6_fly_93 : decode cX6_fly 93 = .ok (.iload_n 3, 1) := by decide +kernel
theorem dX6_fly_94 : decode cX6_fly 94 = .ok (.iastore, 1) := by decide +kernel
theorem dX6_fly_95 : decode cX6_fly 95 = .ok (.aload_n 0, 1) := by decide +kernel
theorem dX6_fly_96 : decode cX6_fly 96 = .ok (.getfield 28, 3) := by decide +kernel
theorem dX6_fly_99 : decode cX6_fly 99 = .ok (.iconst 0, 1) := by decide +kernel
theorem dX6_fly_100 : decode cX6_fly 100 = .ok (.dup2, 1) := by decide +kernel
theorem dX6_fly_101 : decode cX6_fly 101 = .ok (.iaload, 1) := by decide +kernel
theorem dX6_fly_102 : decode cX6_fly 102 = .ok (.iload_n 3, 1) := by decide +kernel
theorem dX6_fly_103 : decode cX6_fly 103 = .ok (.iconst (-1), 1) := by decide +kernel
theorem dX6_fly_104 : decode cX6_fly 104 = .ok (.ixor, 1) := by decide +kernel
theorem dX6_fly_105 : decode cX6_fly 105 = .ok (.iand, 1) := by decide +kernel
theorem dX6_fly_106 : decode cX6_fly 106 = .ok (.iastore, 1) := by decide +kernel
theorem dX6_fly_107 : decode cX6_fly 107 = .ok (.aload_n 0, 1) := by decide +kernel
theorem dX6_fly_108 : decode cX6_fly 108 = .ok (.getfield 28, 3) := by decide +kernel
theorem dX6_fly_111 : decode cX6_fly 111 = .ok (.iload 5, 2) := by decide +kernel
theorem dX6_fly_113 : decode cX6_fly 113 = .ok (.iconst 3, 1) := by decide +kernel
theorem dX6_fly_114 : decode cX6_fly 114 = .ok (.if_icmp .ne 7, 3) := by decide +kernel
theorem dX6_fly_117 : decode cX6_fly 117 = .ok (.iconst 2, 1) := by decide +kernel
theorem dX6_fly_118 : decode cX6_fly 118 = .ok (.goto 4, 3) := by decide +kernel
theorem dX6_fly_121 : decode cX6_fly 121 = .ok (.iconst 1, 1) := by decide +kernel
theorem dX6_fly_122 : decode cX6_fly 122 = .ok (.dup2, 1) := by decide +kernel
theorem dX6_fly_123 : decode cX6_fly 123 = .ok (.iaload, 1) := by decide +kernel
theorem dX6_fly_124 : decode cX6_fly 124 = .ok (.iload_n 3, 1) := by decide +kernel
theorem dX6_fly_125 : decode cX6_fly 125 = .ok (.ior, 1) := by decide +kernel
theorem dX6_fly_126 : decode cX6_fly 126 = .ok (.iastore, 1) := by decide +kernel
theorem dX6_fly_127 : decode cX6_fly 127 = .ok (.aload_n 0, 1) := by decide +kernel
theorem dX6_fly_128 : decode cX6_fly 128 = .ok (.dup, 1) := by decide +kernel
theorem dX6_fly_129 : decode cX6_fly 129 = .ok (.getfield 79, 3) := by decide +kernel
theorem dX6_fly_132 : decode cX6_fly 132 = .ok (.aload_n 1, 1) := by decide +kernel
theorem dX6_fly_133 : decode cX6_fly 133 = .ok (.getfield 126, 3) := by decide +kernel
theorem dX6_fly_136 : decode cX6_fly 136 = .ok (.iload_n 2, 1) := by decide +kernel
theorem dX6_fly_137 : decode cX6_fly 137 = .ok (.iaload, 1) := by decide +kernel
theorem dX6_fly_138 : decode cX6_fly 138 = .ok (.isub, 1) := by decide +kernel
theorem dX6_fly_139 : decode cX6_fly 139 = .ok (.putfield 79, 3) := by decide +kernel
theorem dX6_fly_142 : decode cX6_fly 142 = .ok (.aload_n 0, 1) := by decide +kernel
theorem dX6_fly_143 : decode cX6_fly 143 = .ok (.getfield 12, 3) := by decide +kernel
theorem dX6_fly_146 : decode cX6_fly 146 = .ok (.iload 5, 2) := by decide +kernel
theorem dX6_fly_148 : decode cX6_fly 148 = .ok (.iload_n 2, 1) := by decide +kernel
theorem dX6_fly_149 : decode cX6_fly 149 = .ok (.aload_n 0, 1) := by decide +kernel
theorem dX6_fly_150 : decode cX6_fly 150 = .ok (.getfield 63, 3) := by decide +kernel
theorem dX6_fly_153 : decode cX6_fly 153 = .ok (.invokevirtual 129, 3) := by decide +kernel
theorem dX6_fly_156 : decode cX6_fly 156 = .ok (.iload 5, 2) := by decide +kernel
theorem dX6_fly_158 : decode cX6_fly 158 = .ok (.iconst 3, 1) := by decide +kernel
theorem dX6_fly_159 : decode cX6_fly 159 = .ok (.if_icmp .ne 14, 3) := by decide +kernel
theorem dX6_fly_162 : decode cX6_fly 162 = .ok (.aload_n 0, 1) := by decide +kernel
theorem dX6_fly_163 : decode cX6_fly 163 = .ok (.aload_n 1, 1) := by decide +kernel
theorem dX6_fly_164 : decode cX6_fly 164 = .ok (.iload_n 2, 1) := by decide +kernel
theorem dX6_fly_165 : decode cX6_fly 165 = .ok (.iload 4, 2) := by decide +kernel
theorem dX6_fly_167 : decode cX6_fly 167 = .ok (.invokevirtual 133, 3) := by decide +kernel
theorem dX6_fly_170 : decode cX6_fly 170 = .ok (.goto 18, 3) := by decide +kernel
theorem dX6_fly_173 : decode cX6_fly 173 = .ok (.aload_n 0, 1) := by decide +kernel
theorem dX6_fly_174 : decode cX6_fly 174 = .ok (.dup, 1) := by decide +kernel
theorem dX6_fly_175 : decode cX6_fly 175 = .ok (.getfield 80, 3) := by decide +kernel
theorem dX6_fly_178 : decode cX6_fly 178 = .ok (.aload_n 1, 1) := by decide +kernel
theorem dX6_fly_179 : decode cX6_fly 179 = .ok (.getfield 126, 3) := by decide +kernel
theorem dX6_fly_182 : decode cX6_fly 182 = .ok (.iload_n 2, 1) := by decide +kernel
theorem dX6_fly_183 : decode cX6_fly 183 = .ok (.iaload, 1) := by decide +kernel
theorem dX6_fly_184 : decode cX6_fly 184 = .ok (.iadd, 1) := by decide +kernel
theorem dX6_fly_185 : decode cX6_fly 185 = .ok (.putfield 80, 3) := by decide +kernel
theorem dX6_fly_188 : decode cX6_fly 188 = .ok (.iload 5, 2) := by decide +kernel
theorem dX6_fly_190 : decode cX6_fly 190 = .ok (.ireturn, 1) := by decide +kernel
set_option maxRecDepth 20000 in
theorem ggX6_drawFate_X5_hasRegion : GoodIn wsX6_drawFate wsX5_hasRegion := goodIn_r _ [6, 7, 19, 20, 21, 22, 23, 24, 25, 26, 27, 28, 29, 30, 31, 32] (by decide +kernel) (by decide +kernel)
set_option maxRecDepth 20000 in
theorem gX6_drawFate_X5_hasRegion : GoodIn wsX6_drawFate (wsV RX6 137 RX5 yX5_hasRegion wsX5_hasRegion) := goodIn_app (goodIn_of _ (by decide +kernel)) ggX6_drawFate_X5_hasRegion
set_option maxRecDepth 20000 in
theorem ggX6_drawFate_X6_draw : GoodIn wsX6_drawFate wsX6_draw := goodIn_r _ [12, 13, 14, 15, 16, 17, 18, 33, 34, 35, 36, 37, 38, 39, 40, 41, 42, 43, 44, 45, 46, 47] (by decide +kernel) (by decide +kernel)
set_option maxRecDepth 20000 in
theorem gX6_drawFate_X6_draw : GoodIn wsX6_drawFate (wsV RX6 114 RX6 yX6_draw wsX6_draw) := goodIn_app (goodIn_of _ (by decide +kernel)) ggX6_drawFate_X6_draw
theorem dX6_drawFate_0 : decode cX6_drawFate 0 = .ok (.aload_n 1, 1) := by decide +kernel
theorem dX6_drawFate_1 : decode cX6_drawFate 1 = .ok (.iload_n 2, 1) := by decide +kernel
theorem dX6_drawFate_2 : decode cX6_drawFate 2 = .ok (.invokevirtual 137, 3) := by decide +kernel
theorem dX6_drawFate_5 : decode cX6_drawFate 5 = .ok (.ifCond .ne 5, 3) := by decide +kernel
theorem dX6_drawFate_8 : decode cX6_drawFate 8 = .ok (.iconst 1, 1) := by decide +kernel
theorem dX6_drawFate_9 : decode cX6_drawFate 9 = .ok (.ireturn, 1) := by decide +kernel
theorem dX6_drawFate_10 : decode cX6_drawFate 10 = .ok (.aload_n 0, 1) := by decide +kernel
theorem dX6_drawFate_11 : decode cX6_drawFate 11 = .ok (.invokevirtual 114, 3) := by decide +kernel
theorem dX6_drawFate_14 : decode cX6_drawFate 14 = .ok (.aload_n 1, 1) := by decide +kernel
theorem dX6_drawFate_15 : decode cX6_drawFate 15 = .ok (.getfield 140, 3) := by decide +kernel
theorem dX6_drawFate_18 : decode cX6_drawFate 18 = .ok (.iload_n 2, 1) := by decide +kernel
theorem dX6_drawFate_19 : decode cX6_drawFate 19 = .ok (.iaload, 1) := by decide +kernel
theorem dX6_drawFate_20 : decode cX6_drawFate 20 = .ok (.if_icmp .ge 7, 3) := by decide +kernel
theorem dX6_drawFate_23 : decode cX6_drawFate 23 = .ok (.iconst 2, 1) := by decide +kernel
theorem dX6_drawFate_24 : decode cX6_drawFate 24 = .ok (.goto 4, 3) := by decide +kernel
theorem dX6_drawFate_27 : decode cX6_drawFate 27 = .ok (.iconst 3, 1) := by decide +kernel
theorem dX6_drawFate_28 : decode cX6_drawFate 28 = .ok (.ireturn, 1) := by decide +kernel
set_option maxRecDepth 20000 in
theorem ggX6_release_X5_hasBalloon : GoodIn wsX6_release wsX5_hasBalloon := goodIn_r _ [12, 13, 45, 46, 47, 48, 49, 50, 51, 52, 53, 54, 55, 56, 57, 58] (by decide +kernel) (by decide +kernel)
set_option maxRecDepth 20000 in
theorem gX6_release_X5_hasBalloon : GoodIn wsX6_release (wsV RX6 110 RX5 yX5_hasBalloon wsX5_hasBalloon) := goodIn_app (goodIn_of _ (by decide +kernel)) ggX6_release_X5_hasBalloon
set_option maxRecDepth 20000 in
theorem ggX6_release_X5_hasRegion : GoodIn wsX6_release wsX5_hasRegion := goodIn_r _ [17, 18, 45, 46, 47, 48, 49, 50, 51, 52, 53, 54, 55, 56, 57, 58] (by decide +kernel) (by decide +kernel)
set_option maxRecDepth 20000 in
theorem gX6_release_X5_hasRegion : GoodIn wsX6_release (wsV RX6 137 RX5 yX5_hasRegion wsX5_hasRegion) := goodIn_app (goodIn_of _ (by decide +kernel)) ggX6_release_X5_hasRegion
set_option maxRecDepth 20000 in
theorem ggX6_release_X6_draw : GoodIn wsX6_release wsX6_draw := goodIn_r _ [23, 24, 25, 26, 27, 28, 29, 30, 31, 32, 33, 34, 35, 36, 37, 38, 39, 40, 41, 42, 43, 44] (by decide +kernel) (by decide +kernel)
set_option maxRecDepth 20000 in
theorem gX6_release_X6_draw : GoodIn wsX6_release (wsV RX6 114 RX6 yX6_draw wsX6_draw) := goodIn_app (goodIn_of _ (by decide +kernel)) ggX6_release_X6_draw
theorem dX6_release_0 : decode cX6_release 0 = .ok (.aload_n 1, 1) := by decide +kernel
theorem dX6_release_1 : decode cX6_release 1 = .ok (.iload_n 2, 1) := by decide +kernel
theorem dX6_release_2 : decode cX6_release 2 = .ok (.invokevirtual 110, 3) := by decide +kernel
theorem dX6_release_5 : decode cX6_release 5 = .ok (.ifCond .eq 11, 3) := by decide +kernel
theorem dX6_release_8 : decode cX6_release 8 = .ok (.aload_n 1, 1) := by decide +kernel
theorem dX6_release_9 : decode cX6_release 9 = .ok (.iload_n 3, 1) := by decide +kernel
theorem dX6_release_10 : decode cX6_release 10 = .ok (.invokevirtual 137, 3) := by decide +kernel
theorem dX6_release_13 : decode cX6_release 13 = .ok (.ifCond .ne 4, 3) := by decide +kernel
theorem dX6_release_16 : decode cX6_release 16 = .ok (.return_, 1) := by decide +kernel
theorem dX6_release_17 : decode cX6_release 17 = .ok (.aload_n 0, 1) := by decide +kernel
theorem dX6_release_18 : decode cX6_release 18 = .ok (.getfield 41, 3) := by decide +kernel
theorem dX6_release_21 : decode cX6_release 21 = .ok (.iload_n 2, 1) := by decide +kernel
theorem dX6_release_22 : decode cX6_release 22 = .ok (.aload_n 0, 1) := by decide +kernel
theorem dX6_release_23 : decode cX6_release 23 = .ok (.getfield 63, 3) := by decide +kernel
theorem dX6_release_26 : decode cX6_release 26 = .ok (.aload_n 1, 1) := by decide +kernel
theorem dX6_release_27 : decode cX6_release 27 = .ok (.getfield 143, 3) := by decide +kernel
theorem dX6_release_30 : decode cX6_release 30 = .ok (.iload_n 3, 1) := by decide +kernel
theorem dX6_release_31 : decode cX6_release 31 = .ok (.iaload, 1) := by decide +kernel
theorem dX6_release_32 : decode cX6_release 32 = .ok (.iadd, 1) := by decide +kernel
theorem dX6_release_33 : decode cX6_release 33 = .ok (.iastore, 1) := by decide +kernel
theorem dX6_release_34 : decode cX6_release 34 = .ok (.iconst 0, 1) := by decide +kernel
theorem dX6_release_35 : decode cX6_release 35 = .ok (.istore 4, 2) := by decide +kernel
theorem dX6_release_37 : decode cX6_release 37 = .ok (.iload 4, 2) := by decide +kernel
theorem dX6_release_39 : decode cX6_release 39 = .ok (.aload_n 1, 1) := by decide +kernel
theorem dX6_release_40 : decode cX6_release 40 = .ok (.getfield 126, 3) := by decide +kernel
theorem dX6_release_43 : decode cX6_release 43 = .ok (.iload_n 2, 1) := by decide +kernel
theorem dX6_release_44 : decode cX6_release 44 = .ok (.iaload, 1) := by decide +kernel
theorem dX6_release_45 : decode cX6_release 45 = .ok (.if_icmp .ge 45, 3) := by decide +kernel
theorem dX6_release_48 : decode cX6_release 48 = .ok (.aload_n 0, 1) := by decide +kernel
theorem dX6_release_49 : decode cX6_release 49 = .ok (.invokevirtual 114, 3) := by decide +kernel
theorem dX6_release_52 : decode cX6_release 52 = .ok (.aload_n 1, 1) := by decide +kernel
theorem dX6_release_53 : decode cX6_release 53 = .ok (.getfield 146, 3) := by decide +kernel
theorem dX6_release_56 : decode cX6_release 56 = .ok (.iload_n 3, 1) := by decide +kernel
theorem dX6_release_57 : decode cX6_release 57 = .ok (.iaload, 1) := by decide +kernel
theorem dX6_release_58 : decode cX6_release 58 = .ok (.if_icmp .ge 16, 3) := by decide +kernel
theorem dX6_release_61 : decode cX6_release 61 = .ok (.aload_n 0, 1) := by decide +kernel
theorem dX6_release_62 : decode cX6_release 62 = .ok (.getfield 38, 3) := by decide +kernel
theorem dX6_release_65 : decode cX6_release 65 = .ok (.iload_n 2, 1) := by decide +kernel
theorem dX6_release_66 : decode cX6_release 66 = .ok (.dup2, 1) := by decide +kernel
theorem dX6_release_67 : decode cX6_release 67 = .ok (.iaload, 1) := by decide +kernel
theorem dX6_release_68 : decode cX6_release 68 = .ok (.iconst 1, 1) := by decide +kernel
theorem dX6_release_69 : decode cX6_release 69 = .ok (.iadd, 1) := by decide +kernel
theorem dX6_release_70 : decode cX6_release 70 = .ok (.iastore, 1) := by decide +kernel
theorem dX6_release_71 : decode cX6_release 71 = .ok (.goto 13, 3) := by decide +kernel
theorem dX6_release_74 : decode cX6_release 74 = .ok (.aload_n 0, 1) := by decide +kernel
theorem dX6_release_75 : decode cX6_release 75 = .ok (.dup, 1) := by decide +kernel
theorem dX6_release_76 : decode cX6_release 76 = .ok (.getfield 80, 3) := by decide +kernel
theorem dX6_release_79 : decode cX6_release 79 = .ok (.iconst 1, 1) := by decide +kernel
theorem dX6_release_80 : decode cX6_release 80 = .ok (.iadd, 1) := by decide +kernel
theorem dX6_release_81 : decode cX6_release 81 = .ok (.putfield 80, 3) := by decide +kernel
theorem dX6_release_84 : decode cX6_release 84 = .ok (.iinc 4 1, 3) := by decide +kernel
theorem dX6_release_87 : decode cX6_release 87 = .ok (.goto (-50), 3) := by decide +kernel
theorem dX6_release_90 : decode cX6_release 90 = .ok (.return_, 1) := by decide +kernel
set_option maxRecDepth 20000 in
theorem ggX6_passDay_X6_draw : GoodIn wsX6_passDay wsX6_draw := goodIn_r _ [11, 12, 13, 14, 15, 16, 17, 71, 72, 73, 74, 75, 76, 77, 78, 79, 80, 81, 82, 83, 84, 85] (by decide +kernel) (by decide +kernel)
set_option maxRecDepth 20000 in
theorem gX6_passDay_X6_draw : GoodIn wsX6_passDay (wsV RX6 114 RX6 yX6_draw wsX6_draw) := goodIn_app (goodIn_of _ (by decide +kernel)) ggX6_passDay_X6_draw
set_option maxRecDepth 20000 in
theorem ggX6_passDay_X7_chooseWind : GoodIn wsX6_passDay wsX7_chooseWind := goodIn_r _ [22, 23, 24, 25, 26, 27, 28, 21, 29, 30, 31, 100, 101, 102, 103, 104, 105, 106, 107] (by decide +kernel) (by decide +kernel)
set_option maxRecDepth 20000 in
theorem gX6_passDay_X7_chooseWind : GoodIn wsX6_passDay (wsV RX6 149 RX7 yX7_chooseWind wsX7_chooseWind) := goodIn_app (goodIn_of _ (by decide +kernel)) ggX6_passDay_X7_chooseWind
set_option maxRecDepth 20000 in
theorem ggX6_passDay_X6_turnWind : GoodIn wsX6_passDay wsX6_turnWind := goodIn_r _ [35, 4, 36, 1, 37, 38, 39, 40, 41, 42, 43, 44, 45, 46, 47, 48, 49, 71, 72, 73, 74, 75, 76, 77, 78, 79, 80, 81, 82, 83, 84, 85, 108, 109, 110, 111] (by decide +kernel) (by decide +kernel)
set_option maxRecDepth 20000 in
theorem gX6_passDay_X6_turnWind : GoodIn wsX6_passDay (wsV RX6 152 RX6 yX6_turnWind wsX6_turnWind) := goodIn_app (goodIn_of _ (by decide +kernel)) ggX6_passDay_X6_turnWind
set_option maxRecDepth 20000 in
theorem ggX6_passDay_X6_welcomePigeons : GoodIn wsX6_passDay wsX6_welcomePigeons := goodIn_r _ [53, 54, 55, 1, 56, 36, 57, 58, 59, 60, 61, 62, 63, 37, 38, 39, 40, 41, 42, 43, 44, 45, 46, 47, 48, 49, 64, 65, 66, 10, 67, 68, 69, 70, 71, 72, 73, 74, 75, 76, 77, 78, 79, 80, 81, 82, 83, 84, 85, 86, 87, 88, 89, 90, 91, 92, 93, 94, 95, 96, 97, 98, 99, 108, 109, 110, 111] (by decide +kernel) (by decide +kernel)
set_option maxRecDepth 20000 in
theorem gX6_passDay_X6_welcomePigeons : GoodIn wsX6_passDay (wsV RX6 156 RX6 yX6_welcomePigeons wsX6_welcomePigeons) := goodIn_app (goodIn_of _ (by decide +kernel)) ggX6_passDay_X6_welcomePigeons
theorem dX6_passDay_0 : decode cX6_passDay 0 = .ok (.aload_n 0, 1) := by decide +kernel
theorem dX6_passDay_1 : decode cX6_passDay 1 = .ok (.dup, 1) := by decide +kernel
theorem dX6_passDay_2 : decode cX6_passDay 2 = .ok (.getfield 63, 3) := by decide +kernel
theorem dX6_passDay_5 : decode cX6_passDay 5 = .ok (.iconst 1, 1) := by decide +kernel
theorem dX6_passDay_6 : decode cX6_passDay 6 = .ok (.iadd, 1) := by decide +kernel
theorem dX6_passDay_7 : decode cX6_passDay 7 = .ok (.putfield 63, 3) := by decide +kernel
theorem dX6_passDay_10 : decode cX6_passDay 10 = .ok (.aload_n 1, 1) := by decide +kernel
theorem dX6_passDay_11 : decode cX6_passDay 11 = .ok (.getfield 66, 3) := by decide +kernel
theorem dX6_passDay_14 : decode cX6_passDay 14 = .ok (.getfield 70, 3) := by decide +kernel
theorem dX6_passDay_17 : decode cX6_passDay 17 = .ok (.ifCond .le 22, 3) := by decide +kernel
theorem dX6_passDay_20 : decode cX6_passDay 20 = .ok (.aload_n 0, 1) := by decide +kernel
theorem dX6_passDay_21 : decode cX6_passDay 21 = .ok (.aload_n 1, 1) := by decide +kernel
theorem dX6_passDay_22 : decode cX6_passDay 22 = .ok (.getfield 66, 3) := by decide +kernel
theorem dX6_passDay_25 : decode cX6_passDay 25 = .ok (.aload_n 0, 1) := by decide +kernel
theorem dX6_passDay_26 : decode cX6_passDay 26 = .ok (.getfield 34, 3) := by decide +kernel
theorem dX6_passDay_29 : decode cX6_passDay 29 = .ok (.aload_n 0, 1) := by decide +kernel
theorem dX6_passDay_30 : decode cX6_passDay 30 = .ok (.invokevirtual 114, 3) := by decide +kernel
theorem dX6_passDay_33 : decode cX6_passDay 33 = .ok (.invokevirtual 149, 3) := by decide +kernel
theorem dX6_passDay_36 : decode cX6_passDay 36 = .ok (.invokevirtual 152, 3) := by decide +kernel
theorem dX6_passDay_39 : decode cX6_passDay 39 = .ok (.iconst 0, 1) := by decide +kernel
theorem dX6_passDay_40 : decode cX6_passDay 40 = .ok (.istore_n 2, 1) := by decide +kernel
theorem dX6_passDay_41 : decode cX6_passDay 41 = .ok (.iload_n 2, 1) := by decide +kernel
theorem dX6_passDay_42 : decode cX6_passDay 42 = .ok (.aload_n 0, 1) := by decide +kernel
theorem dX6_passDay_43 : decode cX6_passDay 43 = .ok (.getfield 60, 3) := by decide +kernel
theorem dX6_passDay_46 : decode cX6_passDay 46 = .ok (.if_icmp .ge 26, 3) := by decide +kernel
theorem dX6_passDay_49 : decode cX6_passDay 49 = .ok (.iload_n 2, 1) := by decide +kernel
theorem dX6_passDay_50 : decode cX6_passDay 50 = .ok (.bipush 10, 2) := by decide +kernel
theorem dX6_passDay_52 : decode cX6_passDay 52 = .ok (.if_icmp .ge 20, 3) := by decide +kernel
theorem dX6_passDay_55 : decode cX6_passDay 55 = .ok (.aload_n 0, 1) := by decide +kernel
theorem dX6_passDay_56 : decode cX6_passDay 56 = .ok (.aload_n 1, 1) := by decide +kernel
theorem dX6_passDay_57 : decode cX6_passDay 57 = .ok (.aload_n 0, 1) := by decide +kernel
theorem dX6_passDay_58 : decode cX6_passDay 58 = .ok (.getfield 44, 3) := by decide +kernel
theorem dX6_passDay_61 : decode cX6_passDay 61 = .ok (.iload_n 2, 1) := by decide +kernel
theorem dX6_passDay_62 : decode cX6_passDay 62 = .ok (.iaload, 1) := by decide +kernel
theorem dX6_passDay_63 : decode cX6_passDay 63 = .ok (.invokevirtual 156, 3) := by decide +kernel
theorem dX6_passDay_66 : decode cX6_passDay 66 = .ok (.iinc 2 1, 3) := by decide +kernel
theorem dX6_passDay_69 : decode cX6_passDay 69 = .ok (.goto (-28), 3) := by decide +kernel
theorem dX6_passDay_72 : decode cX6_passDay 72 = .ok (.return_, 1) := by decide +kernel
set_option maxRecDepth 20000 in
theorem ggX6_turnWind_X1_add : GoodIn wsX6_turnWind wsX1_add := goodIn_r _ [8, 9, 10, 11, 12, 13, 14, 15, 7, 16, 32, 33, 34, 35] (by decide +kernel) (by decide +kernel)
set_option maxRecDepth 20000 in
theorem gX6_turnWind_X1_add : GoodIn wsX6_turnWind (wsV RX6 129 RX1 yX1_add wsX1_add) := goodIn_app (goodIn_of _ (by decide +kernel)) ggX6_turnWind_X1_add
theorem dX6_turnWind_0 : decode cX6_turnWind 0 = .ok (.iload_n 1, 1) := by decide +kernel
theorem dX6_turnWind_1 : decode cX6_turnWind 1 = .ok (.aload_n 0, 1) := by decide +kernel
theorem dX6_turnWind_2 : decode cX6_turnWind 2 = .ok (.getfield 34, 3) := by decide +kernel
theorem dX6_turnWind_5 : decode cX6_turnWind 5 = .ok (.if_icmp .eq 21, 3) := by decide +kernel
theorem dX6_turnWind_8 : decode cX6_turnWind 8 = .ok (.aload_n 0, 1) := by decide +kernel
theorem dX6_turnWind_9 : decode cX6_turnWind 9 = .ok (.iload_n 1, 1) := by decide +kernel
theorem dX6_turnWind_10 : decode cX6_turnWind 10 = .ok (.putfield 34, 3) := by decide +kernel
theorem dX6_turnWind_13 : decode cX6_turnWind 13 = .ok (.aload_n 0, 1) := by decide +kernel
theorem dX6_turnWind_14 : decode cX6_turnWind 14 = .ok (.getfield 12, 3) := by decide +kernel
theorem dX6_turnWind_17 : decode cX6_turnWind 17 = .ok (.iconst 5, 1) := by decide +kernel
theorem dX6_turnWind_18 : decode cX6_turnWind 18 = .ok (.iload_n 1, 1) := by decide +kernel
theorem dX6_turnWind_19 : decode cX6_turnWind 19 = .ok (.aload_n 0, 1) := by decide +kernel
theorem dX6_turnWind_20 : decode cX6_turnWind 20 = .ok (.getfield 63, 3) := by decide +kernel
theorem dX6_turnWind_23 : decode cX6_turnWind 23 = .ok (.invokevirtual 129, 3) := by decide +kernel
theorem dX6_turnWind_26 : decode cX6_turnWind 26 = .ok (.return_, 1) := by decide +kernel
set_option maxRecDepth 20000 in
theorem ggX6_welcomePigeons_X5_hasBalloon : GoodIn wsX6_welcomePigeons wsX5_hasBalloon := goodIn_r _ [11, 12, 49, 50, 51, 52, 53, 54, 55, 56, 57, 58, 59, 60, 61, 62] (by decide +kernel) (by decide +kernel)
set_option maxRecDepth 20000 in
theorem gX6_welcomePigeons_X5_hasBalloon : GoodIn wsX6_welcomePigeons (wsV RX6 110 RX5 yX5_hasBalloon wsX5_hasBalloon) := goodIn_app (goodIn_of _ (by decide +kernel)) ggX6_welcomePigeons_X5_hasBalloon
set_option maxRecDepth 20000 in
theorem ggX6_welcomePigeons_X1_add : GoodIn wsX6_welcomePigeons wsX1_add := goodIn_r _ [17, 18, 19, 20, 21, 22, 23, 24, 16, 25, 63, 64, 65, 66] (by decide +kernel) (by decide +kernel)
set_option maxRecDepth 20000 in
theorem gX6_welcomePigeons_X1_add : GoodIn wsX6_welcomePigeons (wsV RX6 129 RX1 yX1_add wsX1_add) := goodIn_app (goodIn_of _ (by decide +kernel)) ggX6_welcomePigeons_X1_add
set_option maxRecDepth 20000 in
theorem ggX6_welcomePigeons_X6_answer : GoodIn wsX6_welcomePigeons wsX6_answer := goodIn_r _ [30, 31, 32, 33, 3, 34, 35, 36, 37, 38, 39, 40, 41, 42, 43, 44, 45, 46, 47, 48, 49, 50, 51, 52, 53, 54, 55, 56, 57, 58, 59, 60, 61, 62] (by decide +kernel) (by decide +kernel)
set_option maxRecDepth 20000 in
theorem gX6_welcomePigeons_X6_answer : GoodIn wsX6_welcomePigeons (wsV RX6 160 RX6 yX6_answer wsX6_answer) := goodIn_app (goodIn_of _ (by decide +kernel)) ggX6_welcomePigeons_X6_answer
theorem dX6_welcomePigeons_0 : decode cX6_welcomePigeons 0 = .ok (.aload_n 1, 1) := by decide +kernel
theorem dX6_welcomePigeons_1 : decode cX6_welcomePigeons 1 = .ok (.iload_n 2, 1) := by decide +kernel
theorem dX6_welcomePigeons_2 : decode cX6_welcomePigeons 2 = .ok (.invokevirtual 110, 3) := by decide +kernel
theorem dX6_welcomePigeons_5 : decode cX6_welcomePigeons 5 = .ok (.ifCond .eq 25, 3) := by decide +kernel
theorem dX6_welcomePigeons_8 : decode cX6_welcomePigeons 8 = .ok (.aload_n 0, 1) := by decide +kernel
theorem dX6_welcomePigeons_9 : decode cX6_welcomePigeons 9 = .ok (.getfield 38, 3) := by decide +kernel
theorem dX6_welcomePigeons_12 : decode cX6_welcomePigeons 12 = .ok (.iload_n 2, 1) := by decide +kernel
theorem dX6_welcomePigeons_13 : decode cX6_welcomePigeons 13 = .ok (.iaload, 1) := by decide +kernel
theorem dX6_welcomePigeons_14 : decode cX6_welcomePigeons 14 = .ok (.ifCond .eq 16, 3) := by decide +kernel
theorem dX6_welcomePigeons_17 : decode cX6_welcomePigeons 17 = .ok (.aload_n 0, 1) := by decide +kernel
theorem dX6_welcomePigeons_18 : decode cX6_welcomePigeons 18 = .ok (.getfield 41, 3) := by decide +kernel
theorem dX6_welcomePigeons_21 : decode cX6_welcomePigeons 21 = .ok (.iload_n 2, 1) := by decide +kernel
theorem dX6_welcomePigeons_22 : decode cX6_welcomePigeons 22 = .ok (.iaload, 1) := by decide +kernel
theorem dX6_welcomePigeons_23 : decode cX6_welcomePigeons 23 = .ok (.aload_n 0, 1) := by decide +kernel
theorem dX6_welcomePigeons_24 : decode cX6_welcomePigeons 24 = .ok (.getfield 63, 3) := by decide +kernel
theorem dX6_welcomePigeons_27 : decode cX6_welcomePigeons 27 = .ok (.if_icmp .eq 4, 3) := by decide +kernel
theorem dX6_welcomePigeons_30 : decode cX6_welcomePigeons 30 = .ok (.return_, 1) := by decide +kernel
theorem dX6_welcomePigeons_31 : decode cX6_welcomePigeons 31 = .ok (.iconst 0, 1) := by decide +kernel
theorem dX6_welcomePigeons_32 : decode cX6_welcomePigeons 32 = .ok (.istore_n 3, 1) := by decide +kernel
theorem dX6_welcomePigeons_33 : decode cX6_welcomePigeons 33 = .ok (.iload_n 3, 1) := by decide +kernel
theorem dX6_welcomePigeons_34 : decode cX6_welcomePigeons 34 = .ok (.aload_n 0, 1) := by decide +kernel
theorem dX6_welcomePigeons_35 : decode cX6_welcomePigeons 35 = .ok (.getfield 38, 3) := by decide +kernel
theorem dX6_welcomePigeons_38 : decode cX6_welcomePigeons 38 = .ok (.iload_n 2, 1) := by decide +kernel
theorem dX6_welcomePigeons_39 : decode cX6_welcomePigeons 39 = .ok (.iaload, 1) := by decide +kernel
theorem dX6_welcomePigeons_40 : decode cX6_welcomePigeons 40 = .ok (.if_icmp .ge 32, 3) := by decide +kernel
theorem dX6_welcomePigeons_43 : decode cX6_welcomePigeons 43 = .ok (.aload_n 0, 1) := by decide +kernel
theorem dX6_welcomePigeons_44 : decode cX6_welcomePigeons 44 = .ok (.dup, 1) := by decide +kernel
theorem dX6_welcomePigeons_45 : decode cX6_welcomePigeons 45 = .ok (.getfield 79, 3) := by decide +kernel
theorem dX6_welcomePigeons_48 : decode cX6_welcomePigeons 48 = .ok (.iconst 1, 1) := by decide +kernel
theorem dX6_welcomePigeons_49 : decode cX6_welcomePigeons 49 = .ok (.iadd, 1) := by decide +kernel
theorem dX6_welcomePigeons_50 : decode cX6_welcomePigeons 50 = .ok (.putfield 79, 3) := by decide +kernel
theorem dX6_welcomePigeons_53 : decode cX6_welcomePigeons 53 = .ok (.aload_n 0, 1) := by decide +kernel
theorem dX6_welcomePigeons_54 : decode cX6_welcomePigeons 54 = .ok (.getfield 12, 3) := by decide +kernel
theorem dX6_welcomePigeons_57 : decode cX6_welcomePigeons 57 = .ok (.iconst 4, 1) := by decide +kernel
theorem dX6_welcomePigeons_58 : decode cX6_welcomePigeons 58 = .ok (.iload_n 2, 1) := by decide +kernel
theorem dX6_welcomePigeons_59 : decode cX6_welcomePigeons 59 = .ok (.aload_n 0, 1) := by decide +kernel
theorem dX6_welcomePigeons_60 : decode cX6_welcomePigeons 60 = .ok (.getfield 63, 3) := by decide +kernel
theorem dX6_welcomePigeons_63 : decode cX6_welcomePigeons 63 = .ok (.invokevirtual 129, 3) := by decide +kernel
theorem dX6_welcomePigeons_66 : decode cX6_welcomePigeons 66 = .ok (.iinc 3 1, 3) := by decide +kernel
theorem dX6_welcomePigeons_69 : decode cX6_welcomePigeons 69 = .ok (.goto (-36), 3) := by decide +kernel
theorem dX6_welcomePigeons_72 : decode cX6_welcomePigeons 72 = .ok (.aload_n 0, 1) := by decide +kernel
theorem dX6_welcomePigeons_73 : decode cX6_welcomePigeons 73 = .ok (.getfield 38, 3) := by decide +kernel
theorem dX6_welcomePigeons_76 : decode cX6_welcomePigeons 76 = .ok (.iload_n 2, 1) := by decide +kernel
theorem dX6_welcomePigeons_77 : decode cX6_welcomePigeons 77 = .ok (.iconst 0, 1) := by decide +kernel
theorem dX6_welcomePigeons_78 : decode cX6_welcomePigeons 78 = .ok (.iastore, 1) := by decide +kernel
theorem dX6_welcomePigeons_79 : decode cX6_welcomePigeons 79 = .ok (.aload_n 0, 1) := by decide +kernel
theorem dX6_welcomePigeons_80 : decode cX6_welcomePigeons 80 = .ok (.aload_n 1, 1) := by decide +kernel
theorem dX6_welcomePigeons_81 : decode cX6_welcomePigeons 81 = .ok (.aload_n 0, 1) := by decide +kernel
theorem dX6_welcomePigeons_82 : decode cX6_welcomePigeons 82 = .ok (.getfield 25, 3) := by decide +kernel
theorem dX6_welcomePigeons_85 : decode cX6_welcomePigeons 85 = .ok (.iload_n 2, 1) := by decide +kernel
theorem dX6_welcomePigeons_86 : decode cX6_welcomePigeons 86 = .ok (.iaload, 1) := by decide +kernel
theorem dX6_welcomePigeons_87 : decode cX6_welcomePigeons 87 = .ok (.invokevirtual 160, 3) := by decide +kernel
theorem dX6_welcomePigeons_90 : decode cX6_welcomePigeons 90 = .ok (.return_, 1) := by decide +kernel
theorem dX6_answer_0 : decode cX6_answer 0 = .ok (.aload_n 0, 1) := by decide +kernel
theorem dX6_answer_1 : decode cX6_answer 1 = .ok (.getfield 28, 3) := by decide +kernel
theorem dX6_answer_4 : decode cX6_answer 4 = .ok (.iconst 2, 1) := by decide +kernel
theorem dX6_answer_5 : decode cX6_answer 5 = .ok (.dup2, 1) := by decide +kernel
theorem dX6_answer_6 : decode cX6_answer 6 = .ok (.iaload, 1) := by decide +kernel
theorem dX6_answer_7 : decode cX6_answer 7 = .ok (.iload_n 2, 1) := by decide +kernel
theorem dX6_answer_8 : decode cX6_answer 8 = .ok (.iconst (-1), 1) := by decide +kernel
theorem dX6_answer_9 : decode cX6_answer 9 = .ok (.ixor, 1) := by decide +kernel
theorem dX6_answer_10 : decode cX6_answer 10 = .ok (.iand, 1) := by decide +kernel
theorem dX6_answer_11 : decode cX6_answer 11 = .ok (.iastore, 1) := by decide +kernel
theorem dX6_answer_12 : decode cX6_answer 12 = .ok (.aload_n 0, 1) := by decide +kernel
theorem dX6_answer_13 : decode cX6_answer 13 = .ok (.getfield 28, 3) := by decide +kernel
theorem dX6_answer_16 : decode cX6_answer 16 = .ok (.iconst 3, 1) := by decide +kernel
theorem dX6_answer_17 : decode cX6_answer 17 = .ok (.dup2, 1) := by decide +kernel
theorem dX6_answer_18 : decode cX6_answer 18 = .ok (.iaload, 1) := by decide +kernel
theorem dX6_answer_19 : decode cX6_answer 19 = .ok (.iload_n 2, 1) := by decide +kernel
theorem dX6_answer_20 : decode cX6_answer 20 = .ok (.ior, 1) := by decide +kernel
theorem dX6_answer_21 : decode cX6_answer 21 = .ok (.iastore, 1) := by decide +kernel
theorem dX6_answer_22 : decode cX6_answer 22 = .ok (.iconst 0, 1) := by decide +kernel
theorem dX6_answer_23 : decode cX6_answer 23 = .ok (.istore_n 3, 1) := by decide +kernel
theorem dX6_answer_24 : decode cX6_answer 24 = .ok (.iload_n 3, 1) := by decide +kernel
theorem dX6_answer_25 : decode cX6_answer 25 = .ok (.aload_n 1, 1) := by decide +kernel
theorem dX6_answer_26 : decode cX6_answer 26 = .ok (.getfield 56, 3) := by decide +kernel
theorem dX6_answer_29 : decode cX6_answer 29 = .ok (.if_icmp .ge 28, 3) := by decide +kernel
theorem dX6_answer_32 : decode cX6_answer 32 = .ok (.iload_n 2, 1) := by decide +kernel
theorem dX6_answer_33 : decode cX6_answer 33 = .ok (.iload_n 3, 1) := by decide +kernel
theorem dX6_answer_34 : decode cX6_answer 34 = .ok (.ishr, 1) := by decide +kernel
theorem dX6_answer_35 : decode cX6_answer 35 = .ok (.iconst 1, 1) := by decide +kernel
theorem dX6_answer_36 : decode cX6_answer 36 = .ok (.iand, 1) := by decide +kernel
theorem dX6_answer_37 : decode cX6_answer 37 = .ok (.iconst 1, 1) := by decide +kernel
theorem dX6_answer_38 : decode cX6_answer 38 = .ok (.if_icmp .ne 13, 3) := by decide +kernel
theorem dX6_answer_41 : decode cX6_answer 41 = .ok (.aload_n 0, 1) := by decide +kernel
theorem dX6_answer_42 : decode cX6_answer 42 = .ok (.getfield 31, 3) := by decide +kernel
theorem dX6_answer_45 : decode cX6_answer 45 = .ok (.iload_n 3, 1) := by decide +kernel
theorem dX6_answer_46 : decode cX6_answer 46 = .ok (.aload_n 0, 1) := by decide +kernel
theorem dX6_answer_47 : decode cX6_answer 47 = .ok (.getfield 63, 3) := by decide +kernel
theorem dX6_answer_50 : decode cX6_answer 50 = .ok (.iastore, 1) := by decide +kernel
theorem dX6_answer_51 : decode cX6_answer 51 = .ok (.iinc 3 1, 3) := by decide +kernel
theorem dX6_answer_54 : decode cX6_answer 54 = .ok (.goto (-30), 3) := by decide +kernel
theorem dX6_answer_57 : decode cX6_answer 57 = .ok (.return_, 1) := by decide +kernel
theorem dX6_stateOfLetter_0 : decode cX6_stateOfLetter 0 = .ok (.iconst 3, 1) := by decide +kernel
theorem dX6_stateOfLetter_1 : decode cX6_stateOfLetter 1 = .ok (.istore_n 2, 1) := by decide +kernel
theorem dX6_stateOfLetter_2 : decode cX6_stateOfLetter 2 = .ok (.iload_n 2, 1) := by decide +kernel
theorem dX6_stateOfLetter_3 : decode cX6_stateOfLetter 3 = .ok (.ifCond .le 25, 3) := by decide +kernel
theorem dX6_stateOfLetter_6 : decode cX6_stateOfLetter 6 = .ok (.aload_n 0, 1) := by decide +kernel
theorem dX6_stateOfLetter_7 : decode cX6_stateOfLetter 7 = .ok (.getfield 28, 3) := by decide +kernel
theorem dX6_stateOfLetter_10 : decode cX6_stateOfLetter 10 = .ok (.iload_n 2, 1) := by decide +kernel
theorem dX6_stateOfLetter_11 : decode cX6_stateOfLetter 11 = .ok (.iaload, 1) := by decide +kernel
theorem dX6_stateOfLetter_12 : decode cX6_stateOfLetter 12 = .ok (.iload_n 1, 1) := by decide +kernel
theorem dX6_stateOfLetter_13 : decode cX6_stateOfLetter 13 = .ok (.ishr, 1) := by decide +kernel
theorem dX6_stateOfLetter_14 : decode cX6_stateOfLetter 14 = .ok (.iconst 1, 1) := by decide +kernel
theorem dX6_stateOfLetter_15 : decode cX6_stateOfLetter 15 = .ok (.iand, 1) := by decide +kernel
theorem dX6_stateOfLetter_16 : decode cX6_stateOfLetter 16 = .ok (.iconst 1, 1) := by decide +kernel
theorem dX6_stateOfLetter_17 : decode cX6_stateOfLetter 17 = .ok (.if_icmp .ne 5, 3) := by decide +kernel
theorem dX6_stateOfLetter_20 : decode cX6_stateOfLetter 20 = .ok (.iload_n 2, 1) := by decide +kernel
theorem dX6_stateOfLetter_21 : decode cX6_stateOfLetter 21 = .ok (.ireturn, 1) := by decide +kernel
theorem dX6_stateOfLetter_22 : decode cX6_stateOfLetter 22 = .ok (.iinc 2 (-1), 3) := by decide +kernel
theorem dX6_stateOfLetter_25 : decode cX6_stateOfLetter 25 = .ok (.goto (-23), 3) := by decide +kernel
theorem dX6_stateOfLetter_28 : decode cX6_stateOfLetter 28 = .ok (.iconst 0, 1) := by decide +kernel
theorem dX6_stateOfLetter_29 : decode cX6_stateOfLetter 29 = .ok (.ireturn, 1) := by decide +kernel
theorem dX6_readyBalloons_0 : decode cX6_readyBalloons 0 = .ok (.iconst 0, 1) := by decide +kernel
theorem dX6_readyBalloons_1 : decode cX6_readyBalloons 1 = .ok (.istore_n 2, 1) := by decide +kernel
theorem dX6_readyBalloons_2 : decode cX6_readyBalloons 2 = .ok (.iconst 0, 1) := by decide +kernel
theorem dX6_readyBalloons_3 : decode cX6_readyBalloons 3 = .ok (.istore_n 3, 1) := by decide +kernel
theorem dX6_readyBalloons_4 : decode cX6_readyBalloons 4 = .ok (.iload_n 3, 1) := by decide +kernel
theorem dX6_readyBalloons_5 : decode cX6_readyBalloons 5 = .ok (.aload_n 1, 1) := by decide +kernel
theorem dX6_readyBalloons_6 : decode cX6_readyBalloons 6 = .ok (.getfield 163, 3) := by decide +kernel
theorem dX6_readyBalloons_9 : decode cX6_readyBalloons 9 = .ok (.if_icmp .ge 24, 3) := by decide +kernel
theorem dX6_readyBalloons_12 : decode cX6_readyBalloons 12 = .ok (.aload_n 0, 1) := by decide +kernel
theorem dX6_readyBalloons_13 : decode cX6_readyBalloons 13 = .ok (.getfield 18, 3) := by decide +kernel
theorem dX6_readyBalloons_16 : decode cX6_readyBalloons 16 = .ok (.iload_n 3, 1) := by decide +kernel
theorem dX6_readyBalloons_17 : decode cX6_readyBalloons 17 = .ok (.iaload, 1) := by decide +kernel
theorem dX6_readyBalloons_18 : decode cX6_readyBalloons 18 = .ok (.ifCond .ne 9, 3) := by decide +kernel
theorem dX6_readyBalloons_21 : decode cX6_readyBalloons 21 = .ok (.iload_n 2, 1) := by decide +kernel
theorem dX6_readyBalloons_22 : decode cX6_readyBalloons 22 = .ok (.iconst 1, 1) := by decide +kernel
theorem dX6_readyBalloons_23 : decode cX6_readyBalloons 23 = .ok (.iload_n 3, 1) := by decide +kernel
theorem dX6_readyBalloons_24 : decode cX6_readyBalloons 24 = .ok (.ishl, 1) := by decide +kernel
theorem dX6_readyBalloons_25 : decode cX6_readyBalloons 25 = .ok (.ior, 1) := by decide +kernel
theorem dX6_readyBalloons_26 : decode cX6_readyBalloons 26 = .ok (.istore_n 2, 1) := by decide +kernel
theorem dX6_readyBalloons_27 : decode cX6_readyBalloons 27 = .ok (.iinc 3 1, 3) := by decide +kernel
theorem dX6_readyBalloons_30 : decode cX6_readyBalloons 30 = .ok (.goto (-26), 3) := by decide +kernel
theorem dX6_readyBalloons_33 : decode cX6_readyBalloons 33 = .ok (.iload_n 2, 1) := by decide +kernel
theorem dX6_readyBalloons_34 : decode cX6_readyBalloons 34 = .ok (.ireturn, 1) := by decide +kernel
theorem dX6_cameDownIn_0 : decode cX6_cameDownIn 0 = .ok (.iconst 0, 1) := by decide +kernel
theorem dX6_cameDownIn_1 : decode cX6_cameDownIn 1 = .ok (.istore_n 3, 1) := by decide +kernel
theorem dX6_cameDownIn_2 : decode cX6_cameDownIn 2 = .ok (.iconst 0, 1) := by decide +kernel
theorem dX6_cameDownIn_3 : decode cX6_cameDownIn 3 = .ok (.istore 4, 2) := by decide +kernel
theorem dX6_cameDownIn_5 : decode cX6_cameDownIn 5 = .ok (.iload 4, 2) := by decide +kernel
theorem dX6_cameDownIn_7 : decode cX6_cameDownIn 7 = .ok (.aload_n 1, 1) := by decide +kernel
theorem dX6_cameDownIn_8 : decode cX6_cameDownIn 8 = .ok (.getfield 163, 3) := by decide +kernel
theorem dX6_cameDownIn_11 : decode cX6_cameDownIn 11 = .ok (.if_icmp .ge 23, 3) := by decide +kernel
theorem dX6_cameDownIn_14 : decode cX6_cameDownIn 14 = .ok (.aload_n 0, 1) := by decide +kernel
theorem dX6_cameDownIn_15 : decode cX6_cameDownIn 15 = .ok (.getfield 22, 3) := by decide +kernel
theorem dX6_cameDownIn_18 : decode cX6_cameDownIn 18 = .ok (.iload 4, 2) := by decide +kernel
theorem dX6_cameDownIn_20 : decode cX6_cameDownIn 20 = .ok (.iaload, 1) := by decide +kernel
theorem dX6_cameDownIn_21 : decode cX6_cameDownIn 21 = .ok (.iload_n 2, 1) := by decide +kernel
theorem dX6_cameDownIn_22 : decode cX6_cameDownIn 22 = .ok (.if_icmp .ne 6, 3) := by decide +kernel
theorem dX6_cameDownIn_25 : decode cX6_cameDownIn 25 = .ok (.iinc 3 1, 3) := by decide +kernel
theorem dX6_cameDownIn_28 : decode cX6_cameDownIn 28 = .ok (.iinc 4 1, 3) := by decide +kernel
theorem dX6_cameDownIn_31 : decode cX6_cameDownIn 31 = .ok (.goto (-26), 3) := by decide +kernel
theorem dX6_cameDownIn_34 : decode cX6_cameDownIn 34 = .ok (.iload_n 3, 1) := by decide +kernel
theorem dX6_cameDownIn_35 : decode cX6_cameDownIn 35 = .ok (.ireturn, 1) := by decide +kernel
theorem dX6_homingPigeons_0 : decode cX6_homingPigeons 0 = .ok (.iconst 0, 1) := by decide +kernel
theorem dX6_homingPigeons_1 : decode cX6_homingPigeons 1 = .ok (.istore_n 2, 1) := by decide +kernel
theorem dX6_homingPigeons_2 : decode cX6_homingPigeons 2 = .ok (.iconst 0, 1) := by decide +kernel
theorem dX6_homingPigeons_3 : decode cX6_homingPigeons 3 = .ok (.istore_n 3, 1) := by decide +kernel
theorem dX6_homingPigeons_4 : decode cX6_homingPigeons 4 = .ok (.iload_n 3, 1) := by decide +kernel
theorem dX6_homingPigeons_5 : decode cX6_homingPigeons 5 = .ok (.aload_n 1, 1) := by decide +kernel
theorem dX6_homingPigeons_6 : decode cX6_homingPigeons 6 = .ok (.getfield 163, 3) := by decide +kernel
theorem dX6_homingPigeons_9 : decode cX6_homingPigeons 9 = .ok (.if_icmp .ge 18, 3) := by decide +kernel
theorem dX6_homingPigeons_12 : decode cX6_homingPigeons 12 = .ok (.iload_n 2, 1) := by decide +kernel
theorem dX6_homingPigeons_13 : decode cX6_homingPigeons 13 = .ok (.aload_n 0, 1) := by decide +kernel
theorem dX6_homingPigeons_14 : decode cX6_homingPigeons 14 = .ok (.getfield 38, 3) := by decide +kernel
theorem dX6_homingPigeons_17 : decode cX6_homingPigeons 17 = .ok (.iload_n 3, 1) := by decide +kernel
theorem dX6_homingPigeons_18 : decode cX6_homingPigeons 18 = .ok (.iaload, 1) := by decide +kernel
theorem dX6_homingPigeons_19 : decode cX6_homingPigeons 19 = .ok (.iadd, 1) := by decide +kernel
theorem dX6_homingPigeons_20 : decode cX6_homingPigeons 20 = .ok (.istore_n 2, 1) := by decide +kernel
theorem dX6_homingPigeons_21 : decode cX6_homingPigeons 21 = .ok (.iinc 3 1, 3) := by decide +kernel
theorem dX6_homingPigeons_24 : decode cX6_homingPigeons 24 = .ok (.goto (-20), 3) := by decide +kernel
theorem dX6_homingPigeons_27 : decode cX6_homingPigeons 27 = .ok (.iload_n 2, 1) := by decide +kernel
theorem dX6_homingPigeons_28 : decode cX6_homingPigeons 28 = .ok (.ireturn, 1) := by decide +kernel
theorem dX6_earliestReturn_0 : decode cX6_earliestReturn 0 = .ok (.bipush (-2), 2) := by decide +kernel
theorem dX6_earliestReturn_2 : decode cX6_earliestReturn 2 = .ok (.istore_n 2, 1) := by decide +kernel
theorem dX6_earliestReturn_3 : decode cX6_earliestReturn 3 = .ok (.iconst 0, 1) := by decide +kernel
theorem dX6_earliestReturn_4 : decode cX6_earliestReturn 4 = .ok (.istore_n 3, 1) := by decide +kernel
theorem dX6_earliestReturn_5 : decode cX6_earliestReturn 5 = .ok (.iload_n 3, 1) := by decide +kernel
theorem dX6_earliestReturn_6 : decode cX6_earliestReturn 6 = .ok (.aload_n 1, 1) := by decide +kernel
theorem dX6_earliestReturn_7 : decode cX6_earliestReturn 7 = .ok (.getfield 163, 3) := by decide +kernel
theorem dX6_earliestReturn_10 : decode cX6_earliestReturn 10 = .ok (.if_icmp .ge 53, 3) := by decide +kernel
theorem dX6_earliestReturn_13 : decode cX6_earliestReturn 13 = .ok (.iload_n 2, 1) := by decide +kernel
theorem dX6_earliestReturn_14 : decode cX6_earliestReturn 14 = .ok (.bipush (-2), 2) := by decide +kernel
theorem dX6_earliestReturn_16 : decode cX6_earliestReturn 16 = .ok (.if_icmp .eq 13, 3) := by decide +kernel
theorem dX6_earliestReturn_19 : decode cX6_earliestReturn 19 = .ok (.aload_n 0, 1) := by decide +kernel
theorem dX6_earliestReturn_20 : decode cX6_earliestReturn 20 = .ok (.getfield 41, 3) := by decide +kernel
theorem dX6_earliestReturn_23 : decode cX6_earliestReturn 23 = .ok (.iload_n 3, 1) := by decide +kernel
theorem dX6_earliestReturn_24 : decode cX6_earliestReturn 24 = .ok (.iaload, 1) := by decide +kernel
theorem dX6_earliestReturn_25 : decode cX6_earliestReturn 25 = .ok (.iload_n 2, 1) := by decide +kernel
theorem dX6_earliestReturn_26 : decode cX6_earliestReturn 26 = .ok (.if_icmp .ge 7, 3) := by decide +kernel
theorem dX6_earliestReturn_29 : decode cX6_earliestReturn 29 = .ok (.iconst 1, 1) := by decide +kernel
theorem dX6_earliestReturn_30 : decode cX6_earliestReturn 30 = .ok (.goto 4, 3) := by decide +kernel
theorem dX6_earliestReturn_33 : decode cX6_earliestReturn 33 = .ok (.iconst 0, 1) := by decide +kernel
theorem dX6_earliestReturn_34 : decode cX6_earliestReturn 34 = .ok (.istore 4, 2) := by decide +kernel
theorem dX6_earliestReturn_36 : decode cX6_earliestReturn 36 = .ok (.aload_n 0, 1) := by decide +kernel
theorem dX6_earliestReturn_37 : decode cX6_earliestReturn 37 = .ok (.getfield 38, 3) := by decide +kernel
theorem dX6_earliestReturn_40 : decode cX6_earliestReturn 40 = .ok (.iload_n 3, 1) := by decide +kernel
theorem dX6_earliestReturn_41 : decode cX6_earliestReturn 41 = .ok (.iaload, 1) := by decide +kernel
theorem dX6_earliestReturn_42 : decode cX6_earliestReturn 42 = .ok (.ifCond .le 15, 3) := by decide +kernel
theorem dX6_earliestReturn_45 : decode cX6_earliestReturn 45 = .ok (.iload 4, 2) := by decide +kernel
theorem dX6_earliestReturn_47 : decode cX6_earliestReturn 47 = .ok (.ifCond .eq 10, 3) := by decide +kernel
theorem dX6_earliestReturn_50 : decode cX6_earliestReturn 50 = .ok (.aload_n 0, 1) := by decide +kernel
theorem dX6_earliestReturn_51 : decode cX6_earliestReturn 51 = .ok (.getfield 41, 3) := by decide +kernel
theorem dX6_earliestReturn_54 : decode cX6_earliestReturn 54 = .ok (.iload_n 3, 1) := by decide +kernel
theorem dX6_earliestReturn_55 : decode cX6_earliestReturn 55 = .ok (.iaload, 1) := by decide +kernel
theorem dX6_earliestReturn_56 : decode cX6_earliestReturn 56 = .ok (.istore_n 2, 1) := by decide +kernel
theorem dX6_earliestReturn_57 : decode cX6_earliestReturn 57 = .ok (.iinc 3 1, 3) := by decide +kernel
theorem dX6_earliestReturn_60 : decode cX6_earliestReturn 60 = .ok (.goto (-55), 3) := by decide +kernel
theorem dX6_earliestReturn_63 : decode cX6_earliestReturn 63 = .ok (.iload_n 2, 1) := by decide +kernel
theorem dX6_earliestReturn_64 : decode cX6_earliestReturn 64 = .ok (.ireturn, 1) := by decide +kernel
theorem dX7_init_0 : decode cX7_init 0 = .ok (.aload_n 0, 1) := by decide +kernel
theorem dX7_init_1 : decode cX7_init 1 = .ok (.invokespecial 3, 3) := by decide +kernel
theorem dX7_init_4 : decode cX7_init 4 = .ok (.aload_n 0, 1) := by decide +kernel
theorem dX7_init_5 : decode cX7_init 5 = .ok (.bipush 30, 2) := by decide +kernel
theorem dX7_init_7 : decode cX7_init 7 = .ok (.newarray .int, 2) := by decide +kernel
theorem dX7_init_9 : decode cX7_init 9 = .ok (.putfield 9, 3) := by decide +kernel
theorem dX7_init_12 : decode cX7_init 12 = .ok (.aload_n 0, 1) := by decide +kernel
theorem dX7_init_13 : decode cX7_init 13 = .ok (.bipush 30, 2) := by decide +kernel
theorem dX7_init_15 : decode cX7_init 15 = .ok (.newarray .int, 2) := by decide +kernel
theorem dX7_init_17 : decode cX7_init 17 = .ok (.putfield 15, 3) := by decide +kernel
theorem dX7_init_20 : decode cX7_init 20 = .ok (.aload_n 0, 1) := by decide +kernel
theorem dX7_init_21 : decode cX7_init 21 = .ok (.bipush 36, 2) := by decide +kernel
theorem dX7_init_23 : decode cX7_init 23 = .ok (.newarray .int, 2) := by decide +kernel
theorem dX7_init_25 : decode cX7_init 25 = .ok (.putfield 18, 3) := by decide +kernel
theorem dX7_init_28 : decode cX7_init 28 = .ok (.aload_n 0, 1) := by decide +kernel
theorem dX7_init_29 : decode cX7_init 29 = .ok (.bipush 54, 2) := by decide +kernel
theorem dX7_init_31 : decode cX7_init 31 = .ok (.newarray .int, 2) := by decide +kernel
theorem dX7_init_33 : decode cX7_init 33 = .ok (.putfield 21, 3) := by decide +kernel
theorem dX7_init_36 : decode cX7_init 36 = .ok (.aload_n 0, 1) := by decide +kernel
theorem dX7_init_37 : decode cX7_init 37 = .ok (.bipush 6, 2) := by decide +kernel
theorem dX7_init_39 : decode cX7_init 39 = .ok (.newarray .int, 2) := by decide +kernel
theorem dX7_init_41 : decode cX7_init 41 = .ok (.putfield 24, 3) := by decide +kernel
theorem dX7_init_44 : decode cX7_init 44 = .ok (.aload_n 0, 1) := by decide +kernel
theorem dX7_init_45 : decode cX7_init 45 = .ok (.bipush 48, 2) := by decide +kernel
theorem dX7_init_47 : decode cX7_init 47 = .ok (.newarray .int, 2) := by decide +kernel
theorem dX7_init_49 : decode cX7_init 49 = .ok (.putfield 27, 3) := by decide +kernel
theorem dX7_init_52 : decode cX7_init 52 = .ok (.return_, 1) := by decide +kernel
theorem dX7_clear_0 : decode cX7_clear 0 = .ok (.aload_n 0, 1) := by decide +kernel
theorem dX7_clear_1 : decode cX7_clear 1 = .ok (.iconst 0, 1) := by decide +kernel
theorem dX7_clear_2 : decode cX7_clear 2 = .ok (.putfield 30, 3) := by decide +kernel
theorem dX7_clear_5 : decode cX7_clear 5 = .ok (.aload_n 0, 1) := by decide +kernel
theorem dX7_clear_6 : decode cX7_clear 6 = .ok (.iconst 0, 1) := by decide +kernel
theorem dX7_clear_7 : decode cX7_clear 7 = .ok (.putfield 34, 3) := by decide +kernel
theorem dX7_clear_10 : decode cX7_clear 10 = .ok (.return_, 1) := by decide +kernel
theorem dX7_has_0 : decode cX7_has 0 = .ok (.iload_n 1, 1) := by decide +kernel
theorem dX7_has_1 : decode cX7_has 1 = .ok (.ifCond .lt 15, 3) := by decide +kernel
theorem dX7_has_4 : decode cX7_has 4 = .ok (.iload_n 1, 1) := by decide +kernel
theorem dX7_has_5 : decode cX7_has 5 = .ok (.aload_n 0, 1) := by decide +kernel
theorem dX7_has_6 : decode cX7_has 6 = .ok (.getfield 30, 3) := by decide +kernel
theorem dX7_has_9 : decode cX7_has 9 = .ok (.if_icmp .ge 7, 3) := by decide +kernel
theorem dX7_has_12 : decode cX7_has 12 = .ok (.iconst 1, 1) := by decide +kernel
theorem dX7_has_13 : decode cX7_has 13 = .ok (.goto 4, 3) := by decide +kernel
theorem dX7_has_16 : decode cX7_has 16 = .ok (.iconst 0, 1) := by decide +kernel
theorem dX7_has_17 : decode cX7_has 17 = .ok (.ireturn, 1) := by decide +kernel
theorem dX7_add_0 : decode cX7_add 0 = .ok (.aload_n 0, 1) := by decide +kernel
theorem dX7_add_1 : decode cX7_add 1 = .ok (.getfield 30, 3) := by decide +kernel
theorem dX7_add_4 : decode cX7_add 4 = .ok (.bipush 6, 2) := by decide +kernel
theorem dX7_add_6 : decode cX7_add 6 = .ok (.if_icmp .ge 105, 3) := by decide +kernel
theorem dX7_add_9 : decode cX7_add 9 = .ok (.iconst 0, 1) := by decide +kernel
theorem dX7_add_10 : decode cX7_add 10 = .ok (.istore_n 1, 1) := by decide +kernel
theorem dX7_add_11 : decode cX7_add 11 = .ok (.iload_n 1, 1) := by decide +kernel
theorem dX7_add_12 : decode cX7_add 12 = .ok (.bipush 6, 2) := by decide +kernel
theorem dX7_add_14 : decode cX7_add 14 = .ok (.if_icmp .ge 37, 3) := by decide +kernel
theorem dX7_add_17 : decode cX7_add 17 = .ok (.aload_n 0, 1) := by decide +kernel
theorem dX7_add_18 : decode cX7_add 18 = .ok (.getfield 18, 3) := by decide +kernel
theorem dX7_add_21 : decode cX7_add 21 = .ok (.aload_n 0, 1) := by decide +kernel
theorem dX7_add_22 : decode cX7_add 22 = .ok (.getfield 30, 3) := by decide +kernel
theorem dX7_add_25 : decode cX7_add 25 = .ok (.bipush 6, 2) := by decide +kernel
theorem dX7_add_27 : decode cX7_add 27 = .ok (.imul, 1) := by decide +kernel
theorem dX7_add_28 : decode cX7_add 28 = .ok (.iload_n 1, 1) := by decide +kernel
theorem dX7_add_29 : decode cX7_add 29 = .ok (.iadd, 1) := by decide +kernel
theorem dX7_add_30 : decode cX7_add 30 = .ok (.iload_n 1, 1) := by decide +kernel
theorem dX7_add_31 : decode cX7_add 31 = .ok (.aload_n 0, 1) := by decide +kernel
theorem dX7_add_32 : decode cX7_add 32 = .ok (.getfield 30, 3) := by decide +kernel
theorem dX7_add_35 : decode cX7_add 35 = .ok (.if_icmp .ne 8, 3) := by decide +kernel
theorem dX7_add_38 : decode cX7_add 38 = .ok (.bipush 10, 2) := by decide +kernel
theorem dX7_add_40 : decode cX7_add 40 = .ok (.goto 4, 3) := by decide +kernel
theorem dX7_add_43 : decode cX7_add 43 = .ok (.iconst 0, 1) := by decide +kernel
theorem dX7_add_44 : decode cX7_add 44 = .ok (.iastore, 1) := by decide +kernel
theorem dX7_add_45 : decode cX7_add 45 = .ok (.iinc 1 1, 3) := by decide +kernel
theorem dX7_add_48 : decode cX7_add 48 = .ok (.goto (-37), 3) := by decide +kernel
theorem dX7_add_51 : decode cX7_add 51 = .ok (.iconst 0, 1) := by decide +kernel
theorem dX7_add_52 : decode cX7_add 52 = .ok (.istore_n 1, 1) := by decide +kernel
theorem dX7_add_53 : decode cX7_add 53 = .ok (.iload_n 1, 1) := by decide +kernel
theorem dX7_add_54 : decode cX7_add 54 = .ok (.bipush 9, 2) := by decide +kernel
theorem dX7_add_56 : decode cX7_add 56 = .ok (.if_icmp .ge 35, 3) := by decide +kernel
theorem dX7_add_59 : decode cX7_add 59 = .ok (.aload_n 0, 1) := by decide +kernel
theorem dX7_add_60 : decode cX7_add 60 = .ok (.getfield 21, 3) := by decide +kernel
theorem dX7_add_63 : decode cX7_add 63 = .ok (.aload_n 0, 1) := by decide +kernel
theorem dX7_add_64 : decode cX7_add 64 = .ok (.getfield 30, 3) := by decide +kernel
theorem dX7_add_67 : decode cX7_add 67 = .ok (.bipush 9, 2) := by decide +kernel
theorem dX7_add_69 : decode cX7_add 69 = .ok (.imul, 1) := by decide +kernel
theorem dX7_add_70 : decode cX7_add 70 = .ok (.iload_n 1, 1) := by decide +kernel
theorem dX7_add_71 : decode cX7_add 71 = .ok (.iadd, 1) := by decide +kernel
theorem dX7_add_72 : decode cX7_add 72 = .ok (.iload_n 1, 1) := by decide +kernel
theorem dX7_add_73 : decode cX7_add 73 = .ok (.bipush 8, 2) := by decide +kernel
theorem dX7_add_75 : decode cX7_add 75 = .ok (.if_icmp .ne 8, 3) := by decide +kernel
theorem dX7_add_78 : decode cX7_add 78 = .ok (.bipush 10, 2) := by decide +kernel
theorem dX7_add_80 : decode cX7_add 80 = .ok (.goto 4, 3) := by decide +kernel
theorem dX7_add_83 : decode cX7_add 83 = .ok (.iconst 0, 1) := by decide +kernel
theorem dX7_add_84 : decode cX7_add 84 = .ok (.iastore, 1) := by decide +kernel
theorem dX7_add_85 : decode cX7_add 85 = .ok (.iinc 1 1, 3) := by decide +kernel
theorem dX7_add_88 : decode cX7_add 88 = .ok (.goto (-35), 3) := by decide +kernel
theorem dX7_add_91 : decode cX7_add 91 = .ok (.aload_n 0, 1) := by decide +kernel
theorem dX7_add_92 : decode cX7_add 92 = .ok (.getfield 24, 3) := by decide +kernel
theorem dX7_add_95 : decode cX7_add 95 = .ok (.aload_n 0, 1) := by decide +kernel
theorem dX7_add_96 : decode cX7_add 96 = .ok (.getfield 30, 3) := by decide +kernel
theorem dX7_add_99 : decode cX7_add 99 = .ok (.iconst 0, 1) := by decide +kernel
theorem dX7_add_100 : decode cX7_add 100 = .ok (.iastore, 1) := by decide +kernel
theorem dX7_add_101 : decode cX7_add 101 = .ok (.aload_n 0, 1) := by decide +kernel
theorem dX7_add_102 : decode cX7_add 102 = .ok (.dup, 1) := by decide +kernel
theorem dX7_add_103 : decode cX7_add 103 = .ok (.getfield 30, 3) := by decide +kernel
theorem dX7_add_106 : decode cX7_add 106 = .ok (.iconst 1, 1) := by decide +kernel
theorem dX7_add_107 : decode cX7_add 107 = .ok (.iadd, 1) := by decide +kernel
theorem dX7_add_108 : decode cX7_add 108 = .ok (.putfield 30, 3) := by decide +kernel
theorem dX7_add_111 : decode cX7_add 111 = .ok (.return_, 1) := by decide +kernel
theorem dX7_followTenths_0 : decode cX7_followTenths 0 = .ok (.iload_n 1, 1) := by decide +kernel
theorem dX7_followTenths_1 : decode cX7_followTenths 1 = .ok (.ifCond .lt 23, 3) := by decide +kernel
theorem dX7_followTenths_4 : decode cX7_followTenths 4 = .ok (.iload_n 1, 1) := by decide +kernel
theorem dX7_followTenths_5 : decode cX7_followTenths 5 = .ok (.aload_n 0, 1) := by decide +kernel
theorem dX7_followTenths_6 : decode cX7_followTenths 6 = .ok (.getfield 30, 3) := by decide +kernel
theorem dX7_followTenths_9 : decode cX7_followTenths 9 = .ok (.if_icmp .ge 15, 3) := by decide +kernel
theorem dX7_followTenths_12 : decode cX7_followTenths 12 = .ok (.iload_n 2, 1) := by decide +kernel
theorem dX7_followTenths_13 : decode cX7_followTenths 13 = .ok (.ifCond .lt 11, 3) := by decide +kernel
theorem dX7_followTenths_16 : decode cX7_followTenths 16 = .ok (.iload_n 2, 1) := by decide +kernel
theorem dX7_followTenths_17 : decode cX7_followTenths 17 = .ok (.aload_n 0, 1) := by decide +kernel
theorem dX7_followTenths_18 : decode cX7_followTenths 18 = .ok (.getfield 30, 3) := by decide +kernel
theorem dX7_followTenths_21 : decode cX7_followTenths 21 = .ok (.if_icmp .lt 5, 3) := by decide +kernel
theorem dX7_followTenths_24 : decode cX7_followTenths 24 = .ok (.iconst 0, 1) := by decide +kernel
theorem dX7_followTenths_25 : decode cX7_followTenths 25 = .ok (.ireturn, 1) := by decide +kernel
theorem dX7_followTenths_26 : decode cX7_followTenths 26 = .ok (.aload_n 0, 1) := by decide +kernel
theorem dX7_followTenths_27 : decode cX7_followTenths 27 = .ok (.getfield 18, 3) := by decide +kernel
theorem dX7_followTenths_30 : decode cX7_followTenths 30 = .ok (.iload_n 1, 1) := by decide +kernel
theorem dX7_followTenths_31 : decode cX7_followTenths 31 = .ok (.bipush 6, 2) := by decide +kernel
theorem dX7_followTenths_33 : decode cX7_followTenths 33 = .ok (.imul, 1) := by decide +kernel
theorem dX7_followTenths_34 : decode cX7_followTenths 34 = .ok (.iload_n 2, 1) := by decide +kernel
theorem dX7_followTenths_35 : decode cX7_followTenths 35 = .ok (.iadd, 1) := by decide +kernel
theorem dX7_followTenths_36 : decode cX7_followTenths 36 = .ok (.iaload, 1) := by decide +kernel
theorem dX7_followTenths_37 : decode cX7_followTenths 37 = .ok (.ireturn, 1) := by decide +kernel
theorem dX7_landTenths_0 : decode cX7_landTenths 0 = .ok (.iload_n 1, 1) := by decide +kernel
theorem dX7_landTenths_1 : decode cX7_landTenths 1 = .ok (.ifCond .lt 21, 3) := by decide +kernel
theorem dX7_landTenths_4 : decode cX7_landTenths 4 = .ok (.iload_n 1, 1) := by decide +kernel
theorem dX7_landTenths_5 : decode cX7_landTenths 5 = .ok (.aload_n 0, 1) := by decide +kernel
theorem dX7_landTenths_6 : decode cX7_landTenths 6 = .ok (.getfield 30, 3) := by decide +kernel
theorem dX7_landTenths_9 : decode cX7_landTenths 9 = .ok (.if_icmp .ge 13, 3) := by decide +kernel
theorem dX7_landTenths_12 : decode cX7_landTenths 12 = .ok (.iload_n 2, 1) := by decide +kernel
theorem dX7_landTenths_13 : decode cX7_landTenths 13 = .ok (.ifCond .lt 9, 3) := by decide +kernel
theorem dX7_landTenths_16 : decode cX7_landTenths 16 = .ok (.iload_n 2, 1) := by decide +kernel
theorem dX7_landTenths_17 : decode cX7_landTenths 17 = .ok (.bipush 9, 2) := by decide +kernel
theorem dX7_landTenths_19 : decode cX7_landTenths 19 = .ok (.if_icmp .lt 5, 3) := by decide +kernel
theorem dX7_landTenths_22 : decode cX7_landTenths 22 = .ok (.iconst 0, 1) := by decide +kernel
theorem dX7_landTenths_23 : decode cX7_landTenths 23 = .ok (.ireturn, 1) := by decide +kernel
theorem dX7_landTenths_24 : decode cX7_landTenths 24 = .ok (.aload_n 0, 1) := by decide +kernel
theorem dX7_landTenths_25 : decode cX7_landTenths 25 = .ok (.getfield 21, 3) := by decide +kernel
theorem dX7_landTenths_28 : decode cX7_landTenths 28 = .ok (.iload_n 1, 1) := by decide +kernel
theorem dX7_landTenths_29 : decode cX7_landTenths 29 = .ok (.bipush 9, 2) := by decide +kernel
theorem dX7_landTenths_31 : decode cX7_landTenths 31 = .ok (.imul, 1) := by decide +kernel
theorem dX7_landTenths_32 : decode cX7_landTenths 32 = .ok (.iload_n 2, 1) := by decide +kernel
theorem dX7_landTenths_33 : decode cX7_landTenths 33 = .ok (.iadd, 1) := by decide +kernel
theorem dX7_landTenths_34 : decode cX7_landTenths 34 = .ok (.iaload, 1) := by decide +kernel
theorem dX7_landTenths_35 : decode cX7_landTenths 35 = .ok (.ireturn, 1) := by decide +kernel
set_option maxRecDepth 20000 in
theorem ggX7_addTurn_X7_has : GoodIn wsX7_addTurn wsX7_has := goodIn_r _ [9, 10, 11, 12, 13, 14, 15, 16, 17, 18] (by decide +kernel) (by decide +kernel)
set_option maxRecDepth 20000 in
theorem gX7_addTurn_X7_has : GoodIn wsX7_addTurn (wsV RX7 37 RX7 yX7_has wsX7_has) := goodIn_app (goodIn_of _ (by decide +kernel)) ggX7_addTurn_X7_has
theorem dX7_addTurn_0 : decode cX7_addTurn 0 = .ok (.aload_n 0, 1) := by decide +kernel
theorem dX7_addTurn_1 : decode cX7_addTurn 1 = .ok (.iload_n 1, 1) := by decide +kernel
theorem dX7_addTurn_2 : decode cX7_addTurn 2 = .ok (.invokevirtual 37, 3) := by decide +kernel
theorem dX7_addTurn_5 : decode cX7_addTurn 5 = .ok (.ifCond .eq 80, 3) := by decide +kernel
theorem dX7_addTurn_8 : decode cX7_addTurn 8 = .ok (.aload_n 0, 1) := by decide +kernel
theorem dX7_addTurn_9 : decode cX7_addTurn 9 = .ok (.iload_n 2, 1) := by decide +kernel
theorem dX7_addTurn_10 : decode cX7_addTurn 10 = .ok (.invokevirtual 37, 3) := by decide +kernel
theorem dX7_addTurn_13 : decode cX7_addTurn 13 = .ok (.ifCond .eq 72, 3) := by decide +kernel
theorem dX7_addTurn_16 : decode cX7_addTurn 16 = .ok (.aload_n 0, 1) := by decide +kernel
theorem dX7_addTurn_17 : decode cX7_addTurn 17 = .ok (.getfield 34, 3) := by decide +kernel
theorem dX7_addTurn_20 : decode cX7_addTurn 20 = .ok (.bipush 30, 2) := by decide +kernel
theorem dX7_addTurn_22 : decode cX7_addTurn 22 = .ok (.if_icmp .ge 63, 3) := by decide +kernel
theorem dX7_addTurn_25 : decode cX7_addTurn 25 = .ok (.aload_n 0, 1) := by decide +kernel
theorem dX7_addTurn_26 : decode cX7_addTurn 26 = .ok (.getfield 9, 3) := by decide +kernel
theorem dX7_addTurn_29 : decode cX7_addTurn 29 = .ok (.aload_n 0, 1) := by decide +kernel
theorem dX7_addTurn_30 : decode cX7_addTurn 30 = .ok (.getfield 34, 3) := by decide +kernel
theorem dX7_addTurn_33 : decode cX7_addTurn 33 = .ok (.iload_n 1, 1) := by decide +kernel
theorem dX7_addTurn_34 : decode cX7_addTurn 34 = .ok (.iastore, 1) := by decide +kernel
theorem dX7_addTurn_35 : decode cX7_addTurn 35 = .ok (.aload_n 0, 1) := by decide +kernel
theorem dX7_addTurn_36 : decode cX7_addTurn 36 = .ok (.getfield 15, 3) := by decide +kernel
theorem dX7_addTurn_39 : decode cX7_addTurn 39 = .ok (.aload_n 0, 1) := by decide +kernel
theorem dX7_addTurn_40 : decode cX7_addTurn 40 = .ok (.getfield 34, 3) := by decide +kernel
theorem dX7_addTurn_43 : decode cX7_addTurn 43 = .ok (.iload_n 2, 1) := by decide +kernel
theorem dX7_addTurn_44 : decode cX7_addTurn 44 = .ok (.iastore, 1) := by decide +kernel
theorem dX7_addTurn_45 : decode cX7_addTurn 45 = .ok (.aload_n 0, 1) := by decide +kernel
theorem dX7_addTurn_46 : decode cX7_addTurn 46 = .ok (.dup, 1) := by decide +kernel
theorem dX7_addTurn_47 : decode cX7_addTurn 47 = .ok (.getfield 34, 3) := by decide +kernel
theorem dX7_addTurn_50 : decode cX7_addTurn 50 = .ok (.iconst 1, 1) := by decide +kernel
