theorem dX8_restoreSnapshot_0 : decode cX8_restoreSnapshot 0 = .ok (.iload_n 1, 1) := by decide +kernel
theorem dX8_restoreSnapshot_1 : decode cX8_restoreSnapshot 1 = .ok (.invokestatic 298, 3) := by decide +kernel
theorem dX8_restoreSnapshot_4 : decode cX8_restoreSnapshot 4 = .ok (.ifCond .eq 12, 3) := by decide +kernel
theorem dX8_restoreSnapshot_7 : decode cX8_restoreSnapshot 7 = .ok (.aload_n 0, 1) := by decide +kernel
theorem dX8_restoreSnapshot_8 : decode cX8_restoreSnapshot 8 = .ok (.getfield 55, 3) := by decide +kernel
theorem dX8_restoreSnapshot_11 : decode cX8_restoreSnapshot 11 = .ok (.iload_n 1, 1) := by decide +kernel
theorem dX8_restoreSnapshot_12 : decode cX8_restoreSnapshot 12 = .ok (.baload, 1) := by decide +kernel
theorem dX8_restoreSnapshot_13 : decode cX8_restoreSnapshot 13 = .ok (.ifCond .ne 5, 3) := by decide +kernel
theorem dX8_restoreSnapshot_16 : decode cX8_restoreSnapshot 16 = .ok (.iconst 0, 1) := by decide +kernel
theorem dX8_restoreSnapshot_17 : decode cX8_restoreSnapshot 17 = .ok (.ireturn, 1) := by decide +kernel
theorem dX8_restoreSnapshot_18 : decode cX8_restoreSnapshot 18 = .ok (.aload_n 0, 1) := by decide +kernel
theorem dX8_restoreSnapshot_19 : decode cX8_restoreSnapshot 19 = .ok (.getfield 44, 3) := by decide +kernel
theorem dX8_restoreSnapshot_22 : decode cX8_restoreSnapshot 22 = .ok (.aload_n 0, 1) := by decide +kernel
theorem dX8_restoreSnapshot_23 : decode cX8_restoreSnapshot 23 = .ok (.getfield 52, 3) := by decide +kernel
theorem dX8_restoreSnapshot_26 : decode cX8_restoreSnapshot 26 = .ok (.iload_n 1, 1) := by decide +kernel
theorem dX8_restoreSnapshot_27 : decode cX8_restoreSnapshot 27 = .ok (.aaload, 1) := by decide +kernel
theorem dX8_restoreSnapshot_28 : decode cX8_restoreSnapshot 28 = .ok (.invokevirtual 294, 3) := by decide +kernel
theorem dX8_restoreSnapshot_31 : decode cX8_restoreSnapshot 31 = .ok (.aload_n 0, 1) := by decide +kernel
theorem dX8_restoreSnapshot_32 : decode cX8_restoreSnapshot 32 = .ok (.iconst 0, 1) := by decide +kernel
theorem dX8_restoreSnapshot_33 : decode cX8_restoreSnapshot 33 = .ok (.putfield 97, 3) := by decide +kernel
theorem dX8_restoreSnapshot_36 : decode cX8_restoreSnapshot 36 = .ok (.iconst 1, 1) := by decide +kernel
theorem dX8_restoreSnapshot_37 : decode cX8_restoreSnapshot 37 = .ok (.ireturn, 1) := by decide +kernel
theorem dX8_isSlot_0 : decode cX8_isSlot 0 = .ok (.iload_n 0, 1) := by decide +kernel
theorem dX8_isSlot_1 : decode cX8_isSlot 1 = .ok (.ifCond .lt 12, 3) := by decide +kernel
theorem dX8_isSlot_4 : decode cX8_isSlot 4 = .ok (.iload_n 0, 1) := by decide +kernel
theorem dX8_isSlot_5 : decode cX8_isSlot 5 = .ok (.iconst 2, 1) := by decide +kernel
theorem dX8_isSlot_6 : decode cX8_isSlot 6 = .ok (.if_icmp .ge 7, 3) := by decide +kernel
theorem dX8_isSlot_9 : decode cX8_isSlot 9 = .ok (.iconst 1, 1) := by decide +kernel
theorem dX8_isSlot_10 : decode cX8_isSlot 10 = .ok (.goto 4, 3) := by decide +kernel
theorem dX8_isSlot_13 : decode cX8_isSlot 13 = .ok (.iconst 0, 1) := by decide +kernel
theorem dX8_isSlot_14 : decode cX8_isSlot 14 = .ok (.ireturn, 1) := by decide +kernel
set_option maxRecDepth 20000 in
theorem ggX8_rememberState_X6_copyFrom : GoodIn wsX8_rememberState wsX6_copyFrom := goodIn_r _ [9, 10, 11, 12, 13, 14, 15, 16, 17, 18, 19, 20, 21, 22, 23, 24, 25, 26, 27, 28, 29, 30, 31, 32, 33, 34, 35, 36, 37, 38, 54, 55, 56, 57, 58, 59, 60, 61, 62, 63, 64, 65, 66, 67, 68, 69, 70, 71, 72] (by decide +kernel) (by decide +kernel)
set_option maxRecDepth 20000 in
theorem gX8_rememberState_X6_copyFrom : GoodIn wsX8_rememberState (wsV RX8 294 RX6 yX6_copyFrom wsX6_copyFrom) := goodIn_app (goodIn_of _ (by decide +kernel)) ggX8_rememberState_X6_copyFrom
theorem dX8_rememberState_0 : decode cX8_rememberState 0 = .ok (.aload_n 0, 1) := by decide +kernel
theorem dX8_rememberState_1 : decode cX8_rememberState 1 = .ok (.aload_n 0, 1) := by decide +kernel
theorem dX8_rememberState_2 : decode cX8_rememberState 2 = .ok (.getfield 291, 3) := by decide +kernel
theorem dX8_rememberState_5 : decode cX8_rememberState 5 = .ok (.ifCond .lt 21, 3) := by decide +kernel
theorem dX8_rememberState_8 : decode cX8_rememberState 8 = .ok (.aload_n 0, 1) := by decide +kernel
theorem dX8_rememberState_9 : decode cX8_rememberState 9 = .ok (.getfield 291, 3) := by decide +kernel
theorem dX8_rememberState_12 : decode cX8_rememberState 12 = .ok (.bipush 11, 2) := by decide +kernel
theorem dX8_rememberState_14 : decode cX8_rememberState 14 = .ok (.if_icmp .ge 12, 3) := by decide +kernel
theorem dX8_rememberState_17 : decode cX8_rememberState 17 = .ok (.aload_n 0, 1) := by decide +kernel
theorem dX8_rememberState_18 : decode cX8_rememberState 18 = .ok (.getfield 291, 3) := by decide +kernel
theorem dX8_rememberState_21 : decode cX8_rememberState 21 = .ok (.iconst 1, 1) := by decide +kernel
theorem dX8_rememberState_22 : decode cX8_rememberState 22 = .ok (.iadd, 1) := by decide +kernel
theorem dX8_rememberState_23 : decode cX8_rememberState 23 = .ok (.goto 4, 3) := by decide +kernel
theorem dX8_rememberState_26 : decode cX8_rememberState 26 = .ok (.iconst 0, 1) := by decide +kernel
theorem dX8_rememberState_27 : decode cX8_rememberState 27 = .ok (.putfield 291, 3) := by decide +kernel
theorem dX8_rememberState_30 : decode cX8_rememberState 30 = .ok (.aload_n 0, 1) := by decide +kernel
theorem dX8_rememberState_31 : decode cX8_rememberState 31 = .ok (.getfield 48, 3) := by decide +kernel
theorem dX8_rememberState_34 : decode cX8_rememberState 34 = .ok (.aload_n 0, 1) := by decide +kernel
theorem dX8_rememberState_35 : decode cX8_rememberState 35 = .ok (.getfield 291, 3) := by decide +kernel
theorem dX8_rememberState_38 : decode cX8_rememberState 38 = .ok (.aaload, 1) := by decide +kernel
theorem dX8_rememberState_39 : decode cX8_rememberState 39 = .ok (.aload_n 0, 1) := by decide +kernel
theorem dX8_rememberState_40 : decode cX8_rememberState 40 = .ok (.getfield 44, 3) := by decide +kernel
theorem dX8_rememberState_43 : decode cX8_rememberState 43 = .ok (.invokevirtual 294, 3) := by decide +kernel
theorem dX8_rememberState_46 : decode cX8_rememberState 46 = .ok (.aload_n 0, 1) := by decide +kernel
theorem dX8_rememberState_47 : decode cX8_rememberState 47 = .ok (.getfield 97, 3) := by decide +kernel
theorem dX8_rememberState_50 : decode cX8_rememberState 50 = .ok (.bipush 12, 2) := by decide +kernel
theorem dX8_rememberState_52 : decode cX8_rememberState 52 = .ok (.if_icmp .ge 13, 3) := by decide +kernel
theorem dX8_rememberState_55 : decode cX8_rememberState 55 = .ok (.aload_n 0, 1) := by decide +kernel
theorem dX8_rememberState_56 : decode cX8_rememberState 56 = .ok (.dup, 1) := by decide +kernel
theorem dX8_rememberState_57 : decode cX8_rememberState 57 = .ok (.getfield 97, 3) := by decide +kernel
theorem dX8_rememberState_60 : decode cX8_rememberState 60 = .ok (.iconst 1, 1) := by decide +kernel
theorem dX8_rememberState_61 : decode cX8_rememberState 61 = .ok (.iadd, 1) := by decide +kernel
theorem dX8_rememberState_62 : decode cX8_rememberState 62 = .ok (.putfield 97, 3) := by decide +kernel
theorem dX8_rememberState_65 : decode cX8_rememberState 65 = .ok (.return_, 1) := by decide +kernel
theorem dX9_thrown_0 : decode cX9_thrown 0 = .ok (.aload_n 0, 1) := by decide +kernel
theorem dX9_thrown_1 : decode cX9_thrown 1 = .ok (.getfield 1, 3) := by decide +kernel
theorem dX9_thrown_4 : decode cX9_thrown 4 = .ok (.ireturn, 1) := by decide +kernel
theorem dX9_within_0 : decode cX9_within 0 = .ok (.iload_n 0, 1) := by decide +kernel
theorem dX9_within_1 : decode cX9_within 1 = .ok (.iload_n 1, 1) := by decide +kernel
theorem dX9_within_2 : decode cX9_within 2 = .ok (.if_icmp .lt 12, 3) := by decide +kernel
theorem dX9_within_5 : decode cX9_within 5 = .ok (.iload_n 0, 1) := by decide +kernel
theorem dX9_within_6 : decode cX9_within 6 = .ok (.iload_n 2, 1) := by decide +kernel
theorem dX9_within_7 : decode cX9_within 7 = .ok (.if_icmp .gt 7, 3) := by decide +kernel
theorem dX9_within_10 : decode cX9_within 10 = .ok (.iconst 1, 1) := by decide +kernel
theorem dX9_within_11 : decode cX9_within 11 = .ok (.goto 4, 3) := by decide +kernel
theorem dX9_within_14 : decode cX9_within 14 = .ok (.iconst 0, 1) := by decide +kernel
theorem dX9_within_15 : decode cX9_within 15 = .ok (.ireturn, 1) := by decide +kernel
theorem dX9_has_0 : decode cX9_has 0 = .ok (.iload_n 0, 1) := by decide +kernel
theorem dX9_has_1 : decode cX9_has 1 = .ok (.iload_n 1, 1) := by decide +kernel
theorem dX9_has_2 : decode cX9_has 2 = .ok (.ishr, 1) := by decide +kernel
theorem dX9_has_3 : decode cX9_has 3 = .ok (.iconst 1, 1) := by decide +kernel
theorem dX9_has_4 : decode cX9_has 4 = .ok (.iand, 1) := by decide +kernel
theorem dX9_has_5 : decode cX9_has 5 = .ok (.iconst 1, 1) := by decide +kernel
theorem dX9_has_6 : decode cX9_has 6 = .ok (.if_icmp .ne 7, 3) := by decide +kernel
theorem dX9_has_9 : decode cX9_has 9 = .ok (.iconst 1, 1) := by decide +kernel
theorem dX9_has_10 : decode cX9_has 10 = .ok (.goto 4, 3) := by decide +kernel
theorem dX9_has_13 : decode cX9_has 13 = .ok (.iconst 0, 1) := by decide +kernel
theorem dX9_has_14 : decode cX9_has 14 = .ok (.ireturn, 1) := by decide +kernel
set_option maxRecDepth 20000 in
theorem ggX9_init_X9_begins : GoodIn wsX9_init wsX9_begins := goodIn_r _ [43, 5, 10, 44, 38, 37, 45, 36, 46, 47, 48, 49, 50, 51, 52, 53, 54, 55, 56, 57, 58, 59, 60, 61, 62, 63, 64, 65, 66, 67, 68, 69, 70, 71, 72, 73, 74, 75, 76, 77, 78, 79, 80, 81, 82, 83, 84, 85, 86, 87, 88, 89, 90] (by decide +kernel) (by decide +kernel)
set_option maxRecDepth 20000 in
theorem gX9_init_X9_begins : GoodIn wsX9_init (wsV RX9 110 RX9 yX9_begins wsX9_begins) := goodIn_app (goodIn_of _ (by decide +kernel)) ggX9_init_X9_begins
theorem dX9_init_0 : decode cX9_init 0 = .ok (.aload_n 0, 1) := by decide +kernel
theorem dX9_init_1 : decode cX9_init 1 = .ok (.invokespecial 7, 3) := by decide +kernel
theorem dX9_init_4 : decode cX9_init 4 = .ok (.aload_n 0, 1) := by decide +kernel
theorem dX9_init_5 : decode cX9_init 5 = .ok (.sipush 213, 3) := by decide +kernel
theorem dX9_init_8 : decode cX9_init 8 = .ok (.newarray .int, 2) := by decide +kernel
theorem dX9_init_10 : decode cX9_init 10 = .ok (.putfield 13, 3) := by decide +kernel
theorem dX9_init_13 : decode cX9_init 13 = .ok (.aload_n 0, 1) := by decide +kernel
theorem dX9_init_14 : decode cX9_init 14 = .ok (.iconst 2, 1) := by decide +kernel
theorem dX9_init_15 : decode cX9_init 15 = .ok (.newarray .int, 2) := by decide +kernel
theorem dX9_init_17 : decode cX9_init 17 = .ok (.putfield 17, 3) := by decide +kernel
theorem dX9_init_20 : decode cX9_init 20 = .ok (.aload_n 0, 1) := by decide +kernel
theorem dX9_init_21 : decode cX9_init 21 = .ok (.bipush 16, 2) := by decide +kernel
theorem dX9_init_23 : decode cX9_init 23 = .ok (.newarray .int, 2) := by decide +kernel
theorem dX9_init_25 : decode cX9_init 25 = .ok (.putfield 20, 3) := by decide +kernel
theorem dX9_init_28 : decode cX9_init 28 = .ok (.aload_n 0, 1) := by decide +kernel
theorem dX9_init_29 : decode cX9_init 29 = .ok (.bipush 16, 2) := by decide +kernel
theorem dX9_init_31 : decode cX9_init 31 = .ok (.newarray .int, 2) := by decide +kernel
theorem dX9_init_33 : decode cX9_init 33 = .ok (.putfield 23, 3) := by decide +kernel
theorem dX9_init_36 : decode cX9_init 36 = .ok (.aload_n 0, 1) := by decide +kernel
theorem dX9_init_37 : decode cX9_init 37 = .ok (.bipush 16, 2) := by decide +kernel
theorem dX9_init_39 : decode cX9_init 39 = .ok (.newarray .int, 2) := by decide +kernel
theorem dX9_init_41 : decode cX9_init 41 = .ok (.putfield 26, 3) := by decide +kernel
theorem dX9_init_44 : decode cX9_init 44 = .ok (.aload_n 0, 1) := by decide +kernel
theorem dX9_init_45 : decode cX9_init 45 = .ok (.iconst 2, 1) := by decide +kernel
theorem dX9_init_46 : decode cX9_init 46 = .ok (.newarray .int, 2) := by decide +kernel
theorem dX9_init_48 : decode cX9_init 48 = .ok (.putfield 29, 3) := by decide +kernel
theorem dX9_init_51 : decode cX9_init 51 = .ok (.aload_n 0, 1) := by decide +kernel
theorem dX9_init_52 : decode cX9_init 52 = .ok (.bipush 12, 2) := by decide +kernel
theorem dX9_init_54 : decode cX9_init 54 = .ok (.newarray .int, 2) := by decide +kernel
theorem dX9_init_56 : decode cX9_init 56 = .ok (.putfield 32, 3) := by decide +kernel
theorem dX9_init_59 : decode cX9_init 59 = .ok (.aload_n 0, 1) := by decide +kernel
theorem dX9_init_60 : decode cX9_init 60 = .ok (.bipush 96, 2) := by decide +kernel
theorem dX9_init_62 : decode cX9_init 62 = .ok (.newarray .int, 2) := by decide +kernel
theorem dX9_init_64 : decode cX9_init 64 = .ok (.putfield 35, 3) := by decide +kernel
theorem dX9_init_67 : decode cX9_init 67 = .ok (.aload_n 0, 1) := by decide +kernel
theorem dX9_init_68 : decode cX9_init 68 = .ok (.bipush 96, 2) := by decide +kernel
theorem dX9_init_70 : decode cX9_init 70 = .ok (.newarray .int, 2) := by decide +kernel
theorem dX9_init_72 : decode cX9_init 72 = .ok (.putfield 38, 3) := by decide +kernel
theorem dX9_init_75 : decode cX9_init 75 = .ok (.aload_n 0, 1) := by decide +kernel
theorem dX9_init_76 : decode cX9_init 76 = .ok (.iconst 2, 1) := by decide +kernel
theorem dX9_init_77 : decode cX9_init 77 = .ok (.newarray .int, 2) := by decide +kernel
theorem dX9_init_79 : decode cX9_init 79 = .ok (.putfield 41, 3) := by decide +kernel
theorem dX9_init_82 : decode cX9_init 82 = .ok (.aload_n 0, 1) := by decide +kernel
theorem dX9_init_83 : decode cX9_init 83 = .ok (.bipush 60, 2) := by decide +kernel
theorem dX9_init_85 : decode cX9_init 85 = .ok (.newarray .int, 2) := by decide +kernel
theorem dX9_init_87 : decode cX9_init 87 = .ok (.putfield 44, 3) := by decide +kernel
theorem dX9_init_90 : decode cX9_init 90 = .ok (.aload_n 0, 1) := by decide +kernel
theorem dX9_init_91 : decode cX9_init 91 = .ok (.bipush 60, 2) := by decide +kernel
theorem dX9_init_93 : decode cX9_init 93 = .ok (.newarray .int, 2) := by decide +kernel
theorem dX9_init_95 : decode cX9_init 95 = .ok (.putfield 47, 3) := by decide +kernel
theorem dX9_init_98 : decode cX9_init 98 = .ok (.aload_n 0, 1) := by decide +kernel
theorem dX9_init_99 : decode cX9_init 99 = .ok (.bipush 60, 2) := by decide +kernel
theorem dX9_init_101 : decode cX9_init 101 = .ok (.newarray .int, 2) := by decide +kernel
theorem dX9_init_103 : decode cX9_init 103 = .ok (.putfield 50, 3) := by decide +kernel
theorem dX9_init_106 : decode cX9_init 106 = .ok (.aload_n 0, 1) := by decide +kernel
theorem dX9_init_107 : decode cX9_init 107 = .ok (.iconst 2, 1) := by decide +kernel
theorem dX9_init_108 : decode cX9_init 108 = .ok (.newarray .int, 2) := by decide +kernel
theorem dX9_init_110 : decode cX9_init 110 = .ok (.putfield 53, 3) := by decide +kernel
theorem dX9_init_113 : decode cX9_init 113 = .ok (.aload_n 0, 1) := by decide +kernel
theorem dX9_init_114 : decode cX9_init 114 = .ok (.bipush 20, 2) := by decide +kernel
theorem dX9_init_116 : decode cX9_init 116 = .ok (.newarray .int, 2) := by decide +kernel
theorem dX9_init_118 : decode cX9_init 118 = .ok (.putfield 56, 3) := by decide +kernel
theorem dX9_init_121 : decode cX9_init 121 = .ok (.aload_n 0, 1) := by decide +kernel
theorem dX9_init_122 : decode cX9_init 122 = .ok (.bipush 20, 2) := by decide +kernel
theorem dX9_init_124 : decode cX9_init 124 = .ok (.newarray .int, 2) := by decide +kernel
theorem dX9_init_126 : decode cX9_init 126 = .ok (.putfield 59, 3) := by decide +kernel
theorem dX9_init_129 : decode cX9_init 129 = .ok (.aload_n 0, 1) := by decide +kernel
theorem dX9_init_130 : decode cX9_init 130 = .ok (.iconst 2, 1) := by decide +kernel
theorem dX9_init_131 : decode cX9_init 131 = .ok (.newarray .int, 2) := by decide +kernel
theorem dX9_init_133 : decode cX9_init 133 = .ok (.putfield 62, 3) := by decide +kernel
theorem dX9_init_136 : decode cX9_init 136 = .ok (.aload_n 0, 1) := by decide +kernel
theorem dX9_init_137 : decode cX9_init 137 = .ok (.bipush 48, 2) := by decide +kernel
theorem dX9_init_139 : decode cX9_init 139 = .ok (.newarray .int, 2) := by decide +kernel
theorem dX9_init_141 : decode cX9_init 141 = .ok (.putfield 65, 3) := by decide +kernel
theorem dX9_init_144 : decode cX9_init 144 = .ok (.aload_n 0, 1) := by decide +kernel
theorem dX9_init_145 : decode cX9_init 145 = .ok (.bipush 48, 2) := by decide +kernel
theorem dX9_init_147 : decode cX9_init 147 = .ok (.newarray .int, 2) := by decide +kernel
theorem dX9_init_149 : decode cX9_init 149 = .ok (.putfield 68, 3) := by decide +kernel
theorem dX9_init_152 : decode cX9_init 152 = .ok (.aload_n 0, 1) := by decide +kernel
theorem dX9_init_153 : decode cX9_init 153 = .ok (.sipush 900, 3) := by decide +kernel
theorem dX9_init_156 : decode cX9_init 156 = .ok (.newarray .byte, 2) := by decide +kernel
theorem dX9_init_158 : decode cX9_init 158 = .ok (.putfield 71, 3) := by decide +kernel
theorem dX9_init_161 : decode cX9_init 161 = .ok (.aload_n 0, 1) := by decide +kernel
theorem dX9_init_162 : decode cX9_init 162 = .ok (.bipush (-2), 2) := by decide +kernel
theorem dX9_init_164 : decode cX9_init 164 = .ok (.putfield 75, 3) := by decide +kernel
theorem dX9_init_167 : decode cX9_init 167 = .ok (.aload_n 0, 1) := by decide +kernel
theorem dX9_init_168 : decode cX9_init 168 = .ok (.bipush 6, 2) := by decide +kernel
theorem dX9_init_170 : decode cX9_init 170 = .ok (.newarray .long, 2) := by decide +kernel
theorem dX9_init_172 : decode cX9_init 172 = .ok (.putfield 78, 3) := by decide +kernel
theorem dX9_init_175 : decode cX9_init 175 = .ok (.aload_n 0, 1) := by decide +kernel
theorem dX9_init_176 : decode cX9_init 176 = .ok (.bipush 6, 2) := by decide +kernel
theorem dX9_init_178 : decode cX9_init 178 = .ok (.newarray .long, 2) := by decide +kernel
theorem dX9_init_180 : decode cX9_init 180 = .ok (.putfield 82, 3) := by decide +kernel
theorem dX9_init_183 : decode cX9_init 183 = .ok (.aload_n 0, 1) := by decide +kernel
theorem dX9_init_184 : decode cX9_init 184 = .ok (.sipush 5632, 3) := by decide +kernel
theorem dX9_init_187 : decode cX9_init 187 = .ok (.newarray .long, 2) := by decide +kernel
theorem dX9_init_189 : decode cX9_init 189 = .ok (.putfield 85, 3) := by decide +kernel
theorem dX9_init_192 : decode cX9_init 192 = .ok (.aload_n 0, 1) := by decide +kernel
theorem dX9_init_193 : decode cX9_init 193 = .ok (.bipush 90, 2) := by decide +kernel
theorem dX9_init_195 : decode cX9_init 195 = .ok (.newarray .long, 2) := by decide +kernel
theorem dX9_init_197 : decode cX9_init 197 = .ok (.putfield 88, 3) := by decide +kernel
theorem dX9_init_200 : decode cX9_init 200 = .ok (.aload_n 0, 1) := by decide +kernel
theorem dX9_init_201 : decode cX9_init 201 = .ok (.sipush 25000, 3) := by decide +kernel
theorem dX9_init_204 : decode cX9_init 204 = .ok (.newarray .int, 2) := by decide +kernel
theorem dX9_init_206 : decode cX9_init 206 = .ok (.putfield 91, 3) := by decide +kernel
theorem dX9_init_209 : decode cX9_init 209 = .ok (.aload_n 0, 1) := by decide +kernel
theorem dX9_init_210 : decode cX9_init 210 = .ok (.sipush 2556, 3) := by decide +kernel
theorem dX9_init_213 : decode cX9_init 213 = .ok (.newarray .int, 2) := by decide +kernel
theorem dX9_init_215 : decode cX9_init 215 = .ok (.putfield 94, 3) := by decide +kernel
theorem dX9_init_218 : decode cX9_init 218 = .ok (.aload_n 0, 1) := by decide +kernel
theorem dX9_init_219 : decode cX9_init 219 = .ok (.sipush 426, 3) := by decide +kernel
theorem dX9_init_222 : decode cX9_init 222 = .ok (.newarray .int, 2) := by decide +kernel
theorem dX9_init_224 : decode cX9_init 224 = .ok (.putfield 97, 3) := by decide +kernel
theorem dX9_init_227 : decode cX9_init 227 = .ok (.aload_n 0, 1) := by decide +kernel
theorem dX9_init_228 : decode cX9_init 228 = .ok (.iconst 2, 1) := by decide +kernel
theorem dX9_init_229 : decode cX9_init 229 = .ok (.newarray .boolean, 2) := by decide +kernel
theorem dX9_init_231 : decode cX9_init 231 = .ok (.putfield 100, 3) := by decide +kernel
theorem dX9_init_234 : decode cX9_init 234 = .ok (.aload_n 0, 1) := by decide +kernel
theorem dX9_init_235 : decode cX9_init 235 = .ok (.bipush 8, 2) := by decide +kernel
theorem dX9_init_237 : decode cX9_init 237 = .ok (.putfield 104, 3) := by decide +kernel
theorem dX9_init_240 : decode cX9_init 240 = .ok (.aload_n 0, 1) := by decide +kernel
theorem dX9_init_241 : decode cX9_init 241 = .ok (.iconst 1, 1) := by decide +kernel
theorem dX9_init_242 : decode cX9_init 242 = .ok (.putfield 107, 3) := by decide +kernel
theorem dX9_init_245 : decode cX9_init 245 = .ok (.aload_n 0, 1) := by decide +kernel
theorem dX9_init_246 : decode cX9_init 246 = .ok (.invokevirtual 110, 3) := by decide +kernel
theorem dX9_init_249 : decode cX9_init 249 = .ok (.return_, 1) := by decide +kernel
set_option maxRecDepth 20000 in
theorem ggX9_append_X9_bytesOf : GoodIn wsX9_append wsX9_bytesOf := goodIn_r _ [7, 8, 2, 9, 10, 11, 12, 13, 14, 15, 16, 17, 18, 19, 20, 21, 22, 23, 24, 25, 26, 27, 28, 29, 30, 31, 32, 33, 34, 35, 36, 37, 38, 39, 40, 41, 42, 43, 44, 45, 46, 47, 48, 49, 50, 51, 52, 53] (by decide +kernel) (by decide +kernel)
set_option maxRecDepth 20000 in
theorem gX9_append_X9_bytesOf : GoodIn wsX9_append (wsV RX9 116 RX9 yX9_bytesOf wsX9_bytesOf) := goodIn_app (goodIn_of _ (by decide +kernel)) ggX9_append_X9_bytesOf
theorem dX9_append_0 : decode cX9_append 0 = .ok (.aload_n 0, 1) := by decide +kernel
theorem dX9_append_1 : decode cX9_append 1 = .ok (.iconst 0, 1) := by decide +kernel
theorem dX9_append_2 : decode cX9_append 2 = .ok (.putfield 1, 3) := by decide +kernel
theorem dX9_append_5 : decode cX9_append 5 = .ok (.aload_n 0, 1) := by decide +kernel
theorem dX9_append_6 : decode cX9_append 6 = .ok (.getfield 113, 3) := by decide +kernel
theorem dX9_append_9 : decode cX9_append 9 = .ok (.bipush 20, 2) := by decide +kernel
theorem dX9_append_11 : decode cX9_append 11 = .ok (.iadd, 1) := by decide +kernel
theorem dX9_append_12 : decode cX9_append 12 = .ok (.sipush 900, 3) := by decide +kernel
theorem dX9_append_15 : decode cX9_append 15 = .ok (.if_icmp .le 5, 3) := by decide +kernel
theorem dX9_append_18 : decode cX9_append 18 = .ok (.iconst (-1), 1) := by decide +kernel
theorem dX9_append_19 : decode cX9_append 19 = .ok (.ireturn, 1) := by decide +kernel
theorem dX9_append_20 : decode cX9_append 20 = .ok (.aload_n 0, 1) := by decide +kernel
theorem dX9_append_21 : decode cX9_append 21 = .ok (.iload_n 1, 1) := by decide +kernel
theorem dX9_append_22 : decode cX9_append 22 = .ok (.invokevirtual 116, 3) := by decide +kernel
theorem dX9_append_25 : decode cX9_append 25 = .ok (.aload_n 0, 1) := by decide +kernel
theorem dX9_append_26 : decode cX9_append 26 = .ok (.iload_n 2, 1) := by decide +kernel
theorem dX9_append_27 : decode cX9_append 27 = .ok (.invokevirtual 116, 3) := by decide +kernel
theorem dX9_append_30 : decode cX9_append 30 = .ok (.aload_n 0, 1) := by decide +kernel
theorem dX9_append_31 : decode cX9_append 31 = .ok (.iload_n 3, 1) := by decide +kernel
theorem dX9_append_32 : decode cX9_append 32 = .ok (.invokevirtual 116, 3) := by decide +kernel
theorem dX9_append_35 : decode cX9_append 35 = .ok (.aload_n 0, 1) := by decide +kernel
theorem dX9_append_36 : decode cX9_append 36 = .ok (.iload 4, 2) := by decide +kernel
theorem dX9_append_38 : decode cX9_append 38 = .ok (.invokevirtual 116, 3) := by decide +kernel
theorem dX9_append_41 : decode cX9_append 41 = .ok (.aload_n 0, 1) := by decide +kernel
theorem dX9_append_42 : decode cX9_append 42 = .ok (.iload 5, 2) := by decide +kernel
theorem dX9_append_44 : decode cX9_append 44 = .ok (.invokevirtual 116, 3) := by decide +kernel
theorem dX9_append_47 : decode cX9_append 47 = .ok (.aload_n 0, 1) := by decide +kernel
theorem dX9_append_48 : decode cX9_append 48 = .ok (.getfield 113, 3) := by decide +kernel
theorem dX9_append_51 : decode cX9_append 51 = .ok (.ireturn, 1) := by decide +kernel
theorem dX9_bytesOf_0 : decode cX9_bytesOf 0 = .ok (.bipush 24, 2) := by decide +kernel
theorem dX9_bytesOf_2 : decode cX9_bytesOf 2 = .ok (.istore_n 2, 1) := by decide +kernel
theorem dX9_bytesOf_3 : decode cX9_bytesOf 3 = .ok (.iload_n 2, 1) := by decide +kernel
theorem dX9_bytesOf_4 : decode cX9_bytesOf 4 = .ok (.ifCond .lt 32, 3) := by decide +kernel
theorem dX9_bytesOf_7 : decode cX9_bytesOf 7 = .ok (.aload_n 0, 1) := by decide +kernel
theorem dX9_bytesOf_8 : decode cX9_bytesOf 8 = .ok (.getfield 71, 3) := by decide +kernel
theorem dX9_bytesOf_11 : decode cX9_bytesOf 11 = .ok (.aload_n 0, 1) := by decide +kernel
theorem dX9_bytesOf_12 : decode cX9_bytesOf 12 = .ok (.getfield 113, 3) := by decide +kernel
theorem dX9_bytesOf_15 : decode cX9_bytesOf 15 = .ok (.iload_n 1, 1) := by decide +kernel
theorem dX9_bytesOf_16 : decode cX9_bytesOf 16 = .ok (.iload_n 2, 1) := by decide +kernel
theorem dX9_bytesOf_17 : decode cX9_bytesOf 17 = .ok (.ishr, 1) := by decide +kernel
theorem dX9_bytesOf_18 : decode cX9_bytesOf 18 = .ok (.i2b, 1) := by decide +kernel
theorem dX9_bytesOf_19 : decode cX9_bytesOf 19 = .ok (.bastore, 1) := by decide +kernel
theorem dX9_bytesOf_20 : decode cX9_bytesOf 20 = .ok (.aload_n 0, 1) := by decide +kernel
theorem dX9_bytesOf_21 : decode cX9_bytesOf 21 = .ok (.dup, 1) := by decide +kernel
theorem dX9_bytesOf_22 : decode cX9_bytesOf 22 = .ok (.getfield 113, 3) := by decide +kernel
theorem dX9_bytesOf_25 : decode cX9_bytesOf 25 = .ok (.iconst 1, 1) := by decide +kernel
theorem dX9_bytesOf_26 : decode cX9_bytesOf 26 = .ok (.iadd, 1) := by decide +kernel
theorem dX9_bytesOf_27 : decode cX9_bytesOf 27 = .ok (.putfield 113, 3) := by decide +kernel
theorem dX9_bytesOf_30 : decode cX9_bytesOf 30 = .ok (.iinc 2 (-8), 3) := by decide +kernel
theorem dX9_bytesOf_33 : decode cX9_bytesOf 33 = .ok (.goto (-30), 3) := by decide +kernel
theorem dX9_bytesOf_36 : decode cX9_bytesOf 36 = .ok (.return_, 1) := by decide +kernel
theorem dX9_byteAt_0 : decode cX9_byteAt 0 = .ok (.iload_n 1, 1) := by decide +kernel
theorem dX9_byteAt_1 : decode cX9_byteAt 1 = .ok (.aload_n 0, 1) := by decide +kernel
theorem dX9_byteAt_2 : decode cX9_byteAt 2 = .ok (.getfield 120, 3) := by decide +kernel
theorem dX9_byteAt_5 : decode cX9_byteAt 5 = .ok (.if_icmp .ge 16, 3) := by decide +kernel
theorem dX9_byteAt_8 : decode cX9_byteAt 8 = .ok (.aload_n 0, 1) := by decide +kernel
theorem dX9_byteAt_9 : decode cX9_byteAt 9 = .ok (.getfield 71, 3) := by decide +kernel
theorem dX9_byteAt_12 : decode cX9_byteAt 12 = .ok (.iload_n 1, 1) := by decide +kernel
theorem dX9_byteAt_13 : decode cX9_byteAt 13 = .ok (.baload, 1) := by decide +kernel
theorem dX9_byteAt_14 : decode cX9_byteAt 14 = .ok (.sipush 255, 3) := by decide +kernel
theorem dX9_byteAt_17 : decode cX9_byteAt 17 = .ok (.iand, 1) := by decide +kernel
theorem dX9_byteAt_18 : decode cX9_byteAt 18 = .ok (.goto 5, 3) := by decide +kernel
theorem dX9_byteAt_21 : decode cX9_byteAt 21 = .ok (.bipush (-2), 2) := by decide +kernel
theorem dX9_byteAt_23 : decode cX9_byteAt 23 = .ok (.ireturn, 1) := by decide +kernel
set_option maxRecDepth 20000 in
theorem ggX9_advance_X9_byteAt : GoodIn wsX9_advance wsX9_byteAt := goodIn_r _ [9, 10, 11, 15, 16, 17, 18, 19, 20, 21, 22, 23, 24, 25, 26, 27, 28, 29, 30, 31, 32, 33, 34, 35, 36, 37, 38, 39, 40, 41, 42, 43, 44, 45, 46, 47, 48, 49, 50, 51, 52, 53, 54, 55, 56, 57, 58, 59] (by decide +kernel) (by decide +kernel)
set_option maxRecDepth 20000 in
theorem gX9_advance_X9_byteAt : GoodIn wsX9_advance (wsV RX9 126 RX9 yX9_byteAt wsX9_byteAt) := goodIn_app (goodIn_of _ (by decide +kernel)) ggX9_advance_X9_byteAt
set_option maxRecDepth 20000 in
theorem ggX9_advance_X9_within : GoodIn wsX9_advance wsX9_within := goodIn_r _ [14] (by decide +kernel) (by decide +kernel)
set_option maxRecDepth 20000 in
theorem gX9_advance_X9_within : GoodIn wsX9_advance (va_wsS RX9 139 yX9_within wsX9_within) := goodIn_app (goodIn_of _ (by decide +kernel)) ggX9_advance_X9_within
theorem dX9_advance_0 : decode cX9_advance 0 = .ok (.aload_n 0, 1) := by decide +kernel
theorem dX9_advance_1 : decode cX9_advance 1 = .ok (.aload_n 0, 1) := by decide +kernel
theorem dX9_advance_2 : decode cX9_advance 2 = .ok (.getfield 123, 3) := by decide +kernel
theorem dX9_advance_5 : decode cX9_advance 5 = .ok (.invokevirtual 126, 3) := by decide +kernel
theorem dX9_advance_8 : decode cX9_advance 8 = .ok (.bipush 32, 2) := by decide +kernel
theorem dX9_advance_10 : decode cX9_advance 10 = .ok (.if_icmp .eq 16, 3) := by decide +kernel
theorem dX9_advance_13 : decode cX9_advance 13 = .ok (.aload_n 0, 1) := by decide +kernel
theorem dX9_advance_14 : decode cX9_advance 14 = .ok (.aload_n 0, 1) := by decide +kernel
theorem dX9_advance_15 : decode cX9_advance 15 = .ok (.getfield 123, 3) := by decide +kernel
theorem dX9_advance_18 : decode cX9_advance 18 = .ok (.invokevirtual 126, 3) := by decide +kernel
theorem dX9_advance_21 : decode cX9_advance 21 = .ok (.bipush 10, 2) := by decide +kernel
theorem dX9_advance_23 : decode cX9_advance 23 = .ok (.if_icmp .ne 16, 3) := by decide +kernel
theorem dX9_advance_26 : decode cX9_advance 26 = .ok (.aload_n 0, 1) := by decide +kernel
theorem dX9_advance_27 : decode cX9_advance 27 = .ok (.dup, 1) := by decide +kernel
theorem dX9_advance_28 : decode cX9_advance 28 = .ok (.getfield 123, 3) := by decide +kernel
theorem dX9_advance_31 : decode cX9_advance 31 = .ok (.iconst 1, 1) := by decide +kernel
theorem dX9_advance_32 : decode cX9_advance 32 = .ok (.iadd, 1) := by decide +kernel
theorem dX9_advance_33 : decode cX9_advance 33 = .ok (.putfield 123, 3) := by decide +kernel
theorem dX9_advance_36 : decode cX9_advance 36 = .ok (.goto (-36), 3) := by decide +kernel
theorem dX9_advance_39 : decode cX9_advance 39 = .ok (.aload_n 0, 1) := by decide +kernel
theorem dX9_advance_40 : decode cX9_advance 40 = .ok (.aload_n 0, 1) := by decide +kernel
theorem dX9_advance_41 : decode cX9_advance 41 = .ok (.getfield 123, 3) := by decide +kernel
theorem dX9_advance_44 : decode cX9_advance 44 = .ok (.putfield 130, 3) := by decide +kernel
theorem dX9_advance_47 : decode cX9_advance 47 = .ok (.aload_n 0, 1) := by decide +kernel
theorem dX9_advance_48 : decode cX9_advance 48 = .ok (.iconst 0, 1) := by decide +kernel
theorem dX9_advance_49 : decode cX9_advance 49 = .ok (.putfield 133, 3) := by decide +kernel
theorem dX9_advance_52 : decode cX9_advance 52 = .ok (.aload_n 0, 1) := by decide +kernel
theorem dX9_advance_53 : decode cX9_advance 53 = .ok (.aload_n 0, 1) := by decide +kernel
theorem dX9_advance_54 : decode cX9_advance 54 = .ok (.getfield 123, 3) := by decide +kernel
theorem dX9_advance_57 : decode cX9_advance 57 = .ok (.invokevirtual 126, 3) := by decide +kernel
theorem dX9_advance_60 : decode cX9_advance 60 = .ok (.istore_n 1, 1) := by decide +kernel
theorem dX9_advance_61 : decode cX9_advance 61 = .ok (.iload_n 1, 1) := by decide +kernel
theorem dX9_advance_62 : decode cX9_advance 62 = .ok (.bipush (-2), 2) := by decide +kernel
theorem dX9_advance_64 : decode cX9_advance 64 = .ok (.if_icmp .ne 11, 3) := by decide +kernel
theorem dX9_advance_67 : decode cX9_advance 67 = .ok (.aload_n 0, 1) := by decide +kernel
theorem dX9_advance_68 : decode cX9_advance 68 = .ok (.iconst 0, 1) := by decide +kernel
theorem dX9_advance_69 : decode cX9_advance 69 = .ok (.putfield 136, 3) := by decide +kernel
theorem dX9_advance_72 : decode cX9_advance 72 = .ok (.goto 206, 3) := by decide +kernel
theorem dX9_advance_75 : decode cX9_advance 75 = .ok (.iload_n 1, 1) := by decide +kernel
theorem dX9_advance_76 : decode cX9_advance 76 = .ok (.bipush 97, 2) := by decide +kernel
theorem dX9_advance_78 : decode cX9_advance 78 = .ok (.bipush 122, 2) := by decide +kernel
theorem dX9_advance_80 : decode cX9_advance 80 = .ok (.invokestatic 139, 3) := by decide +kernel
theorem dX9_advance_83 : decode cX9_advance 83 = .ok (.ifCond .eq 60, 3) := by decide +kernel
theorem dX9_advance_86 : decode cX9_advance 86 = .ok (.aload_n 0, 1) := by decide +kernel
theorem dX9_advance_87 : decode cX9_advance 87 = .ok (.aload_n 0, 1) := by decide +kernel
theorem dX9_advance_88 : decode cX9_advance 88 = .ok (.getfield 123, 3) := by decide +kernel
theorem dX9_advance_91 : decode cX9_advance 91 = .ok (.invokevirtual 126, 3) := by decide +kernel
theorem dX9_advance_94 : decode cX9_advance 94 = .ok (.bipush 97, 2) := by decide +kernel
theorem dX9_advance_96 : decode cX9_advance 96 = .ok (.bipush 122, 2) := by decide +kernel
theorem dX9_advance_98 : decode cX9_advance 98 = .ok (.invokestatic 139, 3) := by decide +kernel
theorem dX9_advance_101 : decode cX9_advance 101 = .ok (.ifCond .eq 16, 3) := by decide +kernel
theorem dX9_advance_104 : decode cX9_advance 104 = .ok (.aload_n 0, 1) := by decide +kernel
theorem dX9_advance_105 : decode cX9_advance 105 = .ok (.dup, 1) := by decide +kernel
theorem dX9_advance_106 : decode cX9_advance 106 = .ok (.getfield 123, 3) := by decide +kernel
theorem dX9_advance_109 : decode cX9_advance 109 = .ok (.iconst 1, 1) := by decide +kernel
theorem dX9_advance_110 : decode cX9_advance 110 = .ok (.iadd, 1) := by decide +kernel
theorem dX9_advance_111 : decode cX9_advance 111 = .ok (.putfield 123, 3) := by decide +kernel
theorem dX9_advance_114 : decode cX9_advance 114 = .ok (.goto (-28), 3) := by decide +kernel
theorem dX9_advance_117 : decode cX9_advance 117 = .ok (.aload_n 0, 1) := by decide +kernel
theorem dX9_advance_118 : decode cX9_advance 118 = .ok (.aload_n 0, 1) := by decide +kernel
theorem dX9_advance_119 : decode cX9_advance 119 = .ok (.getfield 123, 3) := by decide +kernel
theorem dX9_advance_122 : decode cX9_advance 122 = .ok (.aload_n 0, 1) := by decide +kernel
theorem dX9_advance_123 : decode cX9_advance 123 = .ok (.getfield 130, 3) := by decide +kernel
theorem dX9_advance_126 : decode cX9_advance 126 = .ok (.isub, 1) := by decide +kernel
theorem dX9_advance_127 : decode cX9_advance 127 = .ok (.bipush 8, 2) := by decide +kernel
theorem dX9_advance_129 : decode cX9_advance 129 = .ok (.if_icmp .le 7, 3) := by decide +kernel
theorem dX9_advance_132 : decode cX9_advance 132 = .ok (.iconst 4, 1) := by decide +kernel
theorem dX9_advance_133 : decode cX9_advance 133 = .ok (.goto 4, 3) := by decide +kernel
theorem dX9_advance_136 : decode cX9_advance 136 = .ok (.iconst 1, 1) := by decide +kernel
theorem dX9_advance_137 : decode cX9_advance 137 = .ok (.putfield 136, 3) := by decide +kernel
theorem dX9_advance_140 : decode cX9_advance 140 = .ok (.goto 138, 3) := by decide +kernel
theorem dX9_advance_143 : decode cX9_advance 143 = .ok (.iload_n 1, 1) := by decide +kernel
theorem dX9_advance_144 : decode cX9_advance 144 = .ok (.bipush 48, 2) := by decide +kernel
theorem dX9_advance_146 : decode cX9_advance 146 = .ok (.bipush 57, 2) := by decide +kernel
theorem dX9_advance_148 : decode cX9_advance 148 = .ok (.invokestatic 139, 3) := by decide +kernel
theorem dX9_advance_151 : decode cX9_advance 151 = .ok (.ifCond .eq 102, 3) := by decide +kernel
theorem dX9_advance_154 : decode cX9_advance 154 = .ok (.aload_n 0, 1) := by decide +kernel
theorem dX9_advance_155 : decode cX9_advance 155 = .ok (.aload_n 0, 1) := by decide +kernel
theorem dX9_advance_156 : decode cX9_advance 156 = .ok (.getfield 123, 3) := by decide +kernel
theorem dX9_advance_159 : decode cX9_advance 159 = .ok (.invokevirtual 126, 3) := by decide +kernel
theorem dX9_advance_162 : decode cX9_advance 162 = .ok (.bipush 48, 2) := by decide +kernel
theorem dX9_advance_164 : decode cX9_advance 164 = .ok (.bipush 57, 2) := by decide +kernel
theorem dX9_advance_166 : decode cX9_advance 166 = .ok (.invokestatic 139, 3) := by decide +kernel
theorem dX9_advance_169 : decode cX9_advance 169 = .ok (.ifCond .eq 59, 3) := by decide +kernel
theorem dX9_advance_172 : decode cX9_advance 172 = .ok (.aload_n 0, 1) := by decide +kernel
theorem dX9_advance_173 : decode cX9_advance 173 = .ok (.aload_n 0, 1) := by decide +kernel
theorem dX9_advance_174 : decode cX9_advance 174 = .ok (.getfield 123, 3) := by decide +kernel
theorem dX9_advance_177 : decode cX9_advance 177 = .ok (.aload_n 0, 1) := by decide +kernel
theorem dX9_advance_178 : decode cX9_advance 178 = .ok (.getfield 130, 3) := by decide +kernel
theorem dX9_advance_181 : decode cX9_advance 181 = .ok (.isub, 1) := by decide +kernel
theorem dX9_advance_182 : decode cX9_advance 182 = .ok (.iconst 4, 1) := by decide +kernel
theorem dX9_advance_183 : decode cX9_advance 183 = .ok (.if_icmp .ge 25, 3) := by decide +kernel
theorem dX9_advance_186 : decode cX9_advance 186 = .ok (.bipush 10, 2) := by decide +kernel
theorem dX9_advance_188 : decode cX9_advance 188 = .ok (.aload_n 0, 1) := by decide +kernel
theorem dX9_advance_189 : decode cX9_advance 189 = .ok (.getfield 133, 3) := by decide +kernel
theorem dX9_advance_192 : decode cX9_advance 192 = .ok (.imul, 1) := by decide +kernel
theorem dX9_advance_193 : decode cX9_advance 193 = .ok (.aload_n 0, 1) := by decide +kernel
theorem dX9_advance_194 : decode cX9_advance 194 = .ok (.aload_n 0, 1) := by decide +kernel
theorem dX9_advance_195 : decode cX9_advance 195 = .ok (.getfield 123, 3) := by decide +kernel
theorem dX9_advance_198 : decode cX9_advance 198 = .ok (.invokevirtual 126, 3) := by decide +kernel
theorem dX9_advance_201 : decode cX9_advance 201 = .ok (.iadd, 1) := by decide +kernel
theorem dX9_advance_202 : decode cX9_advance 202 = .ok (.bipush 48, 2) := by decide +kernel
theorem dX9_advance_204 : decode cX9_advance 204 = .ok (.isub, 1) := by decide +kernel
theorem dX9_advance_205 : decode cX9_advance 205 = .ok (.goto 7, 3) := by decide +kernel
theorem dX9_advance_208 : decode cX9_advance 208 = .ok (.aload_n 0, 1) := by decide +kernel
theorem dX9_advance_209 : decode cX9_advance 209 = .ok (.getfield 133, 3) := by decide +kernel
theorem dX9_advance_212 : decode cX9_advance 212 = .ok (.putfield 133, 3) := by decide +kernel
theorem dX9_advance_215 : decode cX9_advance 215 = .ok (.aload_n 0, 1) := by decide +kernel
theorem dX9_advance_216 : decode cX9_advance 216 = .ok (.dup, 1) := by decide +kernel
theorem dX9_advance_217 : decode cX9_advance 217 = .ok (.getfield 123, 3) := by decide +kernel
theorem dX9_advance_220 : decode cX9_advance 220 = .ok (.iconst 1, 1) := by decide +kernel
theorem dX9_advance_221 : decode cX9_advance 221 = .ok (.iadd, 1) := by decide +kernel
theorem dX9_advance_222 : decode cX9_advance 222 = .ok (.putfield 123, 3) := by decide +kernel
theorem dX9_advance_225 : decode cX9_advance 225 = .ok (.goto (-71), 3) := by decide +kernel
theorem dX9_advance_228 : decode cX9_advance 228 = .ok (.aload_n 0, 1) := by decide +kernel
theorem dX9_advance_229 : decode cX9_advance 229 = .ok (.aload_n 0, 1) := by decide +kernel
theorem dX9_advance_230 : decode cX9_advance 230 = .ok (.getfield 123, 3) := by decide +kernel
theorem dX9_advance_233 : decode cX9_advance 233 = .ok (.aload_n 0, 1) := by decide +kernel
theorem dX9_advance_234 : decode cX9_advance 234 = .ok (.getfield 130, 3) := by decide +kernel
theorem dX9_advance_237 : decode cX9_advance 237 = .ok (.isub, 1) := by decide +kernel
theorem dX9_advance_238 : decode cX9_advance 238 = .ok (.iconst 4, 1) := by decide +kernel
theorem dX9_advance_239 : decode cX9_advance 239 = .ok (.if_icmp .le 7, 3) := by decide +kernel
theorem dX9_advance_242 : decode cX9_advance 242 = .ok (.iconst 4, 1) := by decide +kernel
theorem dX9_advance_243 : decode cX9_advance 243 = .ok (.goto 4, 3) := by decide +kernel
theorem dX9_advance_246 : decode cX9_advance 246 = .ok (.iconst 2, 1) := by decide +kernel
theorem dX9_advance_247 : decode cX9_advance 247 = .ok (.putfield 136, 3) := by decide +kernel
theorem dX9_advance_250 : decode cX9_advance 250 = .ok (.goto 28, 3) := by decide +kernel
theorem dX9_advance_253 : decode cX9_advance 253 = .ok (.aload_n 0, 1) := by decide +kernel
theorem dX9_advance_254 : decode cX9_advance 254 = .ok (.dup, 1) := by decide +kernel
theorem dX9_advance_255 : decode cX9_advance 255 = .ok (.getfield 123, 3) := by decide +kernel
theorem dX9_advance_258 : decode cX9_advance 258 = .ok (.iconst 1, 1) := by decide +kernel
theorem dX9_advance_259 : decode cX9_advance 259 = .ok (.iadd, 1) := by decide +kernel
theorem dX9_advance_260 : decode cX9_advance 260 = .ok (.putfield 123, 3) := by decide +kernel
theorem dX9_advance_263 : decode cX9_advance 263 = .ok (.aload_n 0, 1) := by decide +kernel
theorem dX9_advance_264 : decode cX9_advance 264 = .ok (.iload_n 1, 1) := by decide +kernel
theorem dX9_advance_265 : decode cX9_advance 265 = .ok (.bipush 59, 2) := by decide +kernel
theorem dX9_advance_267 : decode cX9_advance 267 = .ok (.if_icmp .ne 7, 3) := by decide +kernel
theorem dX9_advance_270 : decode cX9_advance 270 = .ok (.iconst 3, 1) := by decide +kernel
theorem dX9_advance_271 : decode cX9_advance 271 = .ok (.goto 4, 3) := by decide +kernel
theorem dX9_advance_274 : decode cX9_advance 274 = .ok (.iconst 4, 1) := by decide +kernel
theorem dX9_advance_275 : decode cX9_advance 275 = .ok (.putfield 136, 3) := by decide +kernel
theorem dX9_advance_278 : decode cX9_advance 278 = .ok (.return_, 1) := by decide +kernel
set_option maxRecDepth 20000 in
theorem ggX9_isWord_J0_length_8abf5 : GoodIn wsX9_isWord wsJ0_length_8abf5 := goodIn_r _ [9, 10, 11, 12, 13, 8, 14, 15, 16] (by decide +kernel) (by decide +kernel)
set_option maxRecDepth 20000 in
theorem gX9_isWord_J0_length_8abf5 : GoodIn wsX9_isWord (wsV RX9 143 RJ0 yJ0_length_8abf5 wsJ0_length_8abf5) := goodIn_app (goodIn_of _ (by decide +kernel)) ggX9_isWord_J0_length_8abf5
set_option maxRecDepth 20000 in
theorem ggX9_isWord_J0_charAt_5068e : GoodIn wsX9_isWord wsJ0_charAt_5068e := goodIn_r _ [20, 10, 21, 22, 23, 8, 24, 15, 16, 25, 26, 27, 28, 29, 30, 31, 32, 33, 34, 35, 36, 37, 38, 39, 40, 41, 42, 43, 44, 45, 46, 47, 48, 49, 50, 51, 52, 53] (by decide +kernel) (by decide +kernel)
set_option maxRecDepth 20000 in
theorem gX9_isWord_J0_charAt_5068e : GoodIn wsX9_isWord (wsV RX9 148 RJ0 yJ0_charAt_5068e wsJ0_charAt_5068e) := goodIn_app (goodIn_of _ (by decide +kernel)) ggX9_isWord_J0_charAt_5068e
theorem dX9_isWord_0 : decode cX9_isWord 0 = .ok (.aload_n 0, 1) := by decide +kernel
theorem dX9_isWord_1 : decode cX9_isWord 1 = .ok (.getfield 136, 3) := by decide +kernel
theorem dX9_isWord_4 : decode cX9_isWord 4 = .ok (.iconst 1, 1) := by decide +kernel
theorem dX9_isWord_5 : decode cX9_isWord 5 = .ok (.if_icmp .ne 23, 3) := by decide +kernel
theorem dX9_isWord_8 : decode cX9_isWord 8 = .ok (.aload_n 0, 1) := by decide +kernel
theorem dX9_isWord_9 : decode cX9_isWord 9 = .ok (.getfield 123, 3) := by decide +kernel
theorem dX9_isWord_12 : decode cX9_isWord 12 = .ok (.aload_n 0, 1) := by decide +kernel
theorem dX9_isWord_13 : decode cX9_isWord 13 = .ok (.getfield 130, 3) := by decide +kernel
theorem dX9_isWord_16 : decode cX9_isWord 16 = .ok (.isub, 1) := by decide +kernel
theorem dX9_isWord_17 : decode cX9_isWord 17 = .ok (.aload_n 1, 1) := by decide +kernel
theorem dX9_isWord_18 : decode cX9_isWord 18 = .ok (.invokevirtual 143, 3) := by decide +kernel
theorem dX9_isWord_21 : decode cX9_isWord 21 = .ok (.if_icmp .ne 7, 3) := by decide +kernel
theorem dX9_isWord_24 : decode cX9_isWord 24 = .ok (.iconst 1, 1) := by decide +kernel
theorem dX9_isWord_25 : decode cX9_isWord 25 = .ok (.goto 4, 3) := by decide +kernel
theorem dX9_isWord_28 : decode cX9_isWord 28 = .ok (.iconst 0, 1) := by decide +kernel
theorem dX9_isWord_29 : decode cX9_isWord 29 = .ok (.istore_n 2, 1) := by decide +kernel
theorem dX9_isWord_30 : decode cX9_isWord 30 = .ok (.iconst 0, 1) := by decide +kernel
theorem dX9_isWord_31 : decode cX9_isWord 31 = .ok (.istore_n 3, 1) := by decide +kernel
theorem dX9_isWord_32 : decode cX9_isWord 32 = .ok (.iload_n 3, 1) := by decide +kernel
theorem dX9_isWord_33 : decode cX9_isWord 33 = .ok (.aload_n 1, 1) := by decide +kernel
theorem dX9_isWord_34 : decode cX9_isWord 34 = .ok (.invokevirtual 143, 3) := by decide +kernel
theorem dX9_isWord_37 : decode cX9_isWord 37 = .ok (.if_icmp .ge 38, 3) := by decide +kernel
theorem dX9_isWord_40 : decode cX9_isWord 40 = .ok (.iload_n 2, 1) := by decide +kernel
theorem dX9_isWord_41 : decode cX9_isWord 41 = .ok (.ifCond .eq 34, 3) := by decide +kernel
theorem dX9_isWord_44 : decode cX9_isWord 44 = .ok (.aload_n 0, 1) := by decide +kernel
theorem dX9_isWord_45 : decode cX9_isWord 45 = .ok (.getfield 71, 3) := by decide +kernel
theorem dX9_isWord_48 : decode cX9_isWord 48 = .ok (.aload_n 0, 1) := by decide +kernel
theorem dX9_isWord_49 : decode cX9_isWord 49 = .ok (.getfield 130, 3) := by decide +kernel
theorem dX9_isWord_52 : decode cX9_isWord 52 = .ok (.iload_n 3, 1) := by decide +kernel
theorem dX9_isWord_53 : decode cX9_isWord 53 = .ok (.iadd, 1) := by decide +kernel
theorem dX9_isWord_54 : decode cX9_isWord 54 = .ok (.baload, 1) := by decide +kernel
theorem dX9_isWord_55 : decode cX9_isWord 55 = .ok (.aload_n 1, 1) := by decide +kernel
theorem dX9_isWord_56 : decode cX9_isWord 56 = .ok (.iload_n 3, 1) := by decide +kernel
theorem dX9_isWord_57 : decode cX9_isWord 57 = .ok (.invokevirtual 148, 3) := by decide +kernel
theorem dX9_isWord_60 : decode cX9_isWord 60 = .ok (.if_icmp .ne 7, 3) := by decide +kernel
theorem dX9_isWord_63 : decode cX9_isWord 63 = .ok (.iconst 1, 1) := by decide +kernel
theorem dX9_isWord_64 : decode cX9_isWord 64 = .ok (.goto 4, 3) := by decide +kernel
theorem dX9_isWord_67 : decode cX9_isWord 67 = .ok (.iconst 0, 1) := by decide +kernel
theorem dX9_isWord_68 : decode cX9_isWord 68 = .ok (.istore_n 2, 1) := by decide +kernel
theorem dX9_isWord_69 : decode cX9_isWord 69 = .ok (.iinc 3 1, 3) := by decide +kernel
theorem dX9_isWord_72 : decode cX9_isWord 72 = .ok (.goto (-40), 3) := by decide +kernel
theorem dX9_isWord_75 : decode cX9_isWord 75 = .ok (.iload_n 2, 1) := by decide +kernel
theorem dX9_isWord_76 : decode cX9_isWord 76 = .ok (.ireturn, 1) := by decide +kernel
theorem dX9_fails_0 : decode cX9_fails 0 = .ok (.aload_n 0, 1) := by decide +kernel
theorem dX9_fails_1 : decode cX9_fails 1 = .ok (.getfield 152, 3) := by decide +kernel
theorem dX9_fails_4 : decode cX9_fails 4 = .ok (.ifCond .ne 16, 3) := by decide +kernel
theorem dX9_fails_7 : decode cX9_fails 7 = .ok (.aload_n 0, 1) := by decide +kernel
theorem dX9_fails_8 : decode cX9_fails 8 = .ok (.iload_n 1, 1) := by decide +kernel
theorem dX9_fails_9 : decode cX9_fails 9 = .ok (.putfield 152, 3) := by decide +kernel
theorem dX9_fails_12 : decode cX9_fails 12 = .ok (.aload_n 0, 1) := by decide +kernel
theorem dX9_fails_13 : decode cX9_fails 13 = .ok (.aload_n 0, 1) := by decide +kernel
theorem dX9_fails_14 : decode cX9_fails 14 = .ok (.getfield 130, 3) := by decide +kernel
theorem dX9_fails_17 : decode cX9_fails 17 = .ok (.putfield 75, 3) := by decide +kernel
theorem dX9_fails_20 : decode cX9_fails 20 = .ok (.iconst 0, 1) := by decide +kernel
theorem dX9_fails_21 : decode cX9_fails 21 = .ok (.ireturn, 1) := by decide +kernel
set_option maxRecDepth 20000 in
theorem ggX9_takes_X9_fails : GoodIn wsX9_takes wsX9_fails := goodIn_r _ [8, 9, 10, 11, 26, 27, 28, 29, 30, 31, 32, 33, 34, 35, 36, 37, 38, 39, 40, 41, 42, 43, 44, 45, 46, 47, 48, 49, 50, 51, 52, 53, 54, 55, 56, 57, 58, 59, 60, 61, 62, 63, 64, 65, 66, 67, 68, 69, 70] (by decide +kernel) (by decide +kernel)
set_option maxRecDepth 20000 in
theorem gX9_takes_X9_fails : GoodIn wsX9_takes (wsV RX9 155 RX9 yX9_fails wsX9_fails) := goodIn_app (goodIn_of _ (by decide +kernel)) ggX9_takes_X9_fails
set_option maxRecDepth 20000 in
theorem ggX9_takes_X9_within : GoodIn wsX9_takes wsX9_within := goodIn_r _ [14] (by decide +kernel) (by decide +kernel)
set_option maxRecDepth 20000 in
theorem gX9_takes_X9_within : GoodIn wsX9_takes (va_wsS RX9 139 yX9_within wsX9_within) := goodIn_app (goodIn_of _ (by decide +kernel)) ggX9_takes_X9_within
set_option maxRecDepth 20000 in
theorem ggX9_takes_X9_advance : GoodIn wsX9_takes wsX9_advance := goodIn_r _ [18, 19, 10, 2, 1, 20, 21, 22, 7, 23, 24, 25, 12, 13, 14, 26, 27, 28, 29, 30, 31, 32, 33, 34, 35, 36, 37, 38, 39, 40, 41, 42, 43, 44, 45, 46, 47, 48, 49, 50, 51, 52, 53, 54, 55, 56, 57, 58, 59, 60, 61, 62, 63, 64, 65, 66, 67, 68, 69, 70] (by decide +kernel) (by decide +kernel)
set_option maxRecDepth 20000 in
theorem gX9_takes_X9_advance : GoodIn wsX9_takes (wsV RX9 162 RX9 yX9_advance wsX9_advance) := goodIn_app (goodIn_of _ (by decide +kernel)) ggX9_takes_X9_advance
theorem dX9_takes_0 : decode cX9_takes 0 = .ok (.aload_n 0, 1) := by decide +kernel
theorem dX9_takes_1 : decode cX9_takes 1 = .ok (.getfield 136, 3) := by decide +kernel
theorem dX9_takes_4 : decode cX9_takes 4 = .ok (.iconst 2, 1) := by decide +kernel
theorem dX9_takes_5 : decode cX9_takes 5 = .ok (.if_icmp .eq 9, 3) := by decide +kernel
theorem dX9_takes_8 : decode cX9_takes 8 = .ok (.aload_n 0, 1) := by decide +kernel
theorem dX9_takes_9 : decode cX9_takes 9 = .ok (.iconst 1, 1) := by decide +kernel
theorem dX9_takes_10 : decode cX9_takes 10 = .ok (.invokevirtual 155, 3) := by decide +kernel
theorem dX9_takes_13 : decode cX9_takes 13 = .ok (.ireturn, 1) := by decide +kernel
theorem dX9_takes_14 : decode cX9_takes 14 = .ok (.aload_n 0, 1) := by decide +kernel
theorem dX9_takes_15 : decode cX9_takes 15 = .ok (.getfield 133, 3) := by decide +kernel
theorem dX9_takes_18 : decode cX9_takes 18 = .ok (.iload_n 1, 1) := by decide +kernel
theorem dX9_takes_19 : decode cX9_takes 19 = .ok (.iload_n 2, 1) := by decide +kernel
theorem dX9_takes_20 : decode cX9_takes 20 = .ok (.invokestatic 139, 3) := by decide +kernel
theorem dX9_takes_23 : decode cX9_takes 23 = .ok (.ifCond .ne 9, 3) := by decide +kernel
theorem dX9_takes_26 : decode cX9_takes 26 = .ok (.aload_n 0, 1) := by decide +kernel
theorem dX9_takes_27 : decode cX9_takes 27 = .ok (.iconst 3, 1) := by decide +kernel
theorem dX9_takes_28 : decode cX9_takes 28 = .ok (.invokevirtual 155, 3) := by decide +kernel
theorem dX9_takes_31 : decode cX9_takes 31 = .ok (.ireturn, 1) := by decide +kernel
theorem dX9_takes_32 : decode cX9_takes 32 = .ok (.aload_n 0, 1) := by decide +kernel
theorem dX9_takes_33 : decode cX9_takes 33 = .ok (.aload_n 0, 1) := by decide +kernel
theorem dX9_takes_34 : decode cX9_takes 34 = .ok (.getfield 133, 3) := by decide +kernel
theorem dX9_takes_37 : decode cX9_takes 37 = .ok (.putfield 159, 3) := by decide +kernel
theorem dX9_takes_40 : decode cX9_takes 40 = .ok (.aload_n 0, 1) := by decide +kernel
theorem dX9_takes_41 : decode cX9_takes 41 = .ok (.invokevirtual 162, 3) := by decide +kernel
theorem dX9_takes_44 : decode cX9_takes 44 = .ok (.iconst 1, 1) := by decide +kernel
theorem dX9_takes_45 : decode cX9_takes 45 = .ok (.ireturn, 1) := by decide +kernel
set_option maxRecDepth 20000 in
theorem ggX9_opens_X9_fails : GoodIn wsX9_opens wsX9_fails := goodIn_r _ [5, 6, 7, 8, 25, 26, 27, 28, 29, 30, 31, 32, 33, 34, 35, 36, 37, 38, 39, 40, 41, 42, 43, 44, 45, 46, 47, 48, 49, 50, 51, 52, 53, 54, 55, 56, 57, 58, 59, 60, 61, 62, 63, 64, 65, 66, 67, 68, 69] (by decide +kernel) (by decide +kernel)
set_option maxRecDepth 20000 in
theorem gX9_opens_X9_fails : GoodIn wsX9_opens (wsV RX9 155 RX9 yX9_fails wsX9_fails) := goodIn_app (goodIn_of _ (by decide +kernel)) ggX9_opens_X9_fails
set_option maxRecDepth 20000 in
theorem ggX9_opens_X9_advance : GoodIn wsX9_opens wsX9_advance := goodIn_r _ [12, 13, 7, 14, 15, 16, 17, 18, 4, 19, 20, 21, 22, 23, 24, 25, 26, 27, 28, 29, 30, 31, 32, 33, 34, 35, 36, 37, 38, 39, 40, 41, 42, 43, 44, 45, 46, 47, 48, 49, 50, 51, 52, 53, 54, 55, 56, 57, 58, 59, 60, 61, 62, 63, 64, 65, 66, 67, 68, 69] (by decide +kernel) (by decide +kernel)
set_option maxRecDepth 20000 in
theorem gX9_opens_X9_advance : GoodIn wsX9_opens (wsV RX9 162 RX9 yX9_advance wsX9_advance) := goodIn_app (goodIn_of _ (by decide +kernel)) ggX9_opens_X9_advance
theorem dX9_opens_0 : decode cX9_opens 0 = .ok (.iload_n 1, 1) := by decide +kernel
theorem dX9_opens_1 : decode cX9_opens 1 = .ok (.ifCond .ne 9, 3) := by decide +kernel
theorem dX9_opens_4 : decode cX9_opens 4 = .ok (.aload_n 0, 1) := by decide +kernel
theorem dX9_opens_5 : decode cX9_opens 5 = .ok (.iconst 4, 1) := by decide +kernel
theorem dX9_opens_6 : decode cX9_opens 6 = .ok (.invokevirtual 155, 3) := by decide +kernel
theorem dX9_opens_9 : decode cX9_opens 9 = .ok (.ireturn, 1) := by decide +kernel
theorem dX9_opens_10 : decode cX9_opens 10 = .ok (.aload_n 0, 1) := by decide +kernel
theorem dX9_opens_11 : decode cX9_opens 11 = .ok (.invokevirtual 162, 3) := by decide +kernel
theorem dX9_opens_14 : decode cX9_opens 14 = .ok (.iconst 1, 1) := by decide +kernel
theorem dX9_opens_15 : decode cX9_opens 15 = .ok (.ireturn, 1) := by decide +kernel
set_option maxRecDepth 20000 in
theorem ggX9_regionLine_X9_opens : GoodIn wsX9_regionLine wsX9_opens := goodIn_r _ [10, 11, 12, 13, 9, 14, 15, 16, 17, 18, 19, 20, 21, 22, 23, 24, 25, 26, 27, 28, 29, 30, 31, 32, 33, 38, 39, 40, 41, 42, 43, 44, 45, 46, 47, 48, 49, 50, 51, 52, 53, 54, 55, 56, 57, 58, 59, 60, 61, 62, 63, 64, 65, 66, 67, 68, 69, 70, 71, 72, 73, 74, 75, 76, 77, 78, 79, 80, 81, 82] (by decide +kernel) (by decide +kernel)
set_option maxRecDepth 20000 in
theorem gX9_regionLine_X9_opens : GoodIn wsX9_regionLine (wsV RX9 165 RX9 yX9_opens wsX9_opens) := goodIn_app (goodIn_of _ (by decide +kernel)) ggX9_regionLine_X9_opens
set_option maxRecDepth 20000 in
theorem ggX9_regionLine_X9_takes : GoodIn wsX9_regionLine wsX9_takes := goodIn_r _ [37, 24, 23, 3, 11, 12, 13, 9, 14, 15, 16, 17, 31, 32, 33, 18, 19, 20, 21, 22, 25, 26, 27, 28, 29, 30, 38, 39, 40, 41, 42, 43, 44, 45, 46, 47, 48, 49, 50, 51, 52, 53, 54, 55, 56, 57, 58, 59, 60, 61, 62, 63, 64, 65, 66, 67, 68, 69, 70, 71, 72, 73, 74, 75, 76, 77, 78, 79, 80, 81, 82] (by decide +kernel) (by decide +kernel)
set_option maxRecDepth 20000 in
theorem gX9_regionLine_X9_takes : GoodIn wsX9_regionLine (wsV RX9 169 RX9 yX9_takes wsX9_takes) := goodIn_app (goodIn_of _ (by decide +kernel)) ggX9_regionLine_X9_takes
theorem dX9_regionLine_0 : decode cX9_regionLine 0 = .ok (.bipush 8, 2) := by decide +kernel
theorem dX9_regionLine_2 : decode cX9_regionLine 2 = .ok (.aload_n 0, 1) := by decide +kernel
theorem dX9_regionLine_3 : decode cX9_regionLine 3 = .ok (.getfield 17, 3) := by decide +kernel
theorem dX9_regionLine_6 : decode cX9_regionLine 6 = .ok (.iconst 1, 1) := by decide +kernel
theorem dX9_regionLine_7 : decode cX9_regionLine 7 = .ok (.iaload, 1) := by decide +kernel
theorem dX9_regionLine_8 : decode cX9_regionLine 8 = .ok (.iadd, 1) := by decide +kernel
theorem dX9_regionLine_9 : decode cX9_regionLine 9 = .ok (.istore_n 1, 1) := by decide +kernel
theorem dX9_regionLine_10 : decode cX9_regionLine 10 = .ok (.aload_n 0, 1) := by decide +kernel
theorem dX9_regionLine_11 : decode cX9_regionLine 11 = .ok (.aload_n 0, 1) := by decide +kernel
theorem dX9_regionLine_12 : decode cX9_regionLine 12 = .ok (.getfield 17, 3) := by decide +kernel
theorem dX9_regionLine_15 : decode cX9_regionLine 15 = .ok (.iconst 1, 1) := by decide +kernel
theorem dX9_regionLine_16 : decode cX9_regionLine 16 = .ok (.iaload, 1) := by decide +kernel
theorem dX9_regionLine_17 : decode cX9_regionLine 17 = .ok (.bipush 8, 2) := by decide +kernel
theorem dX9_regionLine_19 : decode cX9_regionLine 19 = .ok (.if_icmp .ge 7, 3) := by decide +kernel
theorem dX9_regionLine_22 : decode cX9_regionLine 22 = .ok (.iconst 1, 1) := by decide +kernel
theorem dX9_regionLine_23 : decode cX9_regionLine 23 = .ok (.goto 4, 3) := by decide +kernel
theorem dX9_regionLine_26 : decode cX9_regionLine 26 = .ok (.iconst 0, 1) := by decide +kernel
theorem dX9_regionLine_27 : decode cX9_regionLine 27 = .ok (.invokevirtual 165, 3) := by decide +kernel
theorem dX9_regionLine_30 : decode cX9_regionLine 30 = .ok (.ifCond .eq 13, 3) := by decide +kernel
theorem dX9_regionLine_33 : decode cX9_regionLine 33 = .ok (.aload_n 0, 1) := by decide +kernel
theorem dX9_regionLine_34 : decode cX9_regionLine 34 = .ok (.iconst 0, 1) := by decide +kernel
theorem dX9_regionLine_35 : decode cX9_regionLine 35 = .ok (.bipush 10, 2) := by decide +kernel
theorem dX9_regionLine_37 : decode cX9_regionLine 37 = .ok (.invokevirtual 169, 3) := by decide +kernel
theorem dX9_regionLine_40 : decode cX9_regionLine 40 = .ok (.ifCond .ne 5, 3) := by decide +kernel
theorem dX9_regionLine_43 : decode cX9_regionLine 43 = .ok (.iconst 0, 1) := by decide +kernel
theorem dX9_regionLine_44 : decode cX9_regionLine 44 = .ok (.ireturn, 1) := by decide +kernel
theorem dX9_regionLine_45 : decode cX9_regionLine 45 = .ok (.aload_n 0, 1) := by decide +kernel
theorem dX9_regionLine_46 : decode cX9_regionLine 46 = .ok (.getfield 20, 3) := by decide +kernel
theorem dX9_regionLine_49 : decode cX9_regionLine 49 = .ok (.iload_n 1, 1) := by decide +kernel
theorem dX9_regionLine_50 : decode cX9_regionLine 50 = .ok (.aload_n 0, 1) := by decide +kernel
theorem dX9_regionLine_51 : decode cX9_regionLine 51 = .ok (.getfield 159, 3) := by decide +kernel
theorem dX9_regionLine_54 : decode cX9_regionLine 54 = .ok (.iastore, 1) := by decide +kernel
theorem dX9_regionLine_55 : decode cX9_regionLine 55 = .ok (.aload_n 0, 1) := by decide +kernel
theorem dX9_regionLine_56 : decode cX9_regionLine 56 = .ok (.iconst 1, 1) := by decide +kernel
theorem dX9_regionLine_57 : decode cX9_regionLine 57 = .ok (.bipush 9, 2) := by decide +kernel
theorem dX9_regionLine_59 : decode cX9_regionLine 59 = .ok (.invokevirtual 169, 3) := by decide +kernel
theorem dX9_regionLine_62 : decode cX9_regionLine 62 = .ok (.ifCond .ne 5, 3) := by decide +kernel
theorem dX9_regionLine_65 : decode cX9_regionLine 65 = .ok (.iconst 0, 1) := by decide +kernel
theorem dX9_regionLine_66 : decode cX9_regionLine 66 = .ok (.ireturn, 1) := by decide +kernel
theorem dX9_regionLine_67 : decode cX9_regionLine 67 = .ok (.aload_n 0, 1) := by decide +kernel
theorem dX9_regionLine_68 : decode cX9_regionLine 68 = .ok (.getfield 23, 3) := by decide +kernel
theorem dX9_regionLine_71 : decode cX9_regionLine 71 = .ok (.iload_n 1, 1) := by decide +kernel
theorem dX9_regionLine_72 : decode cX9_regionLine 72 = .ok (.aload_n 0, 1) := by decide +kernel
theorem dX9_regionLine_73 : decode cX9_regionLine 73 = .ok (.getfield 159, 3) := by decide +kernel
theorem dX9_regionLine_76 : decode cX9_regionLine 76 = .ok (.iastore, 1) := by decide +kernel
theorem dX9_regionLine_77 : decode cX9_regionLine 77 = .ok (.aload_n 0, 1) := by decide +kernel
theorem dX9_regionLine_78 : decode cX9_regionLine 78 = .ok (.iconst 0, 1) := by decide +kernel
theorem dX9_regionLine_79 : decode cX9_regionLine 79 = .ok (.bipush 10, 2) := by decide +kernel
theorem dX9_regionLine_81 : decode cX9_regionLine 81 = .ok (.invokevirtual 169, 3) := by decide +kernel
theorem dX9_regionLine_84 : decode cX9_regionLine 84 = .ok (.ifCond .ne 5, 3) := by decide +kernel
theorem dX9_regionLine_87 : decode cX9_regionLine 87 = .ok (.iconst 0, 1) := by decide +kernel
theorem dX9_regionLine_88 : decode cX9_regionLine 88 = .ok (.ireturn, 1) := by decide +kernel
theorem dX9_regionLine_89 : decode cX9_regionLine 89 = .ok (.aload_n 0, 1) := by decide +kernel
theorem dX9_regionLine_90 : decode cX9_regionLine 90 = .ok (.getfield 26, 3) := by decide +kernel
theorem dX9_regionLine_93 : decode cX9_regionLine 93 = .ok (.iload_n 1, 1) := by decide +kernel
theorem dX9_regionLine_94 : decode cX9_regionLine 94 = .ok (.aload_n 0, 1) := by decide +kernel
theorem dX9_regionLine_95 : decode cX9_regionLine 95 = .ok (.getfield 159, 3) := by decide +kernel
theorem dX9_regionLine_98 : decode cX9_regionLine 98 = .ok (.iastore, 1) := by decide +kernel
theorem dX9_regionLine_99 : decode cX9_regionLine 99 = .ok (.aload_n 0, 1) := by decide +kernel
theorem dX9_regionLine_100 : decode cX9_regionLine 100 = .ok (.getfield 17, 3) := by decide +kernel
theorem dX9_regionLine_103 : decode cX9_regionLine 103 = .ok (.iconst 1, 1) := by decide +kernel
theorem dX9_regionLine_104 : decode cX9_regionLine 104 = .ok (.dup2, 1) := by decide +kernel
theorem dX9_regionLine_105 : decode cX9_regionLine 105 = .ok (.iaload, 1) := by decide +kernel
theorem dX9_regionLine_106 : decode cX9_regionLine 106 = .ok (.iconst 1, 1) := by decide +kernel
theorem dX9_regionLine_107 : decode cX9_regionLine 107 = .ok (.iadd, 1) := by decide +kernel
theorem dX9_regionLine_108 : decode cX9_regionLine 108 = .ok (.iastore, 1) := by decide +kernel
theorem dX9_regionLine_109 : decode cX9_regionLine 109 = .ok (.iconst 1, 1) := by decide +kernel
theorem dX9_regionLine_110 : decode cX9_regionLine 110 = .ok (.ireturn, 1) := by decide +kernel
set_option maxRecDepth 20000 in
theorem ggX9_windLine_X9_opens : GoodIn wsX9_windLine wsX9_opens := goodIn_r _ [13, 14, 15, 16, 12, 17, 18, 19, 20, 21, 22, 23, 24, 25, 3, 2, 26, 27, 28, 29, 30, 31, 32, 33, 34, 42, 43, 44, 45, 46, 47, 48, 49, 50, 51, 52, 53, 54, 55, 56, 57, 58, 59, 60, 61, 62, 63, 64, 65, 66, 67, 68, 69, 70, 71, 72, 73, 74, 75, 76, 77, 78, 79, 80, 81, 82, 83, 84, 85, 86] (by decide +kernel) (by decide +kernel)
set_option maxRecDepth 20000 in
theorem gX9_windLine_X9_opens : GoodIn wsX9_windLine (wsV RX9 165 RX9 yX9_opens wsX9_opens) := goodIn_app (goodIn_of _ (by decide +kernel)) ggX9_windLine_X9_opens
set_option maxRecDepth 20000 in
theorem ggX9_windLine_X9_has : GoodIn wsX9_windLine wsX9_has := goodIn_r _ [37] (by decide +kernel) (by decide +kernel)
set_option maxRecDepth 20000 in
theorem gX9_windLine_X9_has : GoodIn wsX9_windLine (va_wsS RX9 173 yX9_has wsX9_has) := goodIn_app (goodIn_of _ (by decide +kernel)) ggX9_windLine_X9_has
set_option maxRecDepth 20000 in
theorem ggX9_windLine_X9_fails : GoodIn wsX9_windLine wsX9_fails := goodIn_r _ [17, 18, 19, 20, 42, 43, 44, 45, 46, 47, 48, 49, 50, 51, 52, 53, 54, 55, 56, 57, 58, 59, 60, 61, 62, 63, 64, 65, 66, 67, 68, 69, 70, 71, 72, 73, 74, 75, 76, 77, 78, 79, 80, 81, 82, 83, 84, 85, 86] (by decide +kernel) (by decide +kernel)
set_option maxRecDepth 20000 in
theorem gX9_windLine_X9_fails : GoodIn wsX9_windLine (wsV RX9 155 RX9 yX9_fails wsX9_fails) := goodIn_app (goodIn_of _ (by decide +kernel)) ggX9_windLine_X9_fails
set_option maxRecDepth 20000 in
theorem ggX9_windLine_X9_takes : GoodIn wsX9_windLine wsX9_takes := goodIn_r _ [41, 2, 3, 5, 14, 15, 16, 12, 17, 18, 19, 20, 32, 33, 34, 21, 22, 23, 24, 25, 26, 27, 28, 29, 30, 31, 42, 43, 44, 45, 46, 47, 48, 49, 50, 51, 52, 53, 54, 55, 56, 57, 58, 59, 60, 61, 62, 63, 64, 65, 66, 67, 68, 69, 70, 71, 72, 73, 74, 75, 76, 77, 78, 79, 80, 81, 82, 83, 84, 85, 86] (by decide +kernel) (by decide +kernel)
set_option maxRecDepth 20000 in
theorem gX9_windLine_X9_takes : GoodIn wsX9_windLine (wsV RX9 169 RX9 yX9_takes wsX9_takes) := goodIn_app (goodIn_of _ (by decide +kernel)) ggX9_windLine_X9_takes
theorem dX9_windLine_0 : decode cX9_windLine 0 = .ok (.bipush 6, 2) := by decide +kernel
theorem dX9_windLine_2 : decode cX9_windLine 2 = .ok (.aload_n 0, 1) := by decide +kernel
theorem dX9_windLine_3 : decode cX9_windLine 3 = .ok (.getfield 29, 3) := by decide +kernel
theorem dX9_windLine_6 : decode cX9_windLine 6 = .ok (.iconst 1, 1) := by decide +kernel
theorem dX9_windLine_7 : decode cX9_windLine 7 = .ok (.iaload, 1) := by decide +kernel
theorem dX9_windLine_8 : decode cX9_windLine 8 = .ok (.iadd, 1) := by decide +kernel
theorem dX9_windLine_9 : decode cX9_windLine 9 = .ok (.istore_n 1, 1) := by decide +kernel
theorem dX9_windLine_10 : decode cX9_windLine 10 = .ok (.aload_n 0, 1) := by decide +kernel
theorem dX9_windLine_11 : decode cX9_windLine 11 = .ok (.aload_n 0, 1) := by decide +kernel
theorem dX9_windLine_12 : decode cX9_windLine 12 = .ok (.getfield 29, 3) := by decide +kernel
theorem dX9_windLine_15 : decode cX9_windLine 15 = .ok (.iconst 1, 1) := by decide +kernel
theorem dX9_windLine_16 : decode cX9_windLine 16 = .ok (.iaload, 1) := by decide +kernel
theorem dX9_windLine_17 : decode cX9_windLine 17 = .ok (.bipush 6, 2) := by decide +kernel
theorem dX9_windLine_19 : decode cX9_windLine 19 = .ok (.if_icmp .ge 7, 3) := by decide +kernel
theorem dX9_windLine_22 : decode cX9_windLine 22 = .ok (.iconst 1, 1) := by decide +kernel
theorem dX9_windLine_23 : decode cX9_windLine 23 = .ok (.goto 4, 3) := by decide +kernel
theorem dX9_windLine_26 : decode cX9_windLine 26 = .ok (.iconst 0, 1) := by decide +kernel
theorem dX9_windLine_27 : decode cX9_windLine 27 = .ok (.invokevirtual 165, 3) := by decide +kernel
theorem dX9_windLine_30 : decode cX9_windLine 30 = .ok (.ifCond .ne 5, 3) := by decide +kernel
theorem dX9_windLine_33 : decode cX9_windLine 33 = .ok (.iconst 0, 1) := by decide +kernel
theorem dX9_windLine_34 : decode cX9_windLine 34 = .ok (.ireturn, 1) := by decide +kernel
theorem dX9_windLine_35 : decode cX9_windLine 35 = .ok (.iconst 0, 1) := by decide +kernel
theorem dX9_windLine_36 : decode cX9_windLine 36 = .ok (.istore_n 2, 1) := by decide +kernel
theorem dX9_windLine_37 : decode cX9_windLine 37 = .ok (.iconst 0, 1) := by decide +kernel
theorem dX9_windLine_38 : decode cX9_windLine 38 = .ok (.istore_n 3, 1) := by decide +kernel
theorem dX9_windLine_39 : decode cX9_windLine 39 = .ok (.iconst 0, 1) := by decide +kernel
theorem dX9_windLine_40 : decode cX9_windLine 40 = .ok (.istore 4, 2) := by decide +kernel
theorem dX9_windLine_42 : decode cX9_windLine 42 = .ok (.aload_n 0, 1) := by decide +kernel
theorem dX9_windLine_43 : decode cX9_windLine 43 = .ok (.getfield 136, 3) := by decide +kernel
theorem dX9_windLine_46 : decode cX9_windLine 46 = .ok (.iconst 2, 1) := by decide +kernel
theorem dX9_windLine_47 : decode cX9_windLine 47 = .ok (.if_icmp .ne 120, 3) := by decide +kernel
theorem dX9_windLine_50 : decode cX9_windLine 50 = .ok (.aload_n 0, 1) := by decide +kernel
theorem dX9_windLine_51 : decode cX9_windLine 51 = .ok (.getfield 133, 3) := by decide +kernel
theorem dX9_windLine_54 : decode cX9_windLine 54 = .ok (.aload_n 0, 1) := by decide +kernel
theorem dX9_windLine_55 : decode cX9_windLine 55 = .ok (.getfield 17, 3) := by decide +kernel
theorem dX9_windLine_58 : decode cX9_windLine 58 = .ok (.iconst 1, 1) := by decide +kernel
theorem dX9_windLine_59 : decode cX9_windLine 59 = .ok (.iaload, 1) := by decide +kernel
theorem dX9_windLine_60 : decode cX9_windLine 60 = .ok (.if_icmp .ge 21, 3) := by decide +kernel
theorem dX9_windLine_63 : decode cX9_windLine 63 = .ok (.iload 4, 2) := by decide +kernel
theorem dX9_windLine_65 : decode cX9_windLine 65 = .ok (.aload_n 0, 1) := by decide +kernel
theorem dX9_windLine_66 : decode cX9_windLine 66 = .ok (.getfield 133, 3) := by decide +kernel
theorem dX9_windLine_69 : decode cX9_windLine 69 = .ok (.invokestatic 173, 3) := by decide +kernel
theorem dX9_windLine_72 : decode cX9_windLine 72 = .ok (.ifCond .eq 9, 3) := by decide +kernel
theorem dX9_windLine_75 : decode cX9_windLine 75 = .ok (.aload_n 0, 1) := by decide +kernel
theorem dX9_windLine_76 : decode cX9_windLine 76 = .ok (.iconst 2, 1) := by decide +kernel
theorem dX9_windLine_77 : decode cX9_windLine 77 = .ok (.invokevirtual 155, 3) := by decide +kernel
theorem dX9_windLine_80 : decode cX9_windLine 80 = .ok (.ireturn, 1) := by decide +kernel
theorem dX9_windLine_81 : decode cX9_windLine 81 = .ok (.aload_n 0, 1) := by decide +kernel
theorem dX9_windLine_82 : decode cX9_windLine 82 = .ok (.iconst 0, 1) := by decide +kernel
theorem dX9_windLine_83 : decode cX9_windLine 83 = .ok (.aload_n 0, 1) := by decide +kernel
theorem dX9_windLine_84 : decode cX9_windLine 84 = .ok (.getfield 17, 3) := by decide +kernel
theorem dX9_windLine_87 : decode cX9_windLine 87 = .ok (.iconst 1, 1) := by decide +kernel
theorem dX9_windLine_88 : decode cX9_windLine 88 = .ok (.iaload, 1) := by decide +kernel
theorem dX9_windLine_89 : decode cX9_windLine 89 = .ok (.iconst 1, 1) := by decide +kernel
theorem dX9_windLine_90 : decode cX9_windLine 90 = .ok (.isub, 1) := by decide +kernel
theorem dX9_windLine_91 : decode cX9_windLine 91 = .ok (.invokevirtual 169, 3) := by decide +kernel
theorem dX9_windLine_94 : decode cX9_windLine 94 = .ok (.ifCond .ne 5, 3) := by decide +kernel
theorem dX9_windLine_97 : decode cX9_windLine 97 = .ok (.iconst 0, 1) := by decide +kernel
theorem dX9_windLine_98 : decode cX9_windLine 98 = .ok (.ireturn, 1) := by decide +kernel
theorem dX9_windLine_99 : decode cX9_windLine 99 = .ok (.iload 4, 2) := by decide +kernel
theorem dX9_windLine_101 : decode cX9_windLine 101 = .ok (.iconst 1, 1) := by decide +kernel
theorem dX9_windLine_102 : decode cX9_windLine 102 = .ok (.aload_n 0, 1) := by decide +kernel
theorem dX9_windLine_103 : decode cX9_windLine 103 = .ok (.getfield 159, 3) := by decide +kernel
theorem dX9_windLine_106 : decode cX9_windLine 106 = .ok (.ishl, 1) := by decide +kernel
theorem dX9_windLine_107 : decode cX9_windLine 107 = .ok (.ior, 1) := by decide +kernel
theorem dX9_windLine_108 : decode cX9_windLine 108 = .ok (.istore 4, 2) := by decide +kernel
theorem dX9_windLine_110 : decode cX9_windLine 110 = .ok (.aload_n 0, 1) := by decide +kernel
theorem dX9_windLine_111 : decode cX9_windLine 111 = .ok (.getfield 35, 3) := by decide +kernel
theorem dX9_windLine_114 : decode cX9_windLine 114 = .ok (.bipush 8, 2) := by decide +kernel
theorem dX9_windLine_116 : decode cX9_windLine 116 = .ok (.iload_n 1, 1) := by decide +kernel
theorem dX9_windLine_117 : decode cX9_windLine 117 = .ok (.imul, 1) := by decide +kernel
theorem dX9_windLine_118 : decode cX9_windLine 118 = .ok (.iload_n 2, 1) := by decide +kernel
theorem dX9_windLine_119 : decode cX9_windLine 119 = .ok (.iadd, 1) := by decide +kernel
theorem dX9_windLine_120 : decode cX9_windLine 120 = .ok (.aload_n 0, 1) := by decide +kernel
theorem dX9_windLine_121 : decode cX9_windLine 121 = .ok (.getfield 159, 3) := by decide +kernel
theorem dX9_windLine_124 : decode cX9_windLine 124 = .ok (.iastore, 1) := by decide +kernel
theorem dX9_windLine_125 : decode cX9_windLine 125 = .ok (.aload_n 0, 1) := by decide +kernel
theorem dX9_windLine_126 : decode cX9_windLine 126 = .ok (.iconst 1, 1) := by decide +kernel
theorem dX9_windLine_127 : decode cX9_windLine 127 = .ok (.bipush 10, 2) := by decide +kernel
theorem dX9_windLine_129 : decode cX9_windLine 129 = .ok (.iload_n 3, 1) := by decide +kernel
theorem dX9_windLine_130 : decode cX9_windLine 130 = .ok (.isub, 1) := by decide +kernel
theorem dX9_windLine_131 : decode cX9_windLine 131 = .ok (.invokevirtual 169, 3) := by decide +kernel
theorem dX9_windLine_134 : decode cX9_windLine 134 = .ok (.ifCond .ne 5, 3) := by decide +kernel
theorem dX9_windLine_137 : decode cX9_windLine 137 = .ok (.iconst 0, 1) := by decide +kernel
