theorem dX9_windLine_138 : decode cX9_windLine 138 = .ok (.ireturn, 1) := by decide +kernel
theorem dX9_windLine_139 : decode cX9_windLine 139 = .ok (.aload_n 0, 1) := by decide +kernel
theorem dX9_windLine_140 : decode cX9_windLine 140 = .ok (.getfield 38, 3) := by decide +kernel
theorem dX9_windLine_143 : decode cX9_windLine 143 = .ok (.bipush 8, 2) := by decide +kernel
theorem dX9_windLine_145 : decode cX9_windLine 145 = .ok (.iload_n 1, 1) := by decide +kernel
theorem dX9_windLine_146 : decode cX9_windLine 146 = .ok (.imul, 1) := by decide +kernel
theorem dX9_windLine_147 : decode cX9_windLine 147 = .ok (.iload_n 2, 1) := by decide +kernel
theorem dX9_windLine_148 : decode cX9_windLine 148 = .ok (.iadd, 1) := by decide +kernel
theorem dX9_windLine_149 : decode cX9_windLine 149 = .ok (.aload_n 0, 1) := by decide +kernel
theorem dX9_windLine_150 : decode cX9_windLine 150 = .ok (.getfield 159, 3) := by decide +kernel
theorem dX9_windLine_153 : decode cX9_windLine 153 = .ok (.iastore, 1) := by decide +kernel
theorem dX9_windLine_154 : decode cX9_windLine 154 = .ok (.iload_n 3, 1) := by decide +kernel
theorem dX9_windLine_155 : decode cX9_windLine 155 = .ok (.aload_n 0, 1) := by decide +kernel
theorem dX9_windLine_156 : decode cX9_windLine 156 = .ok (.getfield 159, 3) := by decide +kernel
theorem dX9_windLine_159 : decode cX9_windLine 159 = .ok (.iadd, 1) := by decide +kernel
theorem dX9_windLine_160 : decode cX9_windLine 160 = .ok (.istore_n 3, 1) := by decide +kernel
theorem dX9_windLine_161 : decode cX9_windLine 161 = .ok (.iinc 2 1, 3) := by decide +kernel
theorem dX9_windLine_164 : decode cX9_windLine 164 = .ok (.goto (-122), 3) := by decide +kernel
theorem dX9_windLine_167 : decode cX9_windLine 167 = .ok (.aload_n 0, 1) := by decide +kernel
theorem dX9_windLine_168 : decode cX9_windLine 168 = .ok (.getfield 32, 3) := by decide +kernel
theorem dX9_windLine_171 : decode cX9_windLine 171 = .ok (.iload_n 1, 1) := by decide +kernel
theorem dX9_windLine_172 : decode cX9_windLine 172 = .ok (.iload_n 2, 1) := by decide +kernel
theorem dX9_windLine_173 : decode cX9_windLine 173 = .ok (.iastore, 1) := by decide +kernel
theorem dX9_windLine_174 : decode cX9_windLine 174 = .ok (.aload_n 0, 1) := by decide +kernel
theorem dX9_windLine_175 : decode cX9_windLine 175 = .ok (.getfield 29, 3) := by decide +kernel
theorem dX9_windLine_178 : decode cX9_windLine 178 = .ok (.iconst 1, 1) := by decide +kernel
theorem dX9_windLine_179 : decode cX9_windLine 179 = .ok (.dup2, 1) := by decide +kernel
theorem dX9_windLine_180 : decode cX9_windLine 180 = .ok (.iaload, 1) := by decide +kernel
theorem dX9_windLine_181 : decode cX9_windLine 181 = .ok (.iconst 1, 1) := by decide +kernel
theorem dX9_windLine_182 : decode cX9_windLine 182 = .ok (.iadd, 1) := by decide +kernel
theorem dX9_windLine_183 : decode cX9_windLine 183 = .ok (.iastore, 1) := by decide +kernel
theorem dX9_windLine_184 : decode cX9_windLine 184 = .ok (.iconst 1, 1) := by decide +kernel
theorem dX9_windLine_185 : decode cX9_windLine 185 = .ok (.ireturn, 1) := by decide +kernel
set_option maxRecDepth 20000 in
theorem ggX9_turnLine_X9_opens : GoodIn wsX9_turnLine wsX9_opens := goodIn_r _ [13, 14, 15, 16, 12, 17, 18, 19, 20, 21, 22, 23, 24, 25, 5, 4, 26, 27, 28, 29, 30, 31, 32, 33, 34, 39, 40, 41, 42, 43, 44, 45, 46, 47, 48, 49, 50, 51, 52, 53, 54, 55, 56, 57, 58, 59, 60, 61, 62, 63, 64, 65, 66, 67, 68, 69, 70, 71, 72, 73, 74, 75, 76, 77, 78, 79, 80, 81, 82, 83] (by decide +kernel) (by decide +kernel)
set_option maxRecDepth 20000 in
theorem gX9_turnLine_X9_opens : GoodIn wsX9_turnLine (wsV RX9 165 RX9 yX9_opens wsX9_opens) := goodIn_app (goodIn_of _ (by decide +kernel)) ggX9_turnLine_X9_opens
set_option maxRecDepth 20000 in
theorem ggX9_turnLine_X9_takes : GoodIn wsX9_turnLine wsX9_takes := goodIn_r _ [38, 4, 5, 3, 14, 15, 16, 12, 17, 18, 19, 20, 32, 33, 34, 21, 22, 23, 24, 25, 26, 27, 28, 29, 30, 31, 39, 40, 41, 42, 43, 44, 45, 46, 47, 48, 49, 50, 51, 52, 53, 54, 55, 56, 57, 58, 59, 60, 61, 62, 63, 64, 65, 66, 67, 68, 69, 70, 71, 72, 73, 74, 75, 76, 77, 78, 79, 80, 81, 82, 83] (by decide +kernel) (by decide +kernel)
set_option maxRecDepth 20000 in
theorem gX9_turnLine_X9_takes : GoodIn wsX9_turnLine (wsV RX9 169 RX9 yX9_takes wsX9_takes) := goodIn_app (goodIn_of _ (by decide +kernel)) ggX9_turnLine_X9_takes
set_option maxRecDepth 20000 in
theorem ggX9_turnLine_X9_fails : GoodIn wsX9_turnLine wsX9_fails := goodIn_r _ [17, 18, 19, 20, 39, 40, 41, 42, 43, 44, 45, 46, 47, 48, 49, 50, 51, 52, 53, 54, 55, 56, 57, 58, 59, 60, 61, 62, 63, 64, 65, 66, 67, 68, 69, 70, 71, 72, 73, 74, 75, 76, 77, 78, 79, 80, 81, 82, 83] (by decide +kernel) (by decide +kernel)
set_option maxRecDepth 20000 in
theorem gX9_turnLine_X9_fails : GoodIn wsX9_turnLine (wsV RX9 155 RX9 yX9_fails wsX9_fails) := goodIn_app (goodIn_of _ (by decide +kernel)) ggX9_turnLine_X9_fails
theorem dX9_turnLine_0 : decode cX9_turnLine 0 = .ok (.bipush 30, 2) := by decide +kernel
theorem dX9_turnLine_2 : decode cX9_turnLine 2 = .ok (.aload_n 0, 1) := by decide +kernel
theorem dX9_turnLine_3 : decode cX9_turnLine 3 = .ok (.getfield 41, 3) := by decide +kernel
theorem dX9_turnLine_6 : decode cX9_turnLine 6 = .ok (.iconst 1, 1) := by decide +kernel
theorem dX9_turnLine_7 : decode cX9_turnLine 7 = .ok (.iaload, 1) := by decide +kernel
theorem dX9_turnLine_8 : decode cX9_turnLine 8 = .ok (.iadd, 1) := by decide +kernel
theorem dX9_turnLine_9 : decode cX9_turnLine 9 = .ok (.istore_n 1, 1) := by decide +kernel
theorem dX9_turnLine_10 : decode cX9_turnLine 10 = .ok (.aload_n 0, 1) := by decide +kernel
theorem dX9_turnLine_11 : decode cX9_turnLine 11 = .ok (.aload_n 0, 1) := by decide +kernel
theorem dX9_turnLine_12 : decode cX9_turnLine 12 = .ok (.getfield 41, 3) := by decide +kernel
theorem dX9_turnLine_15 : decode cX9_turnLine 15 = .ok (.iconst 1, 1) := by decide +kernel
theorem dX9_turnLine_16 : decode cX9_turnLine 16 = .ok (.iaload, 1) := by decide +kernel
theorem dX9_turnLine_17 : decode cX9_turnLine 17 = .ok (.bipush 30, 2) := by decide +kernel
theorem dX9_turnLine_19 : decode cX9_turnLine 19 = .ok (.if_icmp .ge 7, 3) := by decide +kernel
theorem dX9_turnLine_22 : decode cX9_turnLine 22 = .ok (.iconst 1, 1) := by decide +kernel
theorem dX9_turnLine_23 : decode cX9_turnLine 23 = .ok (.goto 4, 3) := by decide +kernel
theorem dX9_turnLine_26 : decode cX9_turnLine 26 = .ok (.iconst 0, 1) := by decide +kernel
theorem dX9_turnLine_27 : decode cX9_turnLine 27 = .ok (.invokevirtual 165, 3) := by decide +kernel
theorem dX9_turnLine_30 : decode cX9_turnLine 30 = .ok (.ifCond .eq 19, 3) := by decide +kernel
theorem dX9_turnLine_33 : decode cX9_turnLine 33 = .ok (.aload_n 0, 1) := by decide +kernel
theorem dX9_turnLine_34 : decode cX9_turnLine 34 = .ok (.iconst 0, 1) := by decide +kernel
theorem dX9_turnLine_35 : decode cX9_turnLine 35 = .ok (.aload_n 0, 1) := by decide +kernel
theorem dX9_turnLine_36 : decode cX9_turnLine 36 = .ok (.getfield 29, 3) := by decide +kernel
theorem dX9_turnLine_39 : decode cX9_turnLine 39 = .ok (.iconst 1, 1) := by decide +kernel
theorem dX9_turnLine_40 : decode cX9_turnLine 40 = .ok (.iaload, 1) := by decide +kernel
theorem dX9_turnLine_41 : decode cX9_turnLine 41 = .ok (.iconst 1, 1) := by decide +kernel
theorem dX9_turnLine_42 : decode cX9_turnLine 42 = .ok (.isub, 1) := by decide +kernel
theorem dX9_turnLine_43 : decode cX9_turnLine 43 = .ok (.invokevirtual 169, 3) := by decide +kernel
theorem dX9_turnLine_46 : decode cX9_turnLine 46 = .ok (.ifCond .ne 5, 3) := by decide +kernel
theorem dX9_turnLine_49 : decode cX9_turnLine 49 = .ok (.iconst 0, 1) := by decide +kernel
theorem dX9_turnLine_50 : decode cX9_turnLine 50 = .ok (.ireturn, 1) := by decide +kernel
theorem dX9_turnLine_51 : decode cX9_turnLine 51 = .ok (.aload_n 0, 1) := by decide +kernel
theorem dX9_turnLine_52 : decode cX9_turnLine 52 = .ok (.getfield 159, 3) := by decide +kernel
theorem dX9_turnLine_55 : decode cX9_turnLine 55 = .ok (.istore_n 2, 1) := by decide +kernel
theorem dX9_turnLine_56 : decode cX9_turnLine 56 = .ok (.iconst 0, 1) := by decide +kernel
theorem dX9_turnLine_57 : decode cX9_turnLine 57 = .ok (.istore_n 3, 1) := by decide +kernel
theorem dX9_turnLine_58 : decode cX9_turnLine 58 = .ok (.aload_n 0, 1) := by decide +kernel
theorem dX9_turnLine_59 : decode cX9_turnLine 59 = .ok (.getfield 136, 3) := by decide +kernel
theorem dX9_turnLine_62 : decode cX9_turnLine 62 = .ok (.iconst 2, 1) := by decide +kernel
theorem dX9_turnLine_63 : decode cX9_turnLine 63 = .ok (.if_icmp .ne 15, 3) := by decide +kernel
theorem dX9_turnLine_66 : decode cX9_turnLine 66 = .ok (.aload_n 0, 1) := by decide +kernel
theorem dX9_turnLine_67 : decode cX9_turnLine 67 = .ok (.getfield 133, 3) := by decide +kernel
theorem dX9_turnLine_70 : decode cX9_turnLine 70 = .ok (.iload_n 2, 1) := by decide +kernel
theorem dX9_turnLine_71 : decode cX9_turnLine 71 = .ok (.if_icmp .ne 7, 3) := by decide +kernel
theorem dX9_turnLine_74 : decode cX9_turnLine 74 = .ok (.iconst 1, 1) := by decide +kernel
theorem dX9_turnLine_75 : decode cX9_turnLine 75 = .ok (.goto 4, 3) := by decide +kernel
theorem dX9_turnLine_78 : decode cX9_turnLine 78 = .ok (.iconst 0, 1) := by decide +kernel
theorem dX9_turnLine_79 : decode cX9_turnLine 79 = .ok (.istore 4, 2) := by decide +kernel
theorem dX9_turnLine_81 : decode cX9_turnLine 81 = .ok (.bipush 30, 2) := by decide +kernel
theorem dX9_turnLine_83 : decode cX9_turnLine 83 = .ok (.istore 5, 2) := by decide +kernel
theorem dX9_turnLine_85 : decode cX9_turnLine 85 = .ok (.iload 5, 2) := by decide +kernel
theorem dX9_turnLine_87 : decode cX9_turnLine 87 = .ok (.iload_n 1, 1) := by decide +kernel
theorem dX9_turnLine_88 : decode cX9_turnLine 88 = .ok (.if_icmp .ge 79, 3) := by decide +kernel
theorem dX9_turnLine_91 : decode cX9_turnLine 91 = .ok (.iload 4, 2) := by decide +kernel
theorem dX9_turnLine_93 : decode cX9_turnLine 93 = .ok (.ifCond .ne 36, 3) := by decide +kernel
theorem dX9_turnLine_96 : decode cX9_turnLine 96 = .ok (.aload_n 0, 1) := by decide +kernel
theorem dX9_turnLine_97 : decode cX9_turnLine 97 = .ok (.getfield 136, 3) := by decide +kernel
theorem dX9_turnLine_100 : decode cX9_turnLine 100 = .ok (.iconst 2, 1) := by decide +kernel
theorem dX9_turnLine_101 : decode cX9_turnLine 101 = .ok (.if_icmp .ne 32, 3) := by decide +kernel
theorem dX9_turnLine_104 : decode cX9_turnLine 104 = .ok (.aload_n 0, 1) := by decide +kernel
theorem dX9_turnLine_105 : decode cX9_turnLine 105 = .ok (.getfield 44, 3) := by decide +kernel
theorem dX9_turnLine_108 : decode cX9_turnLine 108 = .ok (.iload 5, 2) := by decide +kernel
theorem dX9_turnLine_110 : decode cX9_turnLine 110 = .ok (.iaload, 1) := by decide +kernel
theorem dX9_turnLine_111 : decode cX9_turnLine 111 = .ok (.iload_n 2, 1) := by decide +kernel
theorem dX9_turnLine_112 : decode cX9_turnLine 112 = .ok (.if_icmp .ne 21, 3) := by decide +kernel
theorem dX9_turnLine_115 : decode cX9_turnLine 115 = .ok (.aload_n 0, 1) := by decide +kernel
theorem dX9_turnLine_116 : decode cX9_turnLine 116 = .ok (.getfield 47, 3) := by decide +kernel
theorem dX9_turnLine_119 : decode cX9_turnLine 119 = .ok (.iload 5, 2) := by decide +kernel
theorem dX9_turnLine_121 : decode cX9_turnLine 121 = .ok (.iaload, 1) := by decide +kernel
theorem dX9_turnLine_122 : decode cX9_turnLine 122 = .ok (.aload_n 0, 1) := by decide +kernel
theorem dX9_turnLine_123 : decode cX9_turnLine 123 = .ok (.getfield 133, 3) := by decide +kernel
theorem dX9_turnLine_126 : decode cX9_turnLine 126 = .ok (.if_icmp .ne 7, 3) := by decide +kernel
theorem dX9_turnLine_129 : decode cX9_turnLine 129 = .ok (.iconst 1, 1) := by decide +kernel
theorem dX9_turnLine_130 : decode cX9_turnLine 130 = .ok (.goto 4, 3) := by decide +kernel
theorem dX9_turnLine_133 : decode cX9_turnLine 133 = .ok (.iconst 0, 1) := by decide +kernel
theorem dX9_turnLine_134 : decode cX9_turnLine 134 = .ok (.istore 4, 2) := by decide +kernel
theorem dX9_turnLine_136 : decode cX9_turnLine 136 = .ok (.iload_n 3, 1) := by decide +kernel
theorem dX9_turnLine_137 : decode cX9_turnLine 137 = .ok (.aload_n 0, 1) := by decide +kernel
theorem dX9_turnLine_138 : decode cX9_turnLine 138 = .ok (.getfield 44, 3) := by decide +kernel
theorem dX9_turnLine_141 : decode cX9_turnLine 141 = .ok (.iload 5, 2) := by decide +kernel
theorem dX9_turnLine_143 : decode cX9_turnLine 143 = .ok (.iaload, 1) := by decide +kernel
theorem dX9_turnLine_144 : decode cX9_turnLine 144 = .ok (.iload_n 2, 1) := by decide +kernel
theorem dX9_turnLine_145 : decode cX9_turnLine 145 = .ok (.if_icmp .ne 13, 3) := by decide +kernel
theorem dX9_turnLine_148 : decode cX9_turnLine 148 = .ok (.aload_n 0, 1) := by decide +kernel
theorem dX9_turnLine_149 : decode cX9_turnLine 149 = .ok (.getfield 50, 3) := by decide +kernel
theorem dX9_turnLine_152 : decode cX9_turnLine 152 = .ok (.iload 5, 2) := by decide +kernel
theorem dX9_turnLine_154 : decode cX9_turnLine 154 = .ok (.iaload, 1) := by decide +kernel
theorem dX9_turnLine_155 : decode cX9_turnLine 155 = .ok (.goto 4, 3) := by decide +kernel
theorem dX9_turnLine_158 : decode cX9_turnLine 158 = .ok (.iconst 0, 1) := by decide +kernel
theorem dX9_turnLine_159 : decode cX9_turnLine 159 = .ok (.iadd, 1) := by decide +kernel
theorem dX9_turnLine_160 : decode cX9_turnLine 160 = .ok (.istore_n 3, 1) := by decide +kernel
theorem dX9_turnLine_161 : decode cX9_turnLine 161 = .ok (.iinc 5 1, 3) := by decide +kernel
theorem dX9_turnLine_164 : decode cX9_turnLine 164 = .ok (.goto (-79), 3) := by decide +kernel
theorem dX9_turnLine_167 : decode cX9_turnLine 167 = .ok (.iload 4, 2) := by decide +kernel
theorem dX9_turnLine_169 : decode cX9_turnLine 169 = .ok (.ifCond .eq 9, 3) := by decide +kernel
theorem dX9_turnLine_172 : decode cX9_turnLine 172 = .ok (.aload_n 0, 1) := by decide +kernel
theorem dX9_turnLine_173 : decode cX9_turnLine 173 = .ok (.iconst 2, 1) := by decide +kernel
theorem dX9_turnLine_174 : decode cX9_turnLine 174 = .ok (.invokevirtual 155, 3) := by decide +kernel
theorem dX9_turnLine_177 : decode cX9_turnLine 177 = .ok (.ireturn, 1) := by decide +kernel
theorem dX9_turnLine_178 : decode cX9_turnLine 178 = .ok (.aload_n 0, 1) := by decide +kernel
theorem dX9_turnLine_179 : decode cX9_turnLine 179 = .ok (.iconst 0, 1) := by decide +kernel
theorem dX9_turnLine_180 : decode cX9_turnLine 180 = .ok (.aload_n 0, 1) := by decide +kernel
theorem dX9_turnLine_181 : decode cX9_turnLine 181 = .ok (.getfield 29, 3) := by decide +kernel
theorem dX9_turnLine_184 : decode cX9_turnLine 184 = .ok (.iconst 1, 1) := by decide +kernel
theorem dX9_turnLine_185 : decode cX9_turnLine 185 = .ok (.iaload, 1) := by decide +kernel
theorem dX9_turnLine_186 : decode cX9_turnLine 186 = .ok (.iconst 1, 1) := by decide +kernel
theorem dX9_turnLine_187 : decode cX9_turnLine 187 = .ok (.isub, 1) := by decide +kernel
theorem dX9_turnLine_188 : decode cX9_turnLine 188 = .ok (.invokevirtual 169, 3) := by decide +kernel
theorem dX9_turnLine_191 : decode cX9_turnLine 191 = .ok (.ifCond .ne 5, 3) := by decide +kernel
theorem dX9_turnLine_194 : decode cX9_turnLine 194 = .ok (.iconst 0, 1) := by decide +kernel
theorem dX9_turnLine_195 : decode cX9_turnLine 195 = .ok (.ireturn, 1) := by decide +kernel
theorem dX9_turnLine_196 : decode cX9_turnLine 196 = .ok (.aload_n 0, 1) := by decide +kernel
theorem dX9_turnLine_197 : decode cX9_turnLine 197 = .ok (.getfield 44, 3) := by decide +kernel
theorem dX9_turnLine_200 : decode cX9_turnLine 200 = .ok (.iload_n 1, 1) := by decide +kernel
theorem dX9_turnLine_201 : decode cX9_turnLine 201 = .ok (.iload_n 2, 1) := by decide +kernel
theorem dX9_turnLine_202 : decode cX9_turnLine 202 = .ok (.iastore, 1) := by decide +kernel
theorem dX9_turnLine_203 : decode cX9_turnLine 203 = .ok (.aload_n 0, 1) := by decide +kernel
theorem dX9_turnLine_204 : decode cX9_turnLine 204 = .ok (.getfield 47, 3) := by decide +kernel
theorem dX9_turnLine_207 : decode cX9_turnLine 207 = .ok (.iload_n 1, 1) := by decide +kernel
theorem dX9_turnLine_208 : decode cX9_turnLine 208 = .ok (.aload_n 0, 1) := by decide +kernel
theorem dX9_turnLine_209 : decode cX9_turnLine 209 = .ok (.getfield 159, 3) := by decide +kernel
theorem dX9_turnLine_212 : decode cX9_turnLine 212 = .ok (.iastore, 1) := by decide +kernel
theorem dX9_turnLine_213 : decode cX9_turnLine 213 = .ok (.aload_n 0, 1) := by decide +kernel
theorem dX9_turnLine_214 : decode cX9_turnLine 214 = .ok (.iconst 1, 1) := by decide +kernel
theorem dX9_turnLine_215 : decode cX9_turnLine 215 = .ok (.bipush 10, 2) := by decide +kernel
theorem dX9_turnLine_217 : decode cX9_turnLine 217 = .ok (.iload_n 3, 1) := by decide +kernel
theorem dX9_turnLine_218 : decode cX9_turnLine 218 = .ok (.isub, 1) := by decide +kernel
theorem dX9_turnLine_219 : decode cX9_turnLine 219 = .ok (.invokevirtual 169, 3) := by decide +kernel
theorem dX9_turnLine_222 : decode cX9_turnLine 222 = .ok (.ifCond .ne 5, 3) := by decide +kernel
theorem dX9_turnLine_225 : decode cX9_turnLine 225 = .ok (.iconst 0, 1) := by decide +kernel
theorem dX9_turnLine_226 : decode cX9_turnLine 226 = .ok (.ireturn, 1) := by decide +kernel
theorem dX9_turnLine_227 : decode cX9_turnLine 227 = .ok (.aload_n 0, 1) := by decide +kernel
theorem dX9_turnLine_228 : decode cX9_turnLine 228 = .ok (.getfield 50, 3) := by decide +kernel
theorem dX9_turnLine_231 : decode cX9_turnLine 231 = .ok (.iload_n 1, 1) := by decide +kernel
theorem dX9_turnLine_232 : decode cX9_turnLine 232 = .ok (.aload_n 0, 1) := by decide +kernel
theorem dX9_turnLine_233 : decode cX9_turnLine 233 = .ok (.getfield 159, 3) := by decide +kernel
theorem dX9_turnLine_236 : decode cX9_turnLine 236 = .ok (.iastore, 1) := by decide +kernel
theorem dX9_turnLine_237 : decode cX9_turnLine 237 = .ok (.aload_n 0, 1) := by decide +kernel
theorem dX9_turnLine_238 : decode cX9_turnLine 238 = .ok (.getfield 41, 3) := by decide +kernel
theorem dX9_turnLine_241 : decode cX9_turnLine 241 = .ok (.iconst 1, 1) := by decide +kernel
theorem dX9_turnLine_242 : decode cX9_turnLine 242 = .ok (.dup2, 1) := by decide +kernel
theorem dX9_turnLine_243 : decode cX9_turnLine 243 = .ok (.iaload, 1) := by decide +kernel
theorem dX9_turnLine_244 : decode cX9_turnLine 244 = .ok (.iconst 1, 1) := by decide +kernel
theorem dX9_turnLine_245 : decode cX9_turnLine 245 = .ok (.iadd, 1) := by decide +kernel
theorem dX9_turnLine_246 : decode cX9_turnLine 246 = .ok (.iastore, 1) := by decide +kernel
theorem dX9_turnLine_247 : decode cX9_turnLine 247 = .ok (.iconst 1, 1) := by decide +kernel
theorem dX9_turnLine_248 : decode cX9_turnLine 248 = .ok (.ireturn, 1) := by decide +kernel
set_option maxRecDepth 20000 in
theorem ggX9_balloonLine_X9_opens : GoodIn wsX9_balloonLine wsX9_opens := goodIn_r _ [9, 10, 11, 12, 8, 13, 14, 15, 16, 17, 18, 19, 20, 21, 22, 23, 24, 25, 26, 27, 28, 29, 30, 31, 32, 37, 38, 39, 40, 41, 42, 43, 44, 45, 46, 47, 48, 49, 50, 51, 52, 53, 54, 55, 56, 57, 58, 59, 60, 61, 62, 63, 64, 65, 66, 67, 68, 69, 70, 71, 72, 73, 74, 75, 76, 77, 78, 79, 80, 81] (by decide +kernel) (by decide +kernel)
set_option maxRecDepth 20000 in
theorem gX9_balloonLine_X9_opens : GoodIn wsX9_balloonLine (wsV RX9 165 RX9 yX9_opens wsX9_opens) := goodIn_app (goodIn_of _ (by decide +kernel)) ggX9_balloonLine_X9_opens
set_option maxRecDepth 20000 in
theorem ggX9_balloonLine_X9_takes : GoodIn wsX9_balloonLine wsX9_takes := goodIn_r _ [36, 23, 22, 3, 10, 11, 12, 8, 13, 14, 15, 16, 30, 31, 32, 17, 18, 19, 20, 21, 24, 25, 26, 27, 28, 29, 37, 38, 39, 40, 41, 42, 43, 44, 45, 46, 47, 48, 49, 50, 51, 52, 53, 54, 55, 56, 57, 58, 59, 60, 61, 62, 63, 64, 65, 66, 67, 68, 69, 70, 71, 72, 73, 74, 75, 76, 77, 78, 79, 80, 81] (by decide +kernel) (by decide +kernel)
set_option maxRecDepth 20000 in
theorem gX9_balloonLine_X9_takes : GoodIn wsX9_balloonLine (wsV RX9 169 RX9 yX9_takes wsX9_takes) := goodIn_app (goodIn_of _ (by decide +kernel)) ggX9_balloonLine_X9_takes
theorem dX9_balloonLine_0 : decode cX9_balloonLine 0 = .ok (.bipush 10, 2) := by decide +kernel
theorem dX9_balloonLine_2 : decode cX9_balloonLine 2 = .ok (.aload_n 0, 1) := by decide +kernel
theorem dX9_balloonLine_3 : decode cX9_balloonLine 3 = .ok (.getfield 53, 3) := by decide +kernel
theorem dX9_balloonLine_6 : decode cX9_balloonLine 6 = .ok (.iconst 1, 1) := by decide +kernel
theorem dX9_balloonLine_7 : decode cX9_balloonLine 7 = .ok (.iaload, 1) := by decide +kernel
theorem dX9_balloonLine_8 : decode cX9_balloonLine 8 = .ok (.iadd, 1) := by decide +kernel
theorem dX9_balloonLine_9 : decode cX9_balloonLine 9 = .ok (.istore_n 1, 1) := by decide +kernel
theorem dX9_balloonLine_10 : decode cX9_balloonLine 10 = .ok (.aload_n 0, 1) := by decide +kernel
theorem dX9_balloonLine_11 : decode cX9_balloonLine 11 = .ok (.aload_n 0, 1) := by decide +kernel
theorem dX9_balloonLine_12 : decode cX9_balloonLine 12 = .ok (.getfield 53, 3) := by decide +kernel
theorem dX9_balloonLine_15 : decode cX9_balloonLine 15 = .ok (.iconst 1, 1) := by decide +kernel
theorem dX9_balloonLine_16 : decode cX9_balloonLine 16 = .ok (.iaload, 1) := by decide +kernel
theorem dX9_balloonLine_17 : decode cX9_balloonLine 17 = .ok (.bipush 10, 2) := by decide +kernel
theorem dX9_balloonLine_19 : decode cX9_balloonLine 19 = .ok (.if_icmp .ge 7, 3) := by decide +kernel
theorem dX9_balloonLine_22 : decode cX9_balloonLine 22 = .ok (.iconst 1, 1) := by decide +kernel
theorem dX9_balloonLine_23 : decode cX9_balloonLine 23 = .ok (.goto 4, 3) := by decide +kernel
theorem dX9_balloonLine_26 : decode cX9_balloonLine 26 = .ok (.iconst 0, 1) := by decide +kernel
theorem dX9_balloonLine_27 : decode cX9_balloonLine 27 = .ok (.invokevirtual 165, 3) := by decide +kernel
theorem dX9_balloonLine_30 : decode cX9_balloonLine 30 = .ok (.ifCond .eq 14, 3) := by decide +kernel
theorem dX9_balloonLine_33 : decode cX9_balloonLine 33 = .ok (.aload_n 0, 1) := by decide +kernel
theorem dX9_balloonLine_34 : decode cX9_balloonLine 34 = .ok (.iconst 1, 1) := by decide +kernel
theorem dX9_balloonLine_35 : decode cX9_balloonLine 35 = .ok (.sipush 999, 3) := by decide +kernel
theorem dX9_balloonLine_38 : decode cX9_balloonLine 38 = .ok (.invokevirtual 169, 3) := by decide +kernel
theorem dX9_balloonLine_41 : decode cX9_balloonLine 41 = .ok (.ifCond .ne 5, 3) := by decide +kernel
theorem dX9_balloonLine_44 : decode cX9_balloonLine 44 = .ok (.iconst 0, 1) := by decide +kernel
theorem dX9_balloonLine_45 : decode cX9_balloonLine 45 = .ok (.ireturn, 1) := by decide +kernel
theorem dX9_balloonLine_46 : decode cX9_balloonLine 46 = .ok (.aload_n 0, 1) := by decide +kernel
theorem dX9_balloonLine_47 : decode cX9_balloonLine 47 = .ok (.getfield 56, 3) := by decide +kernel
theorem dX9_balloonLine_50 : decode cX9_balloonLine 50 = .ok (.iload_n 1, 1) := by decide +kernel
theorem dX9_balloonLine_51 : decode cX9_balloonLine 51 = .ok (.aload_n 0, 1) := by decide +kernel
theorem dX9_balloonLine_52 : decode cX9_balloonLine 52 = .ok (.getfield 159, 3) := by decide +kernel
theorem dX9_balloonLine_55 : decode cX9_balloonLine 55 = .ok (.iastore, 1) := by decide +kernel
theorem dX9_balloonLine_56 : decode cX9_balloonLine 56 = .ok (.aload_n 0, 1) := by decide +kernel
theorem dX9_balloonLine_57 : decode cX9_balloonLine 57 = .ok (.iconst 0, 1) := by decide +kernel
theorem dX9_balloonLine_58 : decode cX9_balloonLine 58 = .ok (.iconst 4, 1) := by decide +kernel
theorem dX9_balloonLine_59 : decode cX9_balloonLine 59 = .ok (.invokevirtual 169, 3) := by decide +kernel
theorem dX9_balloonLine_62 : decode cX9_balloonLine 62 = .ok (.ifCond .ne 5, 3) := by decide +kernel
theorem dX9_balloonLine_65 : decode cX9_balloonLine 65 = .ok (.iconst 0, 1) := by decide +kernel
theorem dX9_balloonLine_66 : decode cX9_balloonLine 66 = .ok (.ireturn, 1) := by decide +kernel
theorem dX9_balloonLine_67 : decode cX9_balloonLine 67 = .ok (.aload_n 0, 1) := by decide +kernel
theorem dX9_balloonLine_68 : decode cX9_balloonLine 68 = .ok (.getfield 59, 3) := by decide +kernel
theorem dX9_balloonLine_71 : decode cX9_balloonLine 71 = .ok (.iload_n 1, 1) := by decide +kernel
theorem dX9_balloonLine_72 : decode cX9_balloonLine 72 = .ok (.aload_n 0, 1) := by decide +kernel
theorem dX9_balloonLine_73 : decode cX9_balloonLine 73 = .ok (.getfield 159, 3) := by decide +kernel
theorem dX9_balloonLine_76 : decode cX9_balloonLine 76 = .ok (.iastore, 1) := by decide +kernel
theorem dX9_balloonLine_77 : decode cX9_balloonLine 77 = .ok (.aload_n 0, 1) := by decide +kernel
theorem dX9_balloonLine_78 : decode cX9_balloonLine 78 = .ok (.getfield 53, 3) := by decide +kernel
theorem dX9_balloonLine_81 : decode cX9_balloonLine 81 = .ok (.iconst 1, 1) := by decide +kernel
theorem dX9_balloonLine_82 : decode cX9_balloonLine 82 = .ok (.dup2, 1) := by decide +kernel
theorem dX9_balloonLine_83 : decode cX9_balloonLine 83 = .ok (.iaload, 1) := by decide +kernel
theorem dX9_balloonLine_84 : decode cX9_balloonLine 84 = .ok (.iconst 1, 1) := by decide +kernel
theorem dX9_balloonLine_85 : decode cX9_balloonLine 85 = .ok (.iadd, 1) := by decide +kernel
theorem dX9_balloonLine_86 : decode cX9_balloonLine 86 = .ok (.iastore, 1) := by decide +kernel
theorem dX9_balloonLine_87 : decode cX9_balloonLine 87 = .ok (.iconst 1, 1) := by decide +kernel
theorem dX9_balloonLine_88 : decode cX9_balloonLine 88 = .ok (.ireturn, 1) := by decide +kernel
set_option maxRecDepth 20000 in
theorem ggX9_letterLine_X9_opens : GoodIn wsX9_letterLine wsX9_opens := goodIn_r _ [9, 10, 11, 12, 8, 13, 14, 15, 16, 17, 18, 19, 20, 21, 22, 23, 24, 25, 26, 27, 28, 29, 30, 31, 32, 37, 38, 39, 40, 41, 42, 43, 44, 45, 46, 47, 48, 49, 50, 51, 52, 53, 54, 55, 56, 57, 58, 59, 60, 61, 62, 63, 64, 65, 66, 67, 68, 69, 70, 71, 72, 73, 74, 75, 76, 77, 78, 79, 80, 81] (by decide +kernel) (by decide +kernel)
set_option maxRecDepth 20000 in
theorem gX9_letterLine_X9_opens : GoodIn wsX9_letterLine (wsV RX9 165 RX9 yX9_opens wsX9_opens) := goodIn_app (goodIn_of _ (by decide +kernel)) ggX9_letterLine_X9_opens
set_option maxRecDepth 20000 in
theorem ggX9_letterLine_X9_takes : GoodIn wsX9_letterLine wsX9_takes := goodIn_r _ [36, 23, 22, 3, 10, 11, 12, 8, 13, 14, 15, 16, 30, 31, 32, 17, 18, 19, 20, 21, 24, 25, 26, 27, 28, 29, 37, 38, 39, 40, 41, 42, 43, 44, 45, 46, 47, 48, 49, 50, 51, 52, 53, 54, 55, 56, 57, 58, 59, 60, 61, 62, 63, 64, 65, 66, 67, 68, 69, 70, 71, 72, 73, 74, 75, 76, 77, 78, 79, 80, 81] (by decide +kernel) (by decide +kernel)
set_option maxRecDepth 20000 in
theorem gX9_letterLine_X9_takes : GoodIn wsX9_letterLine (wsV RX9 169 RX9 yX9_takes wsX9_takes) := goodIn_app (goodIn_of _ (by decide +kernel)) ggX9_letterLine_X9_takes
theorem dX9_letterLine_0 : decode cX9_letterLine 0 = .ok (.bipush 24, 2) := by decide +kernel
theorem dX9_letterLine_2 : decode cX9_letterLine 2 = .ok (.aload_n 0, 1) := by decide +kernel
theorem dX9_letterLine_3 : decode cX9_letterLine 3 = .ok (.getfield 62, 3) := by decide +kernel
theorem dX9_letterLine_6 : decode cX9_letterLine 6 = .ok (.iconst 1, 1) := by decide +kernel
theorem dX9_letterLine_7 : decode cX9_letterLine 7 = .ok (.iaload, 1) := by decide +kernel
theorem dX9_letterLine_8 : decode cX9_letterLine 8 = .ok (.iadd, 1) := by decide +kernel
theorem dX9_letterLine_9 : decode cX9_letterLine 9 = .ok (.istore_n 1, 1) := by decide +kernel
theorem dX9_letterLine_10 : decode cX9_letterLine 10 = .ok (.aload_n 0, 1) := by decide +kernel
theorem dX9_letterLine_11 : decode cX9_letterLine 11 = .ok (.aload_n 0, 1) := by decide +kernel
theorem dX9_letterLine_12 : decode cX9_letterLine 12 = .ok (.getfield 62, 3) := by decide +kernel
theorem dX9_letterLine_15 : decode cX9_letterLine 15 = .ok (.iconst 1, 1) := by decide +kernel
theorem dX9_letterLine_16 : decode cX9_letterLine 16 = .ok (.iaload, 1) := by decide +kernel
theorem dX9_letterLine_17 : decode cX9_letterLine 17 = .ok (.bipush 24, 2) := by decide +kernel
theorem dX9_letterLine_19 : decode cX9_letterLine 19 = .ok (.if_icmp .ge 7, 3) := by decide +kernel
theorem dX9_letterLine_22 : decode cX9_letterLine 22 = .ok (.iconst 1, 1) := by decide +kernel
theorem dX9_letterLine_23 : decode cX9_letterLine 23 = .ok (.goto 4, 3) := by decide +kernel
theorem dX9_letterLine_26 : decode cX9_letterLine 26 = .ok (.iconst 0, 1) := by decide +kernel
theorem dX9_letterLine_27 : decode cX9_letterLine 27 = .ok (.invokevirtual 165, 3) := by decide +kernel
theorem dX9_letterLine_30 : decode cX9_letterLine 30 = .ok (.ifCond .eq 13, 3) := by decide +kernel
theorem dX9_letterLine_33 : decode cX9_letterLine 33 = .ok (.aload_n 0, 1) := by decide +kernel
theorem dX9_letterLine_34 : decode cX9_letterLine 34 = .ok (.iconst 1, 1) := by decide +kernel
theorem dX9_letterLine_35 : decode cX9_letterLine 35 = .ok (.bipush 99, 2) := by decide +kernel
theorem dX9_letterLine_37 : decode cX9_letterLine 37 = .ok (.invokevirtual 169, 3) := by decide +kernel
theorem dX9_letterLine_40 : decode cX9_letterLine 40 = .ok (.ifCond .ne 5, 3) := by decide +kernel
theorem dX9_letterLine_43 : decode cX9_letterLine 43 = .ok (.iconst 0, 1) := by decide +kernel
theorem dX9_letterLine_44 : decode cX9_letterLine 44 = .ok (.ireturn, 1) := by decide +kernel
theorem dX9_letterLine_45 : decode cX9_letterLine 45 = .ok (.aload_n 0, 1) := by decide +kernel
theorem dX9_letterLine_46 : decode cX9_letterLine 46 = .ok (.getfield 65, 3) := by decide +kernel
theorem dX9_letterLine_49 : decode cX9_letterLine 49 = .ok (.iload_n 1, 1) := by decide +kernel
theorem dX9_letterLine_50 : decode cX9_letterLine 50 = .ok (.aload_n 0, 1) := by decide +kernel
theorem dX9_letterLine_51 : decode cX9_letterLine 51 = .ok (.getfield 159, 3) := by decide +kernel
theorem dX9_letterLine_54 : decode cX9_letterLine 54 = .ok (.iastore, 1) := by decide +kernel
theorem dX9_letterLine_55 : decode cX9_letterLine 55 = .ok (.aload_n 0, 1) := by decide +kernel
theorem dX9_letterLine_56 : decode cX9_letterLine 56 = .ok (.iconst 1, 1) := by decide +kernel
theorem dX9_letterLine_57 : decode cX9_letterLine 57 = .ok (.bipush 9, 2) := by decide +kernel
theorem dX9_letterLine_59 : decode cX9_letterLine 59 = .ok (.invokevirtual 169, 3) := by decide +kernel
theorem dX9_letterLine_62 : decode cX9_letterLine 62 = .ok (.ifCond .ne 5, 3) := by decide +kernel
theorem dX9_letterLine_65 : decode cX9_letterLine 65 = .ok (.iconst 0, 1) := by decide +kernel
theorem dX9_letterLine_66 : decode cX9_letterLine 66 = .ok (.ireturn, 1) := by decide +kernel
theorem dX9_letterLine_67 : decode cX9_letterLine 67 = .ok (.aload_n 0, 1) := by decide +kernel
theorem dX9_letterLine_68 : decode cX9_letterLine 68 = .ok (.getfield 68, 3) := by decide +kernel
theorem dX9_letterLine_71 : decode cX9_letterLine 71 = .ok (.iload_n 1, 1) := by decide +kernel
theorem dX9_letterLine_72 : decode cX9_letterLine 72 = .ok (.aload_n 0, 1) := by decide +kernel
theorem dX9_letterLine_73 : decode cX9_letterLine 73 = .ok (.getfield 159, 3) := by decide +kernel
theorem dX9_letterLine_76 : decode cX9_letterLine 76 = .ok (.iastore, 1) := by decide +kernel
theorem dX9_letterLine_77 : decode cX9_letterLine 77 = .ok (.aload_n 0, 1) := by decide +kernel
theorem dX9_letterLine_78 : decode cX9_letterLine 78 = .ok (.getfield 62, 3) := by decide +kernel
theorem dX9_letterLine_81 : decode cX9_letterLine 81 = .ok (.iconst 1, 1) := by decide +kernel
theorem dX9_letterLine_82 : decode cX9_letterLine 82 = .ok (.dup2, 1) := by decide +kernel
theorem dX9_letterLine_83 : decode cX9_letterLine 83 = .ok (.iaload, 1) := by decide +kernel
theorem dX9_letterLine_84 : decode cX9_letterLine 84 = .ok (.iconst 1, 1) := by decide +kernel
theorem dX9_letterLine_85 : decode cX9_letterLine 85 = .ok (.iadd, 1) := by decide +kernel
theorem dX9_letterLine_86 : decode cX9_letterLine 86 = .ok (.iastore, 1) := by decide +kernel
theorem dX9_letterLine_87 : decode cX9_letterLine 87 = .ok (.iconst 1, 1) := by decide +kernel
theorem dX9_letterLine_88 : decode cX9_letterLine 88 = .ok (.ireturn, 1) := by decide +kernel
set_option maxRecDepth 20000 in
theorem ggX9_single_X9_fails : GoodIn wsX9_single wsX9_fails := goodIn_r _ [6, 7, 8, 9, 30, 31, 32, 33, 34, 35, 36, 37, 38, 39, 40, 41, 42, 43, 44, 45, 46, 47, 48, 49, 50, 51, 52, 53, 54, 55, 56, 57, 58, 59, 60, 61, 62, 63, 64, 65, 66, 67, 68, 69, 70, 71, 72, 73, 74] (by decide +kernel) (by decide +kernel)
set_option maxRecDepth 20000 in
theorem gX9_single_X9_fails : GoodIn wsX9_single (wsV RX9 155 RX9 yX9_fails wsX9_fails) := goodIn_app (goodIn_of _ (by decide +kernel)) ggX9_single_X9_fails
set_option maxRecDepth 20000 in
theorem ggX9_single_X9_advance : GoodIn wsX9_single wsX9_advance := goodIn_r _ [13, 14, 8, 15, 16, 17, 18, 19, 5, 20, 21, 22, 23, 24, 25, 30, 31, 32, 33, 34, 35, 36, 37, 38, 39, 40, 41, 42, 43, 44, 45, 46, 47, 48, 49, 50, 51, 52, 53, 54, 55, 56, 57, 58, 59, 60, 61, 62, 63, 64, 65, 66, 67, 68, 69, 70, 71, 72, 73, 74] (by decide +kernel) (by decide +kernel)
set_option maxRecDepth 20000 in
theorem gX9_single_X9_advance : GoodIn wsX9_single (wsV RX9 162 RX9 yX9_advance wsX9_advance) := goodIn_app (goodIn_of _ (by decide +kernel)) ggX9_single_X9_advance
set_option maxRecDepth 20000 in
theorem ggX9_single_X9_takes : GoodIn wsX9_single wsX9_takes := goodIn_r _ [29, 16, 15, 1, 2, 3, 4, 5, 6, 7, 8, 9, 23, 24, 25, 10, 11, 12, 13, 14, 17, 18, 19, 20, 21, 22, 30, 31, 32, 33, 34, 35, 36, 37, 38, 39, 40, 41, 42, 43, 44, 45, 46, 47, 48, 49, 50, 51, 52, 53, 54, 55, 56, 57, 58, 59, 60, 61, 62, 63, 64, 65, 66, 67, 68, 69, 70, 71, 72, 73, 74] (by decide +kernel) (by decide +kernel)
set_option maxRecDepth 20000 in
theorem gX9_single_X9_takes : GoodIn wsX9_single (wsV RX9 169 RX9 yX9_takes wsX9_takes) := goodIn_app (goodIn_of _ (by decide +kernel)) ggX9_single_X9_takes
theorem dX9_single_0 : decode cX9_single 0 = .ok (.iload_n 1, 1) := by decide +kernel
theorem dX9_single_1 : decode cX9_single 1 = .ok (.bipush (-2), 2) := by decide +kernel
theorem dX9_single_3 : decode cX9_single 3 = .ok (.if_icmp .eq 11, 3) := by decide +kernel
theorem dX9_single_6 : decode cX9_single 6 = .ok (.aload_n 0, 1) := by decide +kernel
theorem dX9_single_7 : decode cX9_single 7 = .ok (.iconst 2, 1) := by decide +kernel
theorem dX9_single_8 : decode cX9_single 8 = .ok (.invokevirtual 155, 3) := by decide +kernel
theorem dX9_single_11 : decode cX9_single 11 = .ok (.pop, 1) := by decide +kernel
theorem dX9_single_12 : decode cX9_single 12 = .ok (.iconst (-1), 1) := by decide +kernel
theorem dX9_single_13 : decode cX9_single 13 = .ok (.ireturn, 1) := by decide +kernel
theorem dX9_single_14 : decode cX9_single 14 = .ok (.aload_n 0, 1) := by decide +kernel
theorem dX9_single_15 : decode cX9_single 15 = .ok (.invokevirtual 162, 3) := by decide +kernel
theorem dX9_single_18 : decode cX9_single 18 = .ok (.aload_n 0, 1) := by decide +kernel
theorem dX9_single_19 : decode cX9_single 19 = .ok (.iconst 0, 1) := by decide +kernel
theorem dX9_single_20 : decode cX9_single 20 = .ok (.iload_n 2, 1) := by decide +kernel
theorem dX9_single_21 : decode cX9_single 21 = .ok (.invokevirtual 169, 3) := by decide +kernel
theorem dX9_single_24 : decode cX9_single 24 = .ok (.ifCond .eq 10, 3) := by decide +kernel
theorem dX9_single_27 : decode cX9_single 27 = .ok (.aload_n 0, 1) := by decide +kernel
theorem dX9_single_28 : decode cX9_single 28 = .ok (.getfield 159, 3) := by decide +kernel
theorem dX9_single_31 : decode cX9_single 31 = .ok (.goto 4, 3) := by decide +kernel
theorem dX9_single_34 : decode cX9_single 34 = .ok (.iconst (-1), 1) := by decide +kernel
theorem dX9_single_35 : decode cX9_single 35 = .ok (.ireturn, 1) := by decide +kernel
set_option maxRecDepth 20000 in
theorem ggX9_otherLine_X9_isWord : GoodIn wsX9_otherLine wsX9_isWord := goodIn_r _ [9, 10, 11, 12, 13, 14, 15, 16, 17, 18, 19, 20, 21, 22, 23, 24, 25, 26, 27, 28, 29, 30, 31, 32, 33, 34, 35, 36, 37, 38, 39, 40, 41, 42, 43, 44, 45, 46, 47, 48, 49, 50, 51, 52, 53, 54, 55, 56, 57, 58, 59, 60, 61, 62, 91, 92, 93, 94, 95, 96, 97, 98, 99, 100, 101, 102, 103, 104, 105, 106, 107, 108, 109, 110, 111, 112, 113, 114, 115, 116, 117, 118, 119, 120, 121, 122, 123, 124, 125, 126, 127, 128, 129, 130, 131, 132, 133, 134, 135] (by decide +kernel) (by decide +kernel)
set_option maxRecDepth 20000 in
theorem gX9_otherLine_X9_isWord : GoodIn wsX9_otherLine (wsV RX9 178 RX9 yX9_isWord wsX9_isWord) := goodIn_app (goodIn_of _ (by decide +kernel)) ggX9_otherLine_X9_isWord
set_option maxRecDepth 20000 in
theorem ggX9_otherLine_X9_single : GoodIn wsX9_otherLine wsX9_single := goodIn_r _ [66, 67, 68, 69, 70, 8, 71, 72, 12, 73, 74, 75, 76, 77, 11, 78, 10, 79, 80, 81, 82, 83, 13, 84, 85, 86, 87, 88, 89, 90, 91, 92, 93, 94, 95, 96, 97, 98, 99, 100, 101, 102, 103, 104, 105, 106, 107, 108, 109, 110, 111, 112, 113, 114, 115, 116, 117, 118, 119, 120, 121, 122, 123, 124, 125, 126, 127, 128, 129, 130, 131, 132, 133, 134, 135] (by decide +kernel) (by decide +kernel)
set_option maxRecDepth 20000 in
theorem gX9_otherLine_X9_single : GoodIn wsX9_otherLine (wsV RX9 185 RX9 yX9_single wsX9_single) := goodIn_app (goodIn_of _ (by decide +kernel)) ggX9_otherLine_X9_single
set_option maxRecDepth 20000 in
theorem ggX9_otherLine_X9_fails : GoodIn wsX9_otherLine wsX9_fails := goodIn_r _ [71, 72, 12, 73, 91, 92, 93, 94, 95, 96, 97, 98, 99, 100, 101, 102, 103, 104, 105, 106, 107, 108, 109, 110, 111, 112, 113, 114, 115, 116, 117, 118, 119, 120, 121, 122, 123, 124, 125, 126, 127, 128, 129, 130, 131, 132, 133, 134, 135] (by decide +kernel) (by decide +kernel)
set_option maxRecDepth 20000 in
theorem gX9_otherLine_X9_fails : GoodIn wsX9_otherLine (wsV RX9 155 RX9 yX9_fails wsX9_fails) := goodIn_app (goodIn_of _ (by decide +kernel)) ggX9_otherLine_X9_fails
theorem dX9_otherLine_0 : decode cX9_otherLine 0 = .ok (.aload_n 0, 1) := by decide +kernel
theorem dX9_otherLine_1 : decode cX9_otherLine 1 = .ok (.ldc 176, 2) := by decide +kernel
theorem dX9_otherLine_3 : decode cX9_otherLine 3 = .ok (.invokevirtual 178, 3) := by decide +kernel
theorem dX9_otherLine_6 : decode cX9_otherLine 6 = .ok (.ifCond .eq 30, 3) := by decide +kernel
theorem dX9_otherLine_9 : decode cX9_otherLine 9 = .ok (.aload_n 0, 1) := by decide +kernel
theorem dX9_otherLine_10 : decode cX9_otherLine 10 = .ok (.aload_n 0, 1) := by decide +kernel
theorem dX9_otherLine_11 : decode cX9_otherLine 11 = .ok (.aload_n 0, 1) := by decide +kernel
theorem dX9_otherLine_12 : decode cX9_otherLine 12 = .ok (.getfield 182, 3) := by decide +kernel
theorem dX9_otherLine_15 : decode cX9_otherLine 15 = .ok (.bipush 40, 2) := by decide +kernel
theorem dX9_otherLine_17 : decode cX9_otherLine 17 = .ok (.invokevirtual 185, 3) := by decide +kernel
theorem dX9_otherLine_20 : decode cX9_otherLine 20 = .ok (.putfield 182, 3) := by decide +kernel
theorem dX9_otherLine_23 : decode cX9_otherLine 23 = .ok (.aload_n 0, 1) := by decide +kernel
theorem dX9_otherLine_24 : decode cX9_otherLine 24 = .ok (.getfield 182, 3) := by decide +kernel
theorem dX9_otherLine_27 : decode cX9_otherLine 27 = .ok (.ifCond .lt 7, 3) := by decide +kernel
theorem dX9_otherLine_30 : decode cX9_otherLine 30 = .ok (.iconst 1, 1) := by decide +kernel
theorem dX9_otherLine_31 : decode cX9_otherLine 31 = .ok (.goto 4, 3) := by decide +kernel
theorem dX9_otherLine_34 : decode cX9_otherLine 34 = .ok (.iconst 0, 1) := by decide +kernel
theorem dX9_otherLine_35 : decode cX9_otherLine 35 = .ok (.ireturn, 1) := by decide +kernel
theorem dX9_otherLine_36 : decode cX9_otherLine 36 = .ok (.aload_n 0, 1) := by decide +kernel
theorem dX9_otherLine_37 : decode cX9_otherLine 37 = .ok (.ldc 189, 2) := by decide +kernel
theorem dX9_otherLine_39 : decode cX9_otherLine 39 = .ok (.invokevirtual 178, 3) := by decide +kernel
theorem dX9_otherLine_42 : decode cX9_otherLine 42 = .ok (.ifCond .eq 36, 3) := by decide +kernel
theorem dX9_otherLine_45 : decode cX9_otherLine 45 = .ok (.aload_n 0, 1) := by decide +kernel
theorem dX9_otherLine_46 : decode cX9_otherLine 46 = .ok (.aload_n 0, 1) := by decide +kernel
theorem dX9_otherLine_47 : decode cX9_otherLine 47 = .ok (.aload_n 0, 1) := by decide +kernel
theorem dX9_otherLine_48 : decode cX9_otherLine 48 = .ok (.getfield 190, 3) := by decide +kernel
theorem dX9_otherLine_51 : decode cX9_otherLine 51 = .ok (.aload_n 0, 1) := by decide +kernel
theorem dX9_otherLine_52 : decode cX9_otherLine 52 = .ok (.getfield 29, 3) := by decide +kernel
theorem dX9_otherLine_55 : decode cX9_otherLine 55 = .ok (.iconst 1, 1) := by decide +kernel
theorem dX9_otherLine_56 : decode cX9_otherLine 56 = .ok (.iaload, 1) := by decide +kernel
theorem dX9_otherLine_57 : decode cX9_otherLine 57 = .ok (.iconst 1, 1) := by decide +kernel
theorem dX9_otherLine_58 : decode cX9_otherLine 58 = .ok (.isub, 1) := by decide +kernel
theorem dX9_otherLine_59 : decode cX9_otherLine 59 = .ok (.invokevirtual 185, 3) := by decide +kernel
theorem dX9_otherLine_62 : decode cX9_otherLine 62 = .ok (.putfield 190, 3) := by decide +kernel
theorem dX9_otherLine_65 : decode cX9_otherLine 65 = .ok (.aload_n 0, 1) := by decide +kernel
theorem dX9_otherLine_66 : decode cX9_otherLine 66 = .ok (.getfield 190, 3) := by decide +kernel
theorem dX9_otherLine_69 : decode cX9_otherLine 69 = .ok (.ifCond .lt 7, 3) := by decide +kernel
theorem dX9_otherLine_72 : decode cX9_otherLine 72 = .ok (.iconst 1, 1) := by decide +kernel
theorem dX9_otherLine_73 : decode cX9_otherLine 73 = .ok (.goto 4, 3) := by decide +kernel
theorem dX9_otherLine_76 : decode cX9_otherLine 76 = .ok (.iconst 0, 1) := by decide +kernel
theorem dX9_otherLine_77 : decode cX9_otherLine 77 = .ok (.ireturn, 1) := by decide +kernel
theorem dX9_otherLine_78 : decode cX9_otherLine 78 = .ok (.aload_n 0, 1) := by decide +kernel
theorem dX9_otherLine_79 : decode cX9_otherLine 79 = .ok (.ldc 193, 2) := by decide +kernel
theorem dX9_otherLine_81 : decode cX9_otherLine 81 = .ok (.invokevirtual 178, 3) := by decide +kernel
theorem dX9_otherLine_84 : decode cX9_otherLine 84 = .ok (.ifCond .eq 31, 3) := by decide +kernel
theorem dX9_otherLine_87 : decode cX9_otherLine 87 = .ok (.aload_n 0, 1) := by decide +kernel
theorem dX9_otherLine_88 : decode cX9_otherLine 88 = .ok (.aload_n 0, 1) := by decide +kernel
theorem dX9_otherLine_89 : decode cX9_otherLine 89 = .ok (.aload_n 0, 1) := by decide +kernel
theorem dX9_otherLine_90 : decode cX9_otherLine 90 = .ok (.getfield 194, 3) := by decide +kernel
theorem dX9_otherLine_93 : decode cX9_otherLine 93 = .ok (.sipush 9999, 3) := by decide +kernel
theorem dX9_otherLine_96 : decode cX9_otherLine 96 = .ok (.invokevirtual 185, 3) := by decide +kernel
theorem dX9_otherLine_99 : decode cX9_otherLine 99 = .ok (.putfield 194, 3) := by decide +kernel
theorem dX9_otherLine_102 : decode cX9_otherLine 102 = .ok (.aload_n 0, 1) := by decide +kernel
theorem dX9_otherLine_103 : decode cX9_otherLine 103 = .ok (.getfield 194, 3) := by decide +kernel
theorem dX9_otherLine_106 : decode cX9_otherLine 106 = .ok (.ifCond .lt 7, 3) := by decide +kernel
theorem dX9_otherLine_109 : decode cX9_otherLine 109 = .ok (.iconst 1, 1) := by decide +kernel
theorem dX9_otherLine_110 : decode cX9_otherLine 110 = .ok (.goto 4, 3) := by decide +kernel
theorem dX9_otherLine_113 : decode cX9_otherLine 113 = .ok (.iconst 0, 1) := by decide +kernel
theorem dX9_otherLine_114 : decode cX9_otherLine 114 = .ok (.ireturn, 1) := by decide +kernel
theorem dX9_otherLine_115 : decode cX9_otherLine 115 = .ok (.aload_n 0, 1) := by decide +kernel
theorem dX9_otherLine_116 : decode cX9_otherLine 116 = .ok (.iconst 1, 1) := by decide +kernel
theorem dX9_otherLine_117 : decode cX9_otherLine 117 = .ok (.invokevirtual 155, 3) := by decide +kernel
theorem dX9_otherLine_120 : decode cX9_otherLine 120 = .ok (.ireturn, 1) := by decide +kernel
set_option maxRecDepth 20000 in
theorem ggX9_statement_X9_isWord : GoodIn wsX9_statement wsX9_isWord := goodIn_r _ [6, 1, 7, 8, 9, 10, 11, 12, 13, 14, 15, 16, 17, 18, 19, 20, 21, 22, 23, 24, 25, 26, 27, 28, 29, 30, 31, 32, 33, 34, 35, 36, 37, 38, 39, 40, 41, 42, 43, 44, 45, 46, 47, 48, 49, 50, 51, 52, 53, 54, 55, 56, 57, 58, 139, 140, 141, 142, 143, 144, 145, 146, 147, 148, 149, 150, 151, 152, 153, 154, 155, 156, 157, 158, 159, 160, 161, 162, 163, 164, 165, 166, 167, 168, 169, 170, 171, 172, 173, 174, 175, 176, 177, 178, 179, 180, 181, 182, 183] (by decide +kernel) (by decide +kernel)
set_option maxRecDepth 20000 in
theorem gX9_statement_X9_isWord : GoodIn wsX9_statement (wsV RX9 178 RX9 yX9_isWord wsX9_isWord) := goodIn_app (goodIn_of _ (by decide +kernel)) ggX9_statement_X9_isWord
set_option maxRecDepth 20000 in
theorem ggX9_statement_X9_regionLine : GoodIn wsX9_statement wsX9_regionLine := goodIn_r _ [62, 63, 64, 65, 66, 67, 68, 69, 70, 5, 71, 72, 73, 74, 75, 76, 8, 77, 78, 79, 80, 81, 7, 82, 1, 83, 84, 85, 86, 87, 9, 88, 89, 90, 91, 92, 93, 94, 139, 140, 141, 142, 143, 144, 145, 146, 147, 148, 149, 150, 151, 152, 153, 154, 155, 156, 157, 158, 159, 160, 161, 162, 163, 164, 165, 166, 167, 168, 169, 170, 171, 172, 173, 174, 175, 176, 177, 178, 179, 180, 181, 182, 183] (by decide +kernel) (by decide +kernel)
set_option maxRecDepth 20000 in
theorem gX9_statement_X9_regionLine : GoodIn wsX9_statement (wsV RX9 199 RX9 yX9_regionLine wsX9_regionLine) := goodIn_app (goodIn_of _ (by decide +kernel)) ggX9_statement_X9_regionLine
set_option maxRecDepth 20000 in
theorem ggX9_statement_X9_windLine : GoodIn wsX9_statement wsX9_windLine := goodIn_r _ [98, 99, 1, 82, 63, 65, 100, 101, 102, 68, 69, 70, 5, 71, 72, 73, 74, 75, 76, 8, 77, 78, 79, 80, 81, 7, 83, 84, 85, 86, 87, 9, 88, 89, 90, 103, 104, 105, 91, 92, 93, 94, 139, 140, 141, 142, 143, 144, 145, 146, 147, 148, 149, 150, 151, 152, 153, 154, 155, 156, 157, 158, 159, 160, 161, 162, 163, 164, 165, 166, 167, 168, 169, 170, 171, 172, 173, 174, 175, 176, 177, 178, 179, 180, 181, 182, 183] (by decide +kernel) (by decide +kernel)
set_option maxRecDepth 20000 in
theorem gX9_statement_X9_windLine : GoodIn wsX9_statement (wsV RX9 205 RX9 yX9_windLine wsX9_windLine) := goodIn_app (goodIn_of _ (by decide +kernel)) ggX9_statement_X9_windLine
set_option maxRecDepth 20000 in
theorem ggX9_statement_X9_turnLine : GoodIn wsX9_statement wsX9_turnLine := goodIn_r _ [109, 110, 99, 65, 1, 82, 111, 112, 113, 68, 69, 70, 5, 71, 72, 73, 74, 75, 76, 8, 77, 78, 79, 80, 81, 7, 83, 84, 85, 86, 87, 9, 88, 89, 90, 91, 92, 93, 94, 139, 140, 141, 142, 143, 144, 145, 146, 147, 148, 149, 150, 151, 152, 153, 154, 155, 156, 157, 158, 159, 160, 161, 162, 163, 164, 165, 166, 167, 168, 169, 170, 171, 172, 173, 174, 175, 176, 177, 178, 179, 180, 181, 182, 183] (by decide +kernel) (by decide +kernel)
set_option maxRecDepth 20000 in
theorem gX9_statement_X9_turnLine : GoodIn wsX9_statement (wsV RX9 210 RX9 yX9_turnLine wsX9_turnLine) := goodIn_app (goodIn_of _ (by decide +kernel)) ggX9_statement_X9_turnLine
set_option maxRecDepth 20000 in
theorem ggX9_statement_X9_balloonLine : GoodIn wsX9_statement wsX9_balloonLine := goodIn_r _ [117, 118, 119, 65, 120, 68, 69, 70, 5, 71, 72, 73, 74, 75, 76, 8, 77, 78, 79, 80, 81, 7, 82, 1, 83, 84, 85, 86, 87, 9, 88, 89, 90, 91, 92, 93, 94, 139, 140, 141, 142, 143, 144, 145, 146, 147, 148, 149, 150, 151, 152, 153, 154, 155, 156, 157, 158, 159, 160, 161, 162, 163, 164, 165, 166, 167, 168, 169, 170, 171, 172, 173, 174, 175, 176, 177, 178, 179, 180, 181, 182, 183] (by decide +kernel) (by decide +kernel)
set_option maxRecDepth 20000 in
theorem gX9_statement_X9_balloonLine : GoodIn wsX9_statement (wsV RX9 215 RX9 yX9_balloonLine wsX9_balloonLine) := goodIn_app (goodIn_of _ (by decide +kernel)) ggX9_statement_X9_balloonLine
set_option maxRecDepth 20000 in
theorem ggX9_statement_X9_letterLine : GoodIn wsX9_statement wsX9_letterLine := goodIn_r _ [124, 125, 126, 65, 127, 68, 69, 70, 5, 71, 72, 73, 74, 75, 76, 8, 77, 78, 79, 80, 81, 7, 82, 1, 83, 84, 85, 86, 87, 9, 88, 89, 90, 91, 92, 93, 94, 139, 140, 141, 142, 143, 144, 145, 146, 147, 148, 149, 150, 151, 152, 153, 154, 155, 156, 157, 158, 159, 160, 161, 162, 163, 164, 165, 166, 167, 168, 169, 170, 171, 172, 173, 174, 175, 176, 177, 178, 179, 180, 181, 182, 183] (by decide +kernel) (by decide +kernel)
set_option maxRecDepth 20000 in
theorem gX9_statement_X9_letterLine : GoodIn wsX9_statement (wsV RX9 220 RX9 yX9_letterLine wsX9_letterLine) := goodIn_app (goodIn_of _ (by decide +kernel)) ggX9_statement_X9_letterLine
set_option maxRecDepth 20000 in
theorem ggX9_statement_X9_otherLine : GoodIn wsX9_statement wsX9_otherLine := goodIn_r _ [131, 132, 133, 99, 134, 2, 3, 4, 5, 6, 1, 7, 8, 9, 10, 11, 12, 13, 14, 15, 16, 17, 18, 19, 20, 21, 22, 23, 24, 25, 26, 27, 28, 29, 30, 31, 32, 33, 34, 35, 36, 37, 38, 39, 40, 41, 42, 43, 44, 45, 46, 47, 48, 49, 50, 51, 52, 53, 54, 55, 56, 57, 58, 135, 136, 137, 138, 65, 72, 73, 74, 75, 76, 77, 78, 79, 80, 81, 82, 83, 84, 85, 86, 87, 88, 89, 90, 91, 92, 93, 94, 139, 140, 141, 142, 143, 144, 145, 146, 147, 148, 149, 150, 151, 152, 153, 154, 155, 156, 157, 158, 159, 160, 161, 162, 163, 164, 165, 166, 167, 168, 169, 170, 171, 172, 173, 174, 175, 176, 177, 178, 179, 180, 181, 182, 183] (by decide +kernel) (by decide +kernel)
set_option maxRecDepth 20000 in
theorem gX9_statement_X9_otherLine : GoodIn wsX9_statement (wsV RX9 223 RX9 yX9_otherLine wsX9_otherLine) := goodIn_app (goodIn_of _ (by decide +kernel)) ggX9_statement_X9_otherLine
set_option maxRecDepth 20000 in
theorem ggX9_statement_X9_fails : GoodIn wsX9_statement wsX9_fails := goodIn_r _ [75, 76, 8, 77, 139, 140, 141, 142, 143, 144, 145, 146, 147, 148, 149, 150, 151, 152, 153, 154, 155, 156, 157, 158, 159, 160, 161, 162, 163, 164, 165, 166, 167, 168, 169, 170, 171, 172, 173, 174, 175, 176, 177, 178, 179, 180, 181, 182, 183] (by decide +kernel) (by decide +kernel)
set_option maxRecDepth 20000 in
theorem gX9_statement_X9_fails : GoodIn wsX9_statement (wsV RX9 155 RX9 yX9_fails wsX9_fails) := goodIn_app (goodIn_of _ (by decide +kernel)) ggX9_statement_X9_fails
set_option maxRecDepth 20000 in
theorem ggX9_statement_X9_advance : GoodIn wsX9_statement wsX9_advance := goodIn_r _ [81, 7, 8, 82, 1, 83, 84, 85, 5, 86, 87, 9, 88, 89, 90, 139, 140, 141, 142, 143, 144, 145, 146, 147, 148, 149, 150, 151, 152, 153, 154, 155, 156, 157, 158, 159, 160, 161, 162, 163, 164, 165, 166, 167, 168, 169, 170, 171, 172, 173, 174, 175, 176, 177, 178, 179, 180, 181, 182, 183] (by decide +kernel) (by decide +kernel)
set_option maxRecDepth 20000 in
theorem gX9_statement_X9_advance : GoodIn wsX9_statement (wsV RX9 162 RX9 yX9_advance wsX9_advance) := goodIn_app (goodIn_of _ (by decide +kernel)) ggX9_statement_X9_advance
theorem dX9_statement_0 : decode cX9_statement 0 = .ok (.aload_n 0, 1) := by decide +kernel
theorem dX9_statement_1 : decode cX9_statement 1 = .ok (.ldc 197, 2) := by decide +kernel
theorem dX9_statement_3 : decode cX9_statement 3 = .ok (.invokevirtual 178, 3) := by decide +kernel
theorem dX9_statement_6 : decode cX9_statement 6 = .ok (.ifCond .eq 10, 3) := by decide +kernel
theorem dX9_statement_9 : decode cX9_statement 9 = .ok (.aload_n 0, 1) := by decide +kernel
theorem dX9_statement_10 : decode cX9_statement 10 = .ok (.invokevirtual 199, 3) := by decide +kernel
theorem dX9_statement_13 : decode cX9_statement 13 = .ok (.goto 71, 3) := by decide +kernel
theorem dX9_statement_16 : decode cX9_statement 16 = .ok (.aload_n 0, 1) := by decide +kernel
theorem dX9_statement_17 : decode cX9_statement 17 = .ok (.ldc 203, 2) := by decide +kernel
theorem dX9_statement_19 : decode cX9_statement 19 = .ok (.invokevirtual 178, 3) := by decide +kernel
theorem dX9_statement_22 : decode cX9_statement 22 = .ok (.ifCond .eq 10, 3) := by decide +kernel
theorem dX9_statement_25 : decode cX9_statement 25 = .ok (.aload_n 0, 1) := by decide +kernel
theorem dX9_statement_26 : decode cX9_statement 26 = .ok (.invokevirtual 205, 3) := by decide +kernel
theorem dX9_statement_29 : decode cX9_statement 29 = .ok (.goto 55, 3) := by decide +kernel
theorem dX9_statement_32 : decode cX9_statement 32 = .ok (.aload_n 0, 1) := by decide +kernel
theorem dX9_statement_33 : decode cX9_statement 33 = .ok (.ldc 208, 2) := by decide +kernel
theorem dX9_statement_35 : decode cX9_statement 35 = .ok (.invokevirtual 178, 3) := by decide +kernel
theorem dX9_statement_38 : decode cX9_statement 38 = .ok (.ifCond .eq 10, 3) := by decide +kernel
theorem dX9_statement_41 : decode cX9_statement 41 = .ok (.aload_n 0, 1) := by decide +kernel
theorem dX9_statement_42 : decode cX9_statement 42 = .ok (.invokevirtual 210, 3) := by decide +kernel
theorem dX9_statement_45 : decode cX9_statement 45 = .ok (.goto 39, 3) := by decide +kernel
theorem dX9_statement_48 : decode cX9_statement 48 = .ok (.aload_n 0, 1) := by decide +kernel
theorem dX9_statement_49 : decode cX9_statement 49 = .ok (.ldc 213, 2) := by decide +kernel
theorem dX9_statement_51 : decode cX9_statement 51 = .ok (.invokevirtual 178, 3) := by decide +kernel
theorem dX9_statement_54 : decode cX9_statement 54 = .ok (.ifCond .eq 10, 3) := by decide +kernel
theorem dX9_statement_57 : decode cX9_statement 57 = .ok (.aload_n 0, 1) := by decide +kernel
theorem dX9_statement_58 : decode cX9_statement 58 = .ok (.invokevirtual 215, 3) := by decide +kernel
theorem dX9_statement_61 : decode cX9_statement 61 = .ok (.goto 23, 3) := by decide +kernel
theorem dX9_statement_64 : decode cX9_statement 64 = .ok (.aload_n 0, 1) := by decide +kernel
theorem dX9_statement_65 : decode cX9_statement 65 = .ok (.ldc 218, 2) := by decide +kernel
theorem dX9_statement_67 : decode cX9_statement 67 = .ok (.invokevirtual 178, 3) := by decide +kernel
theorem dX9_statement_70 : decode cX9_statement 70 = .ok (.ifCond .eq 10, 3) := by decide +kernel
theorem dX9_statement_73 : decode cX9_statement 73 = .ok (.aload_n 0, 1) := by decide +kernel
theorem dX9_statement_74 : decode cX9_statement 74 = .ok (.invokevirtual 220, 3) := by decide +kernel
theorem dX9_statement_77 : decode cX9_statement 77 = .ok (.goto 7, 3) := by decide +kernel
theorem dX9_statement_80 : decode cX9_statement 80 = .ok (.aload_n 0, 1) := by decide +kernel
theorem dX9_statement_81 : decode cX9_statement 81 = .ok (.invokevirtual 223, 3) := by decide +kernel
theorem dX9_statement_84 : decode cX9_statement 84 = .ok (.istore_n 1, 1) := by decide +kernel
theorem dX9_statement_85 : decode cX9_statement 85 = .ok (.iload_n 1, 1) := by decide +kernel
theorem dX9_statement_86 : decode cX9_statement 86 = .ok (.ifCond .ne 5, 3) := by decide +kernel
theorem dX9_statement_89 : decode cX9_statement 89 = .ok (.iconst 0, 1) := by decide +kernel
theorem dX9_statement_90 : decode cX9_statement 90 = .ok (.ireturn, 1) := by decide +kernel
theorem dX9_statement_91 : decode cX9_statement 91 = .ok (.aload_n 0, 1) := by decide +kernel
theorem dX9_statement_92 : decode cX9_statement 92 = .ok (.getfield 136, 3) := by decide +kernel
theorem dX9_statement_95 : decode cX9_statement 95 = .ok (.iconst 3, 1) := by decide +kernel
theorem dX9_statement_96 : decode cX9_statement 96 = .ok (.if_icmp .eq 9, 3) := by decide +kernel
theorem dX9_statement_99 : decode cX9_statement 99 = .ok (.aload_n 0, 1) := by decide +kernel
theorem dX9_statement_100 : decode cX9_statement 100 = .ok (.iconst 1, 1) := by decide +kernel
theorem dX9_statement_101 : decode cX9_statement 101 = .ok (.invokevirtual 155, 3) := by decide +kernel
theorem dX9_statement_104 : decode cX9_statement 104 = .ok (.ireturn, 1) := by decide +kernel
theorem dX9_statement_105 : decode cX9_statement 105 = .ok (.aload_n 0, 1) := by decide +kernel
theorem dX9_statement_106 : decode cX9_statement 106 = .ok (.invokevirtual 162, 3) := by decide +kernel
theorem dX9_statement_109 : decode cX9_statement 109 = .ok (.iconst 1, 1) := by decide +kernel
theorem dX9_statement_110 : decode cX9_statement 110 = .ok (.ireturn, 1) := by decide +kernel
set_option maxRecDepth 20000 in
theorem ggX9_parse_X9_within : GoodIn wsX9_parse wsX9_within := goodIn_r _ [19] (by decide +kernel) (by decide +kernel)
set_option maxRecDepth 20000 in
theorem gX9_parse_X9_within : GoodIn wsX9_parse (va_wsS RX9 139 yX9_within wsX9_within) := goodIn_app (goodIn_of _ (by decide +kernel)) ggX9_parse_X9_within
set_option maxRecDepth 20000 in
theorem ggX9_parse_X9_advance : GoodIn wsX9_parse wsX9_advance := goodIn_r _ [23, 4, 24, 25, 15, 26, 27, 28, 18, 29, 3, 30, 16, 17, 19, 165, 166, 167, 168, 169, 170, 171, 172, 173, 174, 175, 176, 177, 178, 179, 180, 181, 182, 183, 184, 185, 186, 187, 188, 189, 190, 191, 192, 193, 194, 195, 196, 197, 198, 199, 200, 201, 202, 203, 204, 205, 206, 207, 208, 209] (by decide +kernel) (by decide +kernel)
set_option maxRecDepth 20000 in
theorem gX9_parse_X9_advance : GoodIn wsX9_parse (wsV RX9 162 RX9 yX9_advance wsX9_advance) := goodIn_app (goodIn_of _ (by decide +kernel)) ggX9_parse_X9_advance
set_option maxRecDepth 20000 in
theorem ggX9_parse_X9_statement : GoodIn wsX9_parse wsX9_statement := goodIn_r _ [34, 15, 35, 36, 37, 18, 38, 4, 24, 30, 39, 40, 41, 42, 43, 44, 45, 46, 47, 48, 49, 50, 51, 52, 53, 54, 55, 56, 57, 58, 59, 60, 61, 62, 63, 64, 65, 66, 67, 68, 69, 70, 71, 72, 73, 74, 75, 76, 77, 78, 79, 80, 81, 82, 83, 84, 85, 86, 87, 88, 89, 90, 91, 7, 92, 93, 94, 95, 96, 97, 98, 99, 100, 101, 102, 103, 5, 6, 20, 21, 22, 23, 25, 26, 27, 28, 29, 3, 16, 17, 19, 104, 105, 106, 107, 108, 109, 110, 111, 8, 112, 113, 114, 115, 116, 117, 118, 119, 120, 121, 9, 122, 123, 124, 125, 126, 127, 128, 10, 129, 130, 131, 132, 133, 134, 11, 135, 136, 137, 138, 139, 140, 12, 13, 14, 141, 142, 143, 144, 165, 166, 167, 168, 169, 170, 171, 172, 173, 174, 175, 176, 177, 178, 179, 180, 181, 182, 183, 184, 185, 186, 187, 188, 189, 190, 191, 192, 193, 194, 195, 196, 197, 198, 199, 200, 201, 202, 203, 204, 205, 206, 207, 208, 209] (by decide +kernel) (by decide +kernel)
set_option maxRecDepth 20000 in
theorem gX9_parse_X9_statement : GoodIn wsX9_parse (wsV RX9 226 RX9 yX9_statement wsX9_statement) := goodIn_app (goodIn_of _ (by decide +kernel)) ggX9_parse_X9_statement
set_option maxRecDepth 20000 in
theorem ggX9_parse_X9_becomes : GoodIn wsX9_parse wsX9_becomes := goodIn_r _ [148, 7, 92, 94, 95, 8, 114, 112, 113, 9, 122, 123, 124, 10, 129, 130, 11, 135, 136, 12, 149, 13, 150, 14, 151, 152, 153, 18, 154, 155, 156, 157, 158, 159, 160, 161, 162, 163, 164, 165, 166, 167, 168, 169, 170, 171, 172, 173, 174, 175, 176, 177, 178, 179, 180, 181, 182, 183, 184, 185, 186, 187, 188, 189, 190, 191, 192, 193, 194, 195, 196, 197, 198, 199, 200, 201, 202, 203, 204, 205, 206, 207, 208, 209] (by decide +kernel) (by decide +kernel)
set_option maxRecDepth 20000 in
theorem gX9_parse_X9_becomes : GoodIn wsX9_parse (wsV RX9 229 RX9 yX9_becomes wsX9_becomes) := goodIn_app (goodIn_of _ (by decide +kernel)) ggX9_parse_X9_becomes
theorem dX9_parse_0 : decode cX9_parse 0 = .ok (.aload_n 0, 1) := by decide +kernel
theorem dX9_parse_1 : decode cX9_parse 1 = .ok (.iconst 0, 1) := by decide +kernel
theorem dX9_parse_2 : decode cX9_parse 2 = .ok (.putfield 1, 3) := by decide +kernel
theorem dX9_parse_5 : decode cX9_parse 5 = .ok (.iload_n 1, 1) := by decide +kernel
theorem dX9_parse_6 : decode cX9_parse 6 = .ok (.iconst 0, 1) := by decide +kernel
theorem dX9_parse_7 : decode cX9_parse 7 = .ok (.aload_n 0, 1) := by decide +kernel
theorem dX9_parse_8 : decode cX9_parse 8 = .ok (.getfield 113, 3) := by decide +kernel
theorem dX9_parse_11 : decode cX9_parse 11 = .ok (.invokestatic 139, 3) := by decide +kernel
theorem dX9_parse_14 : decode cX9_parse 14 = .ok (.ifCond .ne 5, 3) := by decide +kernel
theorem dX9_parse_17 : decode cX9_parse 17 = .ok (.iconst (-1), 1) := by decide +kernel
theorem dX9_parse_18 : decode cX9_parse 18 = .ok (.ireturn, 1) := by decide +kernel
theorem dX9_parse_19 : decode cX9_parse 19 = .ok (.aload_n 0, 1) := by decide +kernel
theorem dX9_parse_20 : decode cX9_parse 20 = .ok (.iload_n 1, 1) := by decide +kernel
theorem dX9_parse_21 : decode cX9_parse 21 = .ok (.putfield 120, 3) := by decide +kernel
theorem dX9_parse_24 : decode cX9_parse 24 = .ok (.aload_n 0, 1) := by decide +kernel
theorem dX9_parse_25 : decode cX9_parse 25 = .ok (.iconst 0, 1) := by decide +kernel
theorem dX9_parse_26 : decode cX9_parse 26 = .ok (.putfield 113, 3) := by decide +kernel
theorem dX9_parse_29 : decode cX9_parse 29 = .ok (.aload_n 0, 1) := by decide +kernel
theorem dX9_parse_30 : decode cX9_parse 30 = .ok (.iconst 0, 1) := by decide +kernel
theorem dX9_parse_31 : decode cX9_parse 31 = .ok (.putfield 123, 3) := by decide +kernel
theorem dX9_parse_34 : decode cX9_parse 34 = .ok (.aload_n 0, 1) := by decide +kernel
theorem dX9_parse_35 : decode cX9_parse 35 = .ok (.iconst 0, 1) := by decide +kernel
theorem dX9_parse_36 : decode cX9_parse 36 = .ok (.putfield 152, 3) := by decide +kernel
theorem dX9_parse_39 : decode cX9_parse 39 = .ok (.aload_n 0, 1) := by decide +kernel
theorem dX9_parse_40 : decode cX9_parse 40 = .ok (.bipush (-2), 2) := by decide +kernel
theorem dX9_parse_42 : decode cX9_parse 42 = .ok (.putfield 75, 3) := by decide +kernel
theorem dX9_parse_45 : decode cX9_parse 45 = .ok (.aload_n 0, 1) := by decide +kernel
theorem dX9_parse_46 : decode cX9_parse 46 = .ok (.getfield 17, 3) := by decide +kernel
theorem dX9_parse_49 : decode cX9_parse 49 = .ok (.iconst 1, 1) := by decide +kernel
theorem dX9_parse_50 : decode cX9_parse 50 = .ok (.iconst 0, 1) := by decide +kernel
theorem dX9_parse_51 : decode cX9_parse 51 = .ok (.iastore, 1) := by decide +kernel
theorem dX9_parse_52 : decode cX9_parse 52 = .ok (.aload_n 0, 1) := by decide +kernel
theorem dX9_parse_53 : decode cX9_parse 53 = .ok (.getfield 29, 3) := by decide +kernel
theorem dX9_parse_56 : decode cX9_parse 56 = .ok (.iconst 1, 1) := by decide +kernel
theorem dX9_parse_57 : decode cX9_parse 57 = .ok (.iconst 0, 1) := by decide +kernel
theorem dX9_parse_58 : decode cX9_parse 58 = .ok (.iastore, 1) := by decide +kernel
theorem dX9_parse_59 : decode cX9_parse 59 = .ok (.aload_n 0, 1) := by decide +kernel
theorem dX9_parse_60 : decode cX9_parse 60 = .ok (.getfield 41, 3) := by decide +kernel
theorem dX9_parse_63 : decode cX9_parse 63 = .ok (.iconst 1, 1) := by decide +kernel
theorem dX9_parse_64 : decode cX9_parse 64 = .ok (.iconst 0, 1) := by decide +kernel
theorem dX9_parse_65 : decode cX9_parse 65 = .ok (.iastore, 1) := by decide +kernel
theorem dX9_parse_66 : decode cX9_parse 66 = .ok (.aload_n 0, 1) := by decide +kernel
theorem dX9_parse_67 : decode cX9_parse 67 = .ok (.getfield 53, 3) := by decide +kernel
theorem dX9_parse_70 : decode cX9_parse 70 = .ok (.iconst 1, 1) := by decide +kernel
theorem dX9_parse_71 : decode cX9_parse 71 = .ok (.iconst 0, 1) := by decide +kernel
theorem dX9_parse_72 : decode cX9_parse 72 = .ok (.iastore, 1) := by decide +kernel
theorem dX9_parse_73 : decode cX9_parse 73 = .ok (.aload_n 0, 1) := by decide +kernel
theorem dX9_parse_74 : decode cX9_parse 74 = .ok (.getfield 62, 3) := by decide +kernel
theorem dX9_parse_77 : decode cX9_parse 77 = .ok (.iconst 1, 1) := by decide +kernel
theorem dX9_parse_78 : decode cX9_parse 78 = .ok (.iconst 0, 1) := by decide +kernel
theorem dX9_parse_79 : decode cX9_parse 79 = .ok (.iastore, 1) := by decide +kernel
theorem dX9_parse_80 : decode cX9_parse 80 = .ok (.aload_n 0, 1) := by decide +kernel
theorem dX9_parse_81 : decode cX9_parse 81 = .ok (.bipush (-2), 2) := by decide +kernel
theorem dX9_parse_83 : decode cX9_parse 83 = .ok (.putfield 182, 3) := by decide +kernel
theorem dX9_parse_86 : decode cX9_parse 86 = .ok (.aload_n 0, 1) := by decide +kernel
theorem dX9_parse_87 : decode cX9_parse 87 = .ok (.bipush (-2), 2) := by decide +kernel
theorem dX9_parse_89 : decode cX9_parse 89 = .ok (.putfield 190, 3) := by decide +kernel
theorem dX9_parse_92 : decode cX9_parse 92 = .ok (.aload_n 0, 1) := by decide +kernel
theorem dX9_parse_93 : decode cX9_parse 93 = .ok (.bipush (-2), 2) := by decide +kernel
theorem dX9_parse_95 : decode cX9_parse 95 = .ok (.putfield 194, 3) := by decide +kernel
theorem dX9_parse_98 : decode cX9_parse 98 = .ok (.aload_n 0, 1) := by decide +kernel
theorem dX9_parse_99 : decode cX9_parse 99 = .ok (.invokevirtual 162, 3) := by decide +kernel
theorem dX9_parse_102 : decode cX9_parse 102 = .ok (.iconst 1, 1) := by decide +kernel
theorem dX9_parse_103 : decode cX9_parse 103 = .ok (.istore_n 2, 1) := by decide +kernel
theorem dX9_parse_104 : decode cX9_parse 104 = .ok (.iload_n 2, 1) := by decide +kernel
theorem dX9_parse_105 : decode cX9_parse 105 = .ok (.ifCond .eq 18, 3) := by decide +kernel
theorem dX9_parse_108 : decode cX9_parse 108 = .ok (.aload_n 0, 1) := by decide +kernel
theorem dX9_parse_109 : decode cX9_parse 109 = .ok (.getfield 136, 3) := by decide +kernel
theorem dX9_parse_112 : decode cX9_parse 112 = .ok (.ifCond .eq 11, 3) := by decide +kernel
theorem dX9_parse_115 : decode cX9_parse 115 = .ok (.aload_n 0, 1) := by decide +kernel
theorem dX9_parse_116 : decode cX9_parse 116 = .ok (.invokevirtual 226, 3) := by decide +kernel
theorem dX9_parse_119 : decode cX9_parse 119 = .ok (.istore_n 2, 1) := by decide +kernel
theorem dX9_parse_120 : decode cX9_parse 120 = .ok (.goto (-16), 3) := by decide +kernel
theorem dX9_parse_123 : decode cX9_parse 123 = .ok (.iload_n 2, 1) := by decide +kernel
theorem dX9_parse_124 : decode cX9_parse 124 = .ok (.ifCond .ne 8, 3) := by decide +kernel
theorem dX9_parse_127 : decode cX9_parse 127 = .ok (.aload_n 0, 1) := by decide +kernel
theorem dX9_parse_128 : decode cX9_parse 128 = .ok (.getfield 152, 3) := by decide +kernel
theorem dX9_parse_131 : decode cX9_parse 131 = .ok (.ireturn, 1) := by decide +kernel
theorem dX9_parse_132 : decode cX9_parse 132 = .ok (.aload_n 0, 1) := by decide +kernel
theorem dX9_parse_133 : decode cX9_parse 133 = .ok (.invokevirtual 229, 3) := by decide +kernel
theorem dX9_parse_136 : decode cX9_parse 136 = .ok (.iconst 0, 1) := by decide +kernel
theorem dX9_parse_137 : decode cX9_parse 137 = .ok (.ireturn, 1) := by decide +kernel
theorem dX9_copies_0 : decode cX9_copies 0 = .ok (.iconst 0, 1) := by decide +kernel
theorem dX9_copies_1 : decode cX9_copies 1 = .ok (.istore 5, 2) := by decide +kernel
theorem dX9_copies_3 : decode cX9_copies 3 = .ok (.iload 5, 2) := by decide +kernel
theorem dX9_copies_5 : decode cX9_copies 5 = .ok (.iload 4, 2) := by decide +kernel
theorem dX9_copies_7 : decode cX9_copies 7 = .ok (.if_icmp .ge 21, 3) := by decide +kernel
theorem dX9_copies_10 : decode cX9_copies 10 = .ok (.aload_n 2, 1) := by decide +kernel
theorem dX9_copies_11 : decode cX9_copies 11 = .ok (.iload_n 3, 1) := by decide +kernel
theorem dX9_copies_12 : decode cX9_copies 12 = .ok (.iload 5, 2) := by decide +kernel
theorem dX9_copies_14 : decode cX9_copies 14 = .ok (.iadd, 1) := by decide +kernel
theorem dX9_copies_15 : decode cX9_copies 15 = .ok (.aload_n 0, 1) := by decide +kernel
theorem dX9_copies_16 : decode cX9_copies 16 = .ok (.iload_n 1, 1) := by decide +kernel
theorem dX9_copies_17 : decode cX9_copies 17 = .ok (.iload 5, 2) := by decide +kernel
theorem dX9_copies_19 : decode cX9_copies 19 = .ok (.iadd, 1) := by decide +kernel
theorem dX9_copies_20 : decode cX9_copies 20 = .ok (.iaload, 1) := by decide +kernel
theorem dX9_copies_21 : decode cX9_copies 21 = .ok (.iastore, 1) := by decide +kernel
theorem dX9_copies_22 : decode cX9_copies 22 = .ok (.iinc 5 1, 3) := by decide +kernel
theorem dX9_copies_25 : decode cX9_copies 25 = .ok (.goto (-22), 3) := by decide +kernel
theorem dX9_copies_28 : decode cX9_copies 28 = .ok (.return_, 1) := by decide +kernel
set_option maxRecDepth 20000 in
theorem ggX9_lifts_X9_copies : GoodIn wsX9_lifts wsX9_copies := goodIn_r _ [4] (by decide +kernel) (by decide +kernel)
set_option maxRecDepth 20000 in
theorem gX9_lifts_X9_copies : GoodIn wsX9_lifts (va_wsS RX9 232 yX9_copies wsX9_copies) := goodIn_app (goodIn_of _ (by decide +kernel)) ggX9_lifts_X9_copies
theorem dX9_lifts_0 : decode cX9_lifts 0 = .ok (.aload_n 0, 1) := by decide +kernel
theorem dX9_lifts_1 : decode cX9_lifts 1 = .ok (.arraylength, 1) := by decide +kernel
theorem dX9_lifts_2 : decode cX9_lifts 2 = .ok (.iconst 2, 1) := by decide +kernel
theorem dX9_lifts_3 : decode cX9_lifts 3 = .ok (.idiv, 1) := by decide +kernel
theorem dX9_lifts_4 : decode cX9_lifts 4 = .ok (.istore_n 1, 1) := by decide +kernel
theorem dX9_lifts_5 : decode cX9_lifts 5 = .ok (.aload_n 0, 1) := by decide +kernel
theorem dX9_lifts_6 : decode cX9_lifts 6 = .ok (.iload_n 1, 1) := by decide +kernel
theorem dX9_lifts_7 : decode cX9_lifts 7 = .ok (.aload_n 0, 1) := by decide +kernel
theorem dX9_lifts_8 : decode cX9_lifts 8 = .ok (.iconst 0, 1) := by decide +kernel
theorem dX9_lifts_9 : decode cX9_lifts 9 = .ok (.iload_n 1, 1) := by decide +kernel
theorem dX9_lifts_10 : decode cX9_lifts 10 = .ok (.invokestatic 232, 3) := by decide +kernel
theorem dX9_lifts_13 : decode cX9_lifts 13 = .ok (.return_, 1) := by decide +kernel
set_option maxRecDepth 20000 in
theorem ggX9_becomes_X9_lifts : GoodIn wsX9_becomes wsX9_lifts := goodIn_r _ [28, 29, 30, 27, 31] (by decide +kernel) (by decide +kernel)
set_option maxRecDepth 20000 in
theorem gX9_becomes_X9_lifts : GoodIn wsX9_becomes (va_wsS RX9 236 yX9_lifts wsX9_lifts) := goodIn_app (goodIn_of _ (by decide +kernel)) ggX9_becomes_X9_lifts
set_option maxRecDepth 20000 in
theorem ggX9_becomes_X9_begins : GoodIn wsX9_becomes wsX9_begins := goodIn_r _ [35, 36, 5, 22, 24, 20, 37, 38, 39, 40, 41, 42, 43, 44, 45, 46, 47, 48, 49, 50, 51, 52, 53, 54, 55, 56, 57, 58, 59, 60, 61, 62, 63, 64, 65, 66, 67, 68, 69, 70, 71, 72, 73, 74, 75, 76, 77, 78, 79, 80, 81, 82, 83] (by decide +kernel) (by decide +kernel)
set_option maxRecDepth 20000 in
theorem gX9_becomes_X9_begins : GoodIn wsX9_becomes (wsV RX9 110 RX9 yX9_begins wsX9_begins) := goodIn_app (goodIn_of _ (by decide +kernel)) ggX9_becomes_X9_begins
theorem dX9_becomes_0 : decode cX9_becomes 0 = .ok (.aload_n 0, 1) := by decide +kernel
theorem dX9_becomes_1 : decode cX9_becomes 1 = .ok (.getfield 17, 3) := by decide +kernel
theorem dX9_becomes_4 : decode cX9_becomes 4 = .ok (.invokestatic 236, 3) := by decide +kernel
theorem dX9_becomes_7 : decode cX9_becomes 7 = .ok (.aload_n 0, 1) := by decide +kernel
theorem dX9_becomes_8 : decode cX9_becomes 8 = .ok (.getfield 20, 3) := by decide +kernel
theorem dX9_becomes_11 : decode cX9_becomes 11 = .ok (.invokestatic 236, 3) := by decide +kernel
theorem dX9_becomes_14 : decode cX9_becomes 14 = .ok (.aload_n 0, 1) := by decide +kernel
theorem dX9_becomes_15 : decode cX9_becomes 15 = .ok (.getfield 23, 3) := by decide +kernel
theorem dX9_becomes_18 : decode cX9_becomes 18 = .ok (.invokestatic 236, 3) := by decide +kernel
theorem dX9_becomes_21 : decode cX9_becomes 21 = .ok (.aload_n 0, 1) := by decide +kernel
theorem dX9_becomes_22 : decode cX9_becomes 22 = .ok (.getfield 26, 3) := by decide +kernel
theorem dX9_becomes_25 : decode cX9_becomes 25 = .ok (.invokestatic 236, 3) := by decide +kernel
theorem dX9_becomes_28 : decode cX9_becomes 28 = .ok (.aload_n 0, 1) := by decide +kernel
theorem dX9_becomes_29 : decode cX9_becomes 29 = .ok (.getfield 29, 3) := by decide +kernel
theorem dX9_becomes_32 : decode cX9_becomes 32 = .ok (.invokestatic 236, 3) := by decide +kernel
theorem dX9_becomes_35 : decode cX9_becomes 35 = .ok (.aload_n 0, 1) := by decide +kernel
theorem dX9_becomes_36 : decode cX9_becomes 36 = .ok (.getfield 32, 3) := by decide +kernel
theorem dX9_becomes_39 : decode cX9_becomes 39 = .ok (.invokestatic 236, 3) := by decide +kernel
theorem dX9_becomes_42 : decode cX9_becomes 42 = .ok (.aload_n 0, 1) := by decide +kernel
theorem dX9_becomes_43 : decode cX9_becomes 43 = .ok (.getfield 35, 3) := by decide +kernel
theorem dX9_becomes_46 : decode cX9_becomes 46 = .ok (.invokestatic 236, 3) := by decide +kernel
theorem dX9_becomes_49 : decode cX9_becomes 49 = .ok (.aload_n 0, 1) := by decide +kernel
theorem dX9_becomes_50 : decode cX9_becomes 50 = .ok (.getfield 38, 3) := by decide +kernel
theorem dX9_becomes_53 : decode cX9_becomes 53 = .ok (.invokestatic 236, 3) := by decide +kernel
theorem dX9_becomes_56 : decode cX9_becomes 56 = .ok (.aload_n 0, 1) := by decide +kernel
theorem dX9_becomes_57 : decode cX9_becomes 57 = .ok (.getfield 41, 3) := by decide +kernel
theorem dX9_becomes_60 : decode cX9_becomes 60 = .ok (.invokestatic 236, 3) := by decide +kernel
theorem dX9_becomes_63 : decode cX9_becomes 63 = .ok (.aload_n 0, 1) := by decide +kernel
theorem dX9_becomes_64 : decode cX9_becomes 64 = .ok (.getfield 44, 3) := by decide +kernel
theorem dX9_becomes_67 : decode cX9_becomes 67 = .ok (.invokestatic 236, 3) := by decide +kernel
theorem dX9_becomes_70 : decode cX9_becomes 70 = .ok (.aload_n 0, 1) := by decide +kernel
theorem dX9_becomes_71 : decode cX9_becomes 71 = .ok (.getfield 47, 3) := by decide +kernel
theorem dX9_becomes_74 : decode cX9_becomes 74 = .ok (.invokestatic 236, 3) := by decide +kernel
theorem dX9_becomes_77 : decode cX9_becomes 77 = .ok (.aload_n 0, 1) := by decide +kernel
theorem dX9_becomes_78 : decode cX9_becomes 78 = .ok (.getfield 50, 3) := by decide +kernel
theorem dX9_becomes_81 : decode cX9_becomes 81 = .ok (.invokestatic 236, 3) := by decide +kernel
theorem dX9_becomes_84 : decode cX9_becomes 84 = .ok (.aload_n 0, 1) := by decide +kernel
theorem dX9_becomes_85 : decode cX9_becomes 85 = .ok (.getfield 53, 3) := by decide +kernel
theorem dX9_becomes_88 : decode cX9_becomes 88 = .ok (.invokestatic 236, 3) := by decide +kernel
theorem dX9_becomes_91 : decode cX9_becomes 91 = .ok (.aload_n 0, 1) := by decide +kernel
theorem dX9_becomes_92 : decode cX9_becomes 92 = .ok (.getfield 56, 3) := by decide +kernel
theorem dX9_becomes_95 : decode cX9_becomes 95 = .ok (.invokestatic 236, 3) := by decide +kernel
theorem dX9_becomes_98 : decode cX9_becomes 98 = .ok (.aload_n 0, 1) := by decide +kernel
theorem dX9_becomes_99 : decode cX9_becomes 99 = .ok (.getfield 59, 3) := by decide +kernel
theorem dX9_becomes_102 : decode cX9_becomes 102 = .ok (.invokestatic 236, 3) := by decide +kernel
theorem dX9_becomes_105 : decode cX9_becomes 105 = .ok (.aload_n 0, 1) := by decide +kernel
theorem dX9_becomes_106 : decode cX9_becomes 106 = .ok (.getfield 62, 3) := by decide +kernel
theorem dX9_becomes_109 : decode cX9_becomes 109 = .ok (.invokestatic 236, 3) := by decide +kernel
theorem dX9_becomes_112 : decode cX9_becomes 112 = .ok (.aload_n 0, 1) := by decide +kernel
theorem dX9_becomes_113 : decode cX9_becomes 113 = .ok (.getfield 65, 3) := by decide +kernel
theorem dX9_becomes_116 : decode cX9_becomes 116 = .ok (.invokestatic 236, 3) := by decide +kernel
theorem dX9_becomes_119 : decode cX9_becomes 119 = .ok (.aload_n 0, 1) := by decide +kernel
theorem dX9_becomes_120 : decode cX9_becomes 120 = .ok (.getfield 68, 3) := by decide +kernel
theorem dX9_becomes_123 : decode cX9_becomes 123 = .ok (.invokestatic 236, 3) := by decide +kernel
theorem dX9_becomes_126 : decode cX9_becomes 126 = .ok (.aload_n 0, 1) := by decide +kernel
theorem dX9_becomes_127 : decode cX9_becomes 127 = .ok (.aload_n 0, 1) := by decide +kernel
theorem dX9_becomes_128 : decode cX9_becomes 128 = .ok (.getfield 182, 3) := by decide +kernel
theorem dX9_becomes_131 : decode cX9_becomes 131 = .ok (.bipush (-2), 2) := by decide +kernel
theorem dX9_becomes_133 : decode cX9_becomes 133 = .ok (.if_icmp .ne 8, 3) := by decide +kernel
theorem dX9_becomes_136 : decode cX9_becomes 136 = .ok (.bipush 8, 2) := by decide +kernel
theorem dX9_becomes_138 : decode cX9_becomes 138 = .ok (.goto 7, 3) := by decide +kernel
theorem dX9_becomes_141 : decode cX9_becomes 141 = .ok (.aload_n 0, 1) := by decide +kernel
theorem dX9_becomes_142 : decode cX9_becomes 142 = .ok (.getfield 182, 3) := by decide +kernel
theorem dX9_becomes_145 : decode cX9_becomes 145 = .ok (.putfield 104, 3) := by decide +kernel
theorem dX9_becomes_148 : decode cX9_becomes 148 = .ok (.aload_n 0, 1) := by decide +kernel
theorem dX9_becomes_149 : decode cX9_becomes 149 = .ok (.aload_n 0, 1) := by decide +kernel
theorem dX9_becomes_150 : decode cX9_becomes 150 = .ok (.getfield 190, 3) := by decide +kernel
theorem dX9_becomes_153 : decode cX9_becomes 153 = .ok (.bipush (-2), 2) := by decide +kernel
theorem dX9_becomes_155 : decode cX9_becomes 155 = .ok (.if_icmp .ne 7, 3) := by decide +kernel
theorem dX9_becomes_158 : decode cX9_becomes 158 = .ok (.iconst 0, 1) := by decide +kernel
theorem dX9_becomes_159 : decode cX9_becomes 159 = .ok (.goto 7, 3) := by decide +kernel
theorem dX9_becomes_162 : decode cX9_becomes 162 = .ok (.aload_n 0, 1) := by decide +kernel
theorem dX9_becomes_163 : decode cX9_becomes 163 = .ok (.getfield 190, 3) := by decide +kernel
theorem dX9_becomes_166 : decode cX9_becomes 166 = .ok (.putfield 240, 3) := by decide +kernel
theorem dX9_becomes_169 : decode cX9_becomes 169 = .ok (.aload_n 0, 1) := by decide +kernel
theorem dX9_becomes_170 : decode cX9_becomes 170 = .ok (.aload_n 0, 1) := by decide +kernel
theorem dX9_becomes_171 : decode cX9_becomes 171 = .ok (.getfield 194, 3) := by decide +kernel
theorem dX9_becomes_174 : decode cX9_becomes 174 = .ok (.bipush (-2), 2) := by decide +kernel
theorem dX9_becomes_176 : decode cX9_becomes 176 = .ok (.if_icmp .ne 7, 3) := by decide +kernel
theorem dX9_becomes_179 : decode cX9_becomes 179 = .ok (.iconst 1, 1) := by decide +kernel
theorem dX9_becomes_180 : decode cX9_becomes 180 = .ok (.goto 7, 3) := by decide +kernel
theorem dX9_becomes_183 : decode cX9_becomes 183 = .ok (.aload_n 0, 1) := by decide +kernel
theorem dX9_becomes_184 : decode cX9_becomes 184 = .ok (.getfield 194, 3) := by decide +kernel
theorem dX9_becomes_187 : decode cX9_becomes 187 = .ok (.putfield 107, 3) := by decide +kernel
theorem dX9_becomes_190 : decode cX9_becomes 190 = .ok (.aload_n 0, 1) := by decide +kernel
theorem dX9_becomes_191 : decode cX9_becomes 191 = .ok (.invokevirtual 110, 3) := by decide +kernel
theorem dX9_becomes_194 : decode cX9_becomes 194 = .ok (.return_, 1) := by decide +kernel
theorem dX9_begins_0 : decode cX9_begins 0 = .ok (.iconst 0, 1) := by decide +kernel
theorem dX9_begins_1 : decode cX9_begins 1 = .ok (.istore_n 1, 1) := by decide +kernel
theorem dX9_begins_2 : decode cX9_begins 2 = .ok (.iload_n 1, 1) := by decide +kernel
theorem dX9_begins_3 : decode cX9_begins 3 = .ok (.sipush 213, 3) := by decide +kernel
theorem dX9_begins_6 : decode cX9_begins 6 = .ok (.if_icmp .ge 16, 3) := by decide +kernel
theorem dX9_begins_9 : decode cX9_begins 9 = .ok (.aload_n 0, 1) := by decide +kernel
theorem dX9_begins_10 : decode cX9_begins 10 = .ok (.getfield 13, 3) := by decide +kernel
theorem dX9_begins_13 : decode cX9_begins 13 = .ok (.iload_n 1, 1) := by decide +kernel
theorem dX9_begins_14 : decode cX9_begins 14 = .ok (.iconst 0, 1) := by decide +kernel
theorem dX9_begins_15 : decode cX9_begins 15 = .ok (.iastore, 1) := by decide +kernel
theorem dX9_begins_16 : decode cX9_begins 16 = .ok (.iinc 1 1, 3) := by decide +kernel
theorem dX9_begins_19 : decode cX9_begins 19 = .ok (.goto (-17), 3) := by decide +kernel
theorem dX9_begins_22 : decode cX9_begins 22 = .ok (.aload_n 0, 1) := by decide +kernel
theorem dX9_begins_23 : decode cX9_begins 23 = .ok (.getfield 13, 3) := by decide +kernel
theorem dX9_begins_26 : decode cX9_begins 26 = .ok (.iconst 1, 1) := by decide +kernel
