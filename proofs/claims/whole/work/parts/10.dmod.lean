theorem dX9_init_0 : decode cX9_init 0 = .ok (.aload_n 0, 1) := by decide +kernel
theorem dX9_init_1 : decode cX9_init 1 = .ok (.invokespecial 3, 3) := by decide +kernel
theorem dX9_init_4 : decode cX9_init 4 = .ok (.aload_n 0, 1) := by decide +kernel
theorem dX9_init_5 : decode cX9_init 5 = .ok (.bipush 30, 2) := by decide +kernel
theorem dX9_init_7 : decode cX9_init 7 = .ok (.newarray .char, 2) := by decide +kernel
theorem dX9_init_9 : decode cX9_init 9 = .ok (.putfield 9, 3) := by decide +kernel
theorem dX9_init_12 : decode cX9_init 12 = .ok (.aload_n 0, 1) := by decide +kernel
theorem dX9_init_13 : decode cX9_init 13 = .ok (.bipush 30, 2) := by decide +kernel
theorem dX9_init_15 : decode cX9_init 15 = .ok (.newarray .int, 2) := by decide +kernel
theorem dX9_init_17 : decode cX9_init 17 = .ok (.putfield 13, 3) := by decide +kernel
theorem dX9_init_20 : decode cX9_init 20 = .ok (.aload_n 0, 1) := by decide +kernel
theorem dX9_init_21 : decode cX9_init 21 = .ok (.bipush 30, 2) := by decide +kernel
theorem dX9_init_23 : decode cX9_init 23 = .ok (.newarray .int, 2) := by decide +kernel
theorem dX9_init_25 : decode cX9_init 25 = .ok (.putfield 17, 3) := by decide +kernel
theorem dX9_init_28 : decode cX9_init 28 = .ok (.aload_n 0, 1) := by decide +kernel
theorem dX9_init_29 : decode cX9_init 29 = .ok (.iconst 3, 1) := by decide +kernel
theorem dX9_init_30 : decode cX9_init 30 = .ok (.newarray .int, 2) := by decide +kernel
theorem dX9_init_32 : decode cX9_init 32 = .ok (.putfield 20, 3) := by decide +kernel
theorem dX9_init_35 : decode cX9_init 35 = .ok (.aload_n 0, 1) := by decide +kernel
theorem dX9_init_36 : decode cX9_init 36 = .ok (.bipush 6, 2) := by decide +kernel
theorem dX9_init_38 : decode cX9_init 38 = .ok (.newarray .int, 2) := by decide +kernel
theorem dX9_init_40 : decode cX9_init 40 = .ok (.putfield 23, 3) := by decide +kernel
theorem dX9_init_43 : decode cX9_init 43 = .ok (.aload_n 0, 1) := by decide +kernel
theorem dX9_init_44 : decode cX9_init 44 = .ok (.bipush 72, 2) := by decide +kernel
theorem dX9_init_46 : decode cX9_init 46 = .ok (.newarray .int, 2) := by decide +kernel
theorem dX9_init_48 : decode cX9_init 48 = .ok (.putfield 26, 3) := by decide +kernel
theorem dX9_init_51 : decode cX9_init 51 = .ok (.aload_n 0, 1) := by decide +kernel
theorem dX9_init_52 : decode cX9_init 52 = .ok (.bipush 72, 2) := by decide +kernel
theorem dX9_init_54 : decode cX9_init 54 = .ok (.newarray .int, 2) := by decide +kernel
theorem dX9_init_56 : decode cX9_init 56 = .ok (.putfield 29, 3) := by decide +kernel
theorem dX9_init_59 : decode cX9_init 59 = .ok (.aload_n 0, 1) := by decide +kernel
theorem dX9_init_60 : decode cX9_init 60 = .ok (.bipush 16, 2) := by decide +kernel
theorem dX9_init_62 : decode cX9_init 62 = .ok (.newarray .int, 2) := by decide +kernel
theorem dX9_init_64 : decode cX9_init 64 = .ok (.putfield 32, 3) := by decide +kernel
theorem dX9_init_67 : decode cX9_init 67 = .ok (.aload_n 0, 1) := by decide +kernel
theorem dX9_init_68 : decode cX9_init 68 = .ok (.iconst 4, 1) := by decide +kernel
theorem dX9_init_69 : decode cX9_init 69 = .ok (.newarray .int, 2) := by decide +kernel
theorem dX9_init_71 : decode cX9_init 71 = .ok (.putfield 35, 3) := by decide +kernel
theorem dX9_init_74 : decode cX9_init 74 = .ok (.aload_n 0, 1) := by decide +kernel
theorem dX9_init_75 : decode cX9_init 75 = .ok (.iconst 4, 1) := by decide +kernel
theorem dX9_init_76 : decode cX9_init 76 = .ok (.newarray .boolean, 2) := by decide +kernel
theorem dX9_init_78 : decode cX9_init 78 = .ok (.putfield 38, 3) := by decide +kernel
theorem dX9_init_81 : decode cX9_init 81 = .ok (.aload_n 0, 1) := by decide +kernel
theorem dX9_init_82 : decode cX9_init 82 = .ok (.iconst 4, 1) := by decide +kernel
theorem dX9_init_83 : decode cX9_init 83 = .ok (.newarray .boolean, 2) := by decide +kernel
theorem dX9_init_85 : decode cX9_init 85 = .ok (.putfield 42, 3) := by decide +kernel
theorem dX9_init_88 : decode cX9_init 88 = .ok (.aload_n 0, 1) := by decide +kernel
theorem dX9_init_89 : decode cX9_init 89 = .ok (.iconst 4, 1) := by decide +kernel
theorem dX9_init_90 : decode cX9_init 90 = .ok (.newarray .int, 2) := by decide +kernel
theorem dX9_init_92 : decode cX9_init 92 = .ok (.putfield 45, 3) := by decide +kernel
theorem dX9_init_95 : decode cX9_init 95 = .ok (.aload_n 0, 1) := by decide +kernel
theorem dX9_init_96 : decode cX9_init 96 = .ok (.iconst 4, 1) := by decide +kernel
theorem dX9_init_97 : decode cX9_init 97 = .ok (.newarray .int, 2) := by decide +kernel
theorem dX9_init_99 : decode cX9_init 99 = .ok (.putfield 48, 3) := by decide +kernel
theorem dX9_init_102 : decode cX9_init 102 = .ok (.aload_n 0, 1) := by decide +kernel
theorem dX9_init_103 : decode cX9_init 103 = .ok (.iconst 4, 1) := by decide +kernel
theorem dX9_init_104 : decode cX9_init 104 = .ok (.newarray .int, 2) := by decide +kernel
theorem dX9_init_106 : decode cX9_init 106 = .ok (.putfield 51, 3) := by decide +kernel
theorem dX9_init_109 : decode cX9_init 109 = .ok (.aload_n 0, 1) := by decide +kernel
theorem dX9_init_110 : decode cX9_init 110 = .ok (.iconst 4, 1) := by decide +kernel
theorem dX9_init_111 : decode cX9_init 111 = .ok (.newarray .int, 2) := by decide +kernel
theorem dX9_init_113 : decode cX9_init 113 = .ok (.putfield 54, 3) := by decide +kernel
theorem dX9_init_116 : decode cX9_init 116 = .ok (.aload_n 0, 1) := by decide +kernel
theorem dX9_init_117 : decode cX9_init 117 = .ok (.iconst 4, 1) := by decide +kernel
theorem dX9_init_118 : decode cX9_init 118 = .ok (.newarray .int, 2) := by decide +kernel
theorem dX9_init_120 : decode cX9_init 120 = .ok (.putfield 57, 3) := by decide +kernel
theorem dX9_init_123 : decode cX9_init 123 = .ok (.aload_n 0, 1) := by decide +kernel
theorem dX9_init_124 : decode cX9_init 124 = .ok (.iconst 4, 1) := by decide +kernel
theorem dX9_init_125 : decode cX9_init 125 = .ok (.newarray .int, 2) := by decide +kernel
theorem dX9_init_127 : decode cX9_init 127 = .ok (.putfield 60, 3) := by decide +kernel
theorem dX9_init_130 : decode cX9_init 130 = .ok (.aload_n 0, 1) := by decide +kernel
theorem dX9_init_131 : decode cX9_init 131 = .ok (.iconst 4, 1) := by decide +kernel
theorem dX9_init_132 : decode cX9_init 132 = .ok (.newarray .int, 2) := by decide +kernel
theorem dX9_init_134 : decode cX9_init 134 = .ok (.putfield 63, 3) := by decide +kernel
theorem dX9_init_137 : decode cX9_init 137 = .ok (.aload_n 0, 1) := by decide +kernel
theorem dX9_init_138 : decode cX9_init 138 = .ok (.iconst 4, 1) := by decide +kernel
theorem dX9_init_139 : decode cX9_init 139 = .ok (.newarray .boolean, 2) := by decide +kernel
theorem dX9_init_141 : decode cX9_init 141 = .ok (.putfield 66, 3) := by decide +kernel
theorem dX9_init_144 : decode cX9_init 144 = .ok (.aload_n 0, 1) := by decide +kernel
theorem dX9_init_145 : decode cX9_init 145 = .ok (.iconst 4, 1) := by decide +kernel
theorem dX9_init_146 : decode cX9_init 146 = .ok (.newarray .int, 2) := by decide +kernel
theorem dX9_init_148 : decode cX9_init 148 = .ok (.putfield 69, 3) := by decide +kernel
theorem dX9_init_151 : decode cX9_init 151 = .ok (.aload_n 0, 1) := by decide +kernel
theorem dX9_init_152 : decode cX9_init 152 = .ok (.iconst 4, 1) := by decide +kernel
theorem dX9_init_153 : decode cX9_init 153 = .ok (.newarray .int, 2) := by decide +kernel
theorem dX9_init_155 : decode cX9_init 155 = .ok (.putfield 72, 3) := by decide +kernel
theorem dX9_init_158 : decode cX9_init 158 = .ok (.aload_n 0, 1) := by decide +kernel
theorem dX9_init_159 : decode cX9_init 159 = .ok (.iconst 4, 1) := by decide +kernel
theorem dX9_init_160 : decode cX9_init 160 = .ok (.newarray .int, 2) := by decide +kernel
theorem dX9_init_162 : decode cX9_init 162 = .ok (.putfield 75, 3) := by decide +kernel
theorem dX9_init_165 : decode cX9_init 165 = .ok (.aload_n 0, 1) := by decide +kernel
theorem dX9_init_166 : decode cX9_init 166 = .ok (.iconst 4, 1) := by decide +kernel
theorem dX9_init_167 : decode cX9_init 167 = .ok (.newarray .int, 2) := by decide +kernel
theorem dX9_init_169 : decode cX9_init 169 = .ok (.putfield 78, 3) := by decide +kernel
theorem dX9_init_172 : decode cX9_init 172 = .ok (.aload_n 0, 1) := by decide +kernel
theorem dX9_init_173 : decode cX9_init 173 = .ok (.iconst 3, 1) := by decide +kernel
theorem dX9_init_174 : decode cX9_init 174 = .ok (.newarray .int, 2) := by decide +kernel
theorem dX9_init_176 : decode cX9_init 176 = .ok (.putfield 81, 3) := by decide +kernel
theorem dX9_init_179 : decode cX9_init 179 = .ok (.aload_n 0, 1) := by decide +kernel
theorem dX9_init_180 : decode cX9_init 180 = .ok (.bipush 12, 2) := by decide +kernel
theorem dX9_init_182 : decode cX9_init 182 = .ok (.newarray .int, 2) := by decide +kernel
theorem dX9_init_184 : decode cX9_init 184 = .ok (.putfield 84, 3) := by decide +kernel
theorem dX9_init_187 : decode cX9_init 187 = .ok (.aload_n 0, 1) := by decide +kernel
theorem dX9_init_188 : decode cX9_init 188 = .ok (.iconst 4, 1) := by decide +kernel
theorem dX9_init_189 : decode cX9_init 189 = .ok (.newarray .int, 2) := by decide +kernel
theorem dX9_init_191 : decode cX9_init 191 = .ok (.putfield 87, 3) := by decide +kernel
theorem dX9_init_194 : decode cX9_init 194 = .ok (.aload_n 0, 1) := by decide +kernel
theorem dX9_init_195 : decode cX9_init 195 = .ok (.iconst 4, 1) := by decide +kernel
theorem dX9_init_196 : decode cX9_init 196 = .ok (.newarray .int, 2) := by decide +kernel
theorem dX9_init_198 : decode cX9_init 198 = .ok (.putfield 90, 3) := by decide +kernel
theorem dX9_init_201 : decode cX9_init 201 = .ok (.aload_n 0, 1) := by decide +kernel
theorem dX9_init_202 : decode cX9_init 202 = .ok (.iconst 4, 1) := by decide +kernel
theorem dX9_init_203 : decode cX9_init 203 = .ok (.newarray .int, 2) := by decide +kernel
theorem dX9_init_205 : decode cX9_init 205 = .ok (.putfield 93, 3) := by decide +kernel
theorem dX9_init_208 : decode cX9_init 208 = .ok (.aload_n 0, 1) := by decide +kernel
theorem dX9_init_209 : decode cX9_init 209 = .ok (.bipush 9, 2) := by decide +kernel
theorem dX9_init_211 : decode cX9_init 211 = .ok (.newarray .int, 2) := by decide +kernel
theorem dX9_init_213 : decode cX9_init 213 = .ok (.putfield 96, 3) := by decide +kernel
theorem dX9_init_216 : decode cX9_init 216 = .ok (.aload_n 0, 1) := by decide +kernel
theorem dX9_init_217 : decode cX9_init 217 = .ok (.bipush 36, 2) := by decide +kernel
theorem dX9_init_219 : decode cX9_init 219 = .ok (.newarray .int, 2) := by decide +kernel
theorem dX9_init_221 : decode cX9_init 221 = .ok (.putfield 99, 3) := by decide +kernel
theorem dX9_init_224 : decode cX9_init 224 = .ok (.aload_n 0, 1) := by decide +kernel
theorem dX9_init_225 : decode cX9_init 225 = .ok (.bipush 6, 2) := by decide +kernel
theorem dX9_init_227 : decode cX9_init 227 = .ok (.newarray .boolean, 2) := by decide +kernel
theorem dX9_init_229 : decode cX9_init 229 = .ok (.putfield 102, 3) := by decide +kernel
theorem dX9_init_232 : decode cX9_init 232 = .ok (.aload_n 0, 1) := by decide +kernel
theorem dX9_init_233 : decode cX9_init 233 = .ok (.iconst 3, 1) := by decide +kernel
theorem dX9_init_234 : decode cX9_init 234 = .ok (.newarray .int, 2) := by decide +kernel
theorem dX9_init_236 : decode cX9_init 236 = .ok (.putfield 105, 3) := by decide +kernel
theorem dX9_init_239 : decode cX9_init 239 = .ok (.aload_n 0, 1) := by decide +kernel
theorem dX9_init_240 : decode cX9_init 240 = .ok (.bipush 12, 2) := by decide +kernel
theorem dX9_init_242 : decode cX9_init 242 = .ok (.newarray .int, 2) := by decide +kernel
theorem dX9_init_244 : decode cX9_init 244 = .ok (.putfield 108, 3) := by decide +kernel
theorem dX9_init_247 : decode cX9_init 247 = .ok (.aload_n 0, 1) := by decide +kernel
theorem dX9_init_248 : decode cX9_init 248 = .ok (.iconst 4, 1) := by decide +kernel
theorem dX9_init_249 : decode cX9_init 249 = .ok (.newarray .int, 2) := by decide +kernel
theorem dX9_init_251 : decode cX9_init 251 = .ok (.putfield 111, 3) := by decide +kernel
theorem dX9_init_254 : decode cX9_init 254 = .ok (.aload_n 0, 1) := by decide +kernel
theorem dX9_init_255 : decode cX9_init 255 = .ok (.iconst 4, 1) := by decide +kernel
theorem dX9_init_256 : decode cX9_init 256 = .ok (.newarray .boolean, 2) := by decide +kernel
theorem dX9_init_258 : decode cX9_init 258 = .ok (.putfield 114, 3) := by decide +kernel
theorem dX9_init_261 : decode cX9_init 261 = .ok (.aload_n 0, 1) := by decide +kernel
theorem dX9_init_262 : decode cX9_init 262 = .ok (.bipush 32, 2) := by decide +kernel
theorem dX9_init_264 : decode cX9_init 264 = .ok (.putfield 117, 3) := by decide +kernel
theorem dX9_init_267 : decode cX9_init 267 = .ok (.aload_n 0, 1) := by decide +kernel
theorem dX9_init_268 : decode cX9_init 268 = .ok (.bipush 30, 2) := by decide +kernel
theorem dX9_init_270 : decode cX9_init 270 = .ok (.newarray .int, 2) := by decide +kernel
theorem dX9_init_272 : decode cX9_init 272 = .ok (.putfield 121, 3) := by decide +kernel
theorem dX9_init_275 : decode cX9_init 275 = .ok (.aload_n 0, 1) := by decide +kernel
theorem dX9_init_276 : decode cX9_init 276 = .ok (.bipush 30, 2) := by decide +kernel
theorem dX9_init_278 : decode cX9_init 278 = .ok (.newarray .int, 2) := by decide +kernel
theorem dX9_init_280 : decode cX9_init 280 = .ok (.putfield 124, 3) := by decide +kernel
theorem dX9_init_283 : decode cX9_init 283 = .ok (.aload_n 0, 1) := by decide +kernel
theorem dX9_init_284 : decode cX9_init 284 = .ok (.bipush 30, 2) := by decide +kernel
theorem dX9_init_286 : decode cX9_init 286 = .ok (.newarray .int, 2) := by decide +kernel
theorem dX9_init_288 : decode cX9_init 288 = .ok (.putfield 127, 3) := by decide +kernel
theorem dX9_init_291 : decode cX9_init 291 = .ok (.aload_n 0, 1) := by decide +kernel
theorem dX9_init_292 : decode cX9_init 292 = .ok (.iconst 0, 1) := by decide +kernel
theorem dX9_init_293 : decode cX9_init 293 = .ok (.putfield 130, 3) := by decide +kernel
theorem dX9_init_296 : decode cX9_init 296 = .ok (.return_, 1) := by decide +kernel
theorem dX9_thrown_0 : decode cX9_thrown 0 = .ok (.aload_n 0, 1) := by decide +kernel
theorem dX9_thrown_1 : decode cX9_thrown 1 = .ok (.getfield 130, 3) := by decide +kernel
theorem dX9_thrown_4 : decode cX9_thrown 4 = .ok (.ireturn, 1) := by decide +kernel
theorem dX9_in_0 : decode cX9_in 0 = .ok (.iload_n 0, 1) := by decide +kernel
theorem dX9_in_1 : decode cX9_in 1 = .ok (.iload_n 1, 1) := by decide +kernel
theorem dX9_in_2 : decode cX9_in 2 = .ok (.if_icmp .lt 12, 3) := by decide +kernel
theorem dX9_in_5 : decode cX9_in 5 = .ok (.iload_n 0, 1) := by decide +kernel
theorem dX9_in_6 : decode cX9_in 6 = .ok (.iload_n 2, 1) := by decide +kernel
theorem dX9_in_7 : decode cX9_in 7 = .ok (.if_icmp .gt 7, 3) := by decide +kernel
theorem dX9_in_10 : decode cX9_in 10 = .ok (.iconst 1, 1) := by decide +kernel
theorem dX9_in_11 : decode cX9_in 11 = .ok (.goto 4, 3) := by decide +kernel
theorem dX9_in_14 : decode cX9_in 14 = .ok (.iconst 0, 1) := by decide +kernel
theorem dX9_in_15 : decode cX9_in 15 = .ok (.ireturn, 1) := by decide +kernel
theorem dX9_greater_0 : decode cX9_greater 0 = .ok (.iload_n 0, 1) := by decide +kernel
theorem dX9_greater_1 : decode cX9_greater 1 = .ok (.iload_n 1, 1) := by decide +kernel
theorem dX9_greater_2 : decode cX9_greater 2 = .ok (.if_icmp .le 7, 3) := by decide +kernel
theorem dX9_greater_5 : decode cX9_greater 5 = .ok (.iload_n 0, 1) := by decide +kernel
theorem dX9_greater_6 : decode cX9_greater 6 = .ok (.goto 4, 3) := by decide +kernel
theorem dX9_greater_9 : decode cX9_greater 9 = .ok (.iload_n 1, 1) := by decide +kernel
theorem dX9_greater_10 : decode cX9_greater 10 = .ok (.ireturn, 1) := by decide +kernel
theorem dX9_lesser_0 : decode cX9_lesser 0 = .ok (.iload_n 0, 1) := by decide +kernel
theorem dX9_lesser_1 : decode cX9_lesser 1 = .ok (.iload_n 1, 1) := by decide +kernel
theorem dX9_lesser_2 : decode cX9_lesser 2 = .ok (.if_icmp .ge 7, 3) := by decide +kernel
theorem dX9_lesser_5 : decode cX9_lesser 5 = .ok (.iload_n 0, 1) := by decide +kernel
theorem dX9_lesser_6 : decode cX9_lesser 6 = .ok (.goto 4, 3) := by decide +kernel
theorem dX9_lesser_9 : decode cX9_lesser 9 = .ok (.iload_n 1, 1) := by decide +kernel
theorem dX9_lesser_10 : decode cX9_lesser 10 = .ok (.ireturn, 1) := by decide +kernel
set_option maxRecDepth 20000 in
theorem ggX9_middle_X9_lesser : GoodIn wsX9_middle wsX9_lesser := goodIn_r _ [4] (by decide +kernel) (by decide +kernel)
set_option maxRecDepth 20000 in
theorem gX9_middle_X9_lesser : GoodIn wsX9_middle (va_wsS RX9 134 yX9_lesser wsX9_lesser) := goodIn_app (goodIn_of _ (by decide +kernel)) ggX9_middle_X9_lesser
set_option maxRecDepth 20000 in
theorem ggX9_middle_X9_greater : GoodIn wsX9_middle wsX9_greater := goodIn_r _ [7] (by decide +kernel) (by decide +kernel)
set_option maxRecDepth 20000 in
theorem gX9_middle_X9_greater : GoodIn wsX9_middle (va_wsS RX9 138 yX9_greater wsX9_greater) := goodIn_app (goodIn_of _ (by decide +kernel)) ggX9_middle_X9_greater
theorem dX9_middle_0 : decode cX9_middle 0 = .ok (.iload_n 0, 1) := by decide +kernel
theorem dX9_middle_1 : decode cX9_middle 1 = .ok (.iload_n 1, 1) := by decide +kernel
theorem dX9_middle_2 : decode cX9_middle 2 = .ok (.invokestatic 134, 3) := by decide +kernel
theorem dX9_middle_5 : decode cX9_middle 5 = .ok (.iload_n 0, 1) := by decide +kernel
theorem dX9_middle_6 : decode cX9_middle 6 = .ok (.iload_n 1, 1) := by decide +kernel
theorem dX9_middle_7 : decode cX9_middle 7 = .ok (.invokestatic 138, 3) := by decide +kernel
theorem dX9_middle_10 : decode cX9_middle 10 = .ok (.iload_n 2, 1) := by decide +kernel
theorem dX9_middle_11 : decode cX9_middle 11 = .ok (.invokestatic 134, 3) := by decide +kernel
theorem dX9_middle_14 : decode cX9_middle 14 = .ok (.invokestatic 138, 3) := by decide +kernel
theorem dX9_middle_17 : decode cX9_middle 17 = .ok (.ireturn, 1) := by decide +kernel
theorem dX9_round_0 : decode cX9_round 0 = .ok (.iload_n 0, 1) := by decide +kernel
theorem dX9_round_1 : decode cX9_round 1 = .ok (.i2s, 1) := by decide +kernel
theorem dX9_round_2 : decode cX9_round 2 = .ok (.ireturn, 1) := by decide +kernel
theorem dX9_ones_0 : decode cX9_ones 0 = .ok (.iconst 0, 1) := by decide +kernel
theorem dX9_ones_1 : decode cX9_ones 1 = .ok (.istore_n 1, 1) := by decide +kernel
theorem dX9_ones_2 : decode cX9_ones 2 = .ok (.iconst 0, 1) := by decide +kernel
theorem dX9_ones_3 : decode cX9_ones 3 = .ok (.istore_n 2, 1) := by decide +kernel
theorem dX9_ones_4 : decode cX9_ones 4 = .ok (.iload_n 2, 1) := by decide +kernel
theorem dX9_ones_5 : decode cX9_ones 5 = .ok (.bipush 16, 2) := by decide +kernel
theorem dX9_ones_7 : decode cX9_ones 7 = .ok (.if_icmp .ge 17, 3) := by decide +kernel
theorem dX9_ones_10 : decode cX9_ones 10 = .ok (.iload_n 1, 1) := by decide +kernel
theorem dX9_ones_11 : decode cX9_ones 11 = .ok (.iload_n 0, 1) := by decide +kernel
theorem dX9_ones_12 : decode cX9_ones 12 = .ok (.iload_n 2, 1) := by decide +kernel
theorem dX9_ones_13 : decode cX9_ones 13 = .ok (.ishr, 1) := by decide +kernel
theorem dX9_ones_14 : decode cX9_ones 14 = .ok (.iconst 1, 1) := by decide +kernel
theorem dX9_ones_15 : decode cX9_ones 15 = .ok (.iand, 1) := by decide +kernel
theorem dX9_ones_16 : decode cX9_ones 16 = .ok (.iadd, 1) := by decide +kernel
theorem dX9_ones_17 : decode cX9_ones 17 = .ok (.istore_n 1, 1) := by decide +kernel
theorem dX9_ones_18 : decode cX9_ones 18 = .ok (.iinc 2 1, 3) := by decide +kernel
theorem dX9_ones_21 : decode cX9_ones 21 = .ok (.goto (-17), 3) := by decide +kernel
theorem dX9_ones_24 : decode cX9_ones 24 = .ok (.iload_n 1, 1) := by decide +kernel
theorem dX9_ones_25 : decode cX9_ones 25 = .ok (.ireturn, 1) := by decide +kernel
theorem dX9_isOut_0 : decode cX9_isOut 0 = .ok (.aload_n 0, 1) := by decide +kernel
theorem dX9_isOut_1 : decode cX9_isOut 1 = .ok (.iload_n 1, 1) := by decide +kernel
theorem dX9_isOut_2 : decode cX9_isOut 2 = .ok (.ifCond .eq 7, 3) := by decide +kernel
theorem dX9_isOut_5 : decode cX9_isOut 5 = .ok (.iconst 0, 1) := by decide +kernel
theorem dX9_isOut_6 : decode cX9_isOut 6 = .ok (.goto 4, 3) := by decide +kernel
theorem dX9_isOut_9 : decode cX9_isOut 9 = .ok (.iconst 1, 1) := by decide +kernel
theorem dX9_isOut_10 : decode cX9_isOut 10 = .ok (.putfield 130, 3) := by decide +kernel
theorem dX9_isOut_13 : decode cX9_isOut 13 = .ok (.aload_n 0, 1) := by decide +kernel
theorem dX9_isOut_14 : decode cX9_isOut 14 = .ok (.getfield 130, 3) := by decide +kernel
theorem dX9_isOut_17 : decode cX9_isOut 17 = .ok (.ifCond .le 7, 3) := by decide +kernel
theorem dX9_isOut_20 : decode cX9_isOut 20 = .ok (.iconst 1, 1) := by decide +kernel
theorem dX9_isOut_21 : decode cX9_isOut 21 = .ok (.goto 4, 3) := by decide +kernel
theorem dX9_isOut_24 : decode cX9_isOut 24 = .ok (.iconst 0, 1) := by decide +kernel
theorem dX9_isOut_25 : decode cX9_isOut 25 = .ok (.ireturn, 1) := by decide +kernel
set_option maxRecDepth 20000 in
theorem ggX9_isThree_X9_in : GoodIn wsX9_isThree wsX9_in := goodIn_r _ [4] (by decide +kernel) (by decide +kernel)
set_option maxRecDepth 20000 in
theorem gX9_isThree_X9_in : GoodIn wsX9_isThree (va_wsS RX9 141 yX9_in wsX9_in) := goodIn_app (goodIn_of _ (by decide +kernel)) ggX9_isThree_X9_in
theorem dX9_isThree_0 : decode cX9_isThree 0 = .ok (.iload_n 0, 1) := by decide +kernel
theorem dX9_isThree_1 : decode cX9_isThree 1 = .ok (.iconst 0, 1) := by decide +kernel
theorem dX9_isThree_2 : decode cX9_isThree 2 = .ok (.iconst 2, 1) := by decide +kernel
theorem dX9_isThree_3 : decode cX9_isThree 3 = .ok (.invokestatic 141, 3) := by decide +kernel
theorem dX9_isThree_6 : decode cX9_isThree 6 = .ok (.ireturn, 1) := by decide +kernel
set_option maxRecDepth 20000 in
theorem ggX9_isFour_X9_in : GoodIn wsX9_isFour wsX9_in := goodIn_r _ [4] (by decide +kernel) (by decide +kernel)
set_option maxRecDepth 20000 in
theorem gX9_isFour_X9_in : GoodIn wsX9_isFour (va_wsS RX9 141 yX9_in wsX9_in) := goodIn_app (goodIn_of _ (by decide +kernel)) ggX9_isFour_X9_in
theorem dX9_isFour_0 : decode cX9_isFour 0 = .ok (.iload_n 0, 1) := by decide +kernel
theorem dX9_isFour_1 : decode cX9_isFour 1 = .ok (.iconst 0, 1) := by decide +kernel
theorem dX9_isFour_2 : decode cX9_isFour 2 = .ok (.iconst 3, 1) := by decide +kernel
theorem dX9_isFour_3 : decode cX9_isFour 3 = .ok (.invokestatic 141, 3) := by decide +kernel
theorem dX9_isFour_6 : decode cX9_isFour 6 = .ok (.ireturn, 1) := by decide +kernel
theorem dX9_on_0 : decode cX9_on 0 = .ok (.iconst 0, 1) := by decide +kernel
theorem dX9_on_1 : decode cX9_on 1 = .ok (.istore_n 1, 1) := by decide +kernel
theorem dX9_on_2 : decode cX9_on 2 = .ok (.iconst 0, 1) := by decide +kernel
theorem dX9_on_3 : decode cX9_on 3 = .ok (.istore_n 2, 1) := by decide +kernel
theorem dX9_on_4 : decode cX9_on 4 = .ok (.iload_n 2, 1) := by decide +kernel
theorem dX9_on_5 : decode cX9_on 5 = .ok (.iconst 3, 1) := by decide +kernel
theorem dX9_on_6 : decode cX9_on 6 = .ok (.if_icmp .ge 26, 3) := by decide +kernel
theorem dX9_on_9 : decode cX9_on 9 = .ok (.iload_n 1, 1) := by decide +kernel
theorem dX9_on_10 : decode cX9_on 10 = .ok (.aload_n 0, 1) := by decide +kernel
theorem dX9_on_11 : decode cX9_on 11 = .ok (.getfield 38, 3) := by decide +kernel
theorem dX9_on_14 : decode cX9_on 14 = .ok (.iload_n 2, 1) := by decide +kernel
theorem dX9_on_15 : decode cX9_on 15 = .ok (.baload, 1) := by decide +kernel
theorem dX9_on_16 : decode cX9_on 16 = .ok (.ifCond .eq 7, 3) := by decide +kernel
theorem dX9_on_19 : decode cX9_on 19 = .ok (.iconst 0, 1) := by decide +kernel
theorem dX9_on_20 : decode cX9_on 20 = .ok (.goto 4, 3) := by decide +kernel
theorem dX9_on_23 : decode cX9_on 23 = .ok (.iconst 1, 1) := by decide +kernel
theorem dX9_on_24 : decode cX9_on 24 = .ok (.iadd, 1) := by decide +kernel
theorem dX9_on_25 : decode cX9_on 25 = .ok (.istore_n 1, 1) := by decide +kernel
theorem dX9_on_26 : decode cX9_on 26 = .ok (.iinc 2 1, 3) := by decide +kernel
theorem dX9_on_29 : decode cX9_on 29 = .ok (.goto (-25), 3) := by decide +kernel
theorem dX9_on_32 : decode cX9_on 32 = .ok (.iload_n 1, 1) := by decide +kernel
theorem dX9_on_33 : decode cX9_on 33 = .ok (.ireturn, 1) := by decide +kernel
theorem dX9_lowest_0 : decode cX9_lowest 0 = .ok (.iconst 0, 1) := by decide +kernel
theorem dX9_lowest_1 : decode cX9_lowest 1 = .ok (.istore_n 1, 1) := by decide +kernel
theorem dX9_lowest_2 : decode cX9_lowest 2 = .ok (.iload_n 1, 1) := by decide +kernel
theorem dX9_lowest_3 : decode cX9_lowest 3 = .ok (.iconst 3, 1) := by decide +kernel
theorem dX9_lowest_4 : decode cX9_lowest 4 = .ok (.if_icmp .ge 20, 3) := by decide +kernel
theorem dX9_lowest_7 : decode cX9_lowest 7 = .ok (.aload_n 0, 1) := by decide +kernel
theorem dX9_lowest_8 : decode cX9_lowest 8 = .ok (.getfield 38, 3) := by decide +kernel
theorem dX9_lowest_11 : decode cX9_lowest 11 = .ok (.iload_n 1, 1) := by decide +kernel
theorem dX9_lowest_12 : decode cX9_lowest 12 = .ok (.baload, 1) := by decide +kernel
theorem dX9_lowest_13 : decode cX9_lowest 13 = .ok (.ifCond .ne 5, 3) := by decide +kernel
theorem dX9_lowest_16 : decode cX9_lowest 16 = .ok (.iload_n 1, 1) := by decide +kernel
theorem dX9_lowest_17 : decode cX9_lowest 17 = .ok (.ireturn, 1) := by decide +kernel
theorem dX9_lowest_18 : decode cX9_lowest 18 = .ok (.iinc 1 1, 3) := by decide +kernel
theorem dX9_lowest_21 : decode cX9_lowest 21 = .ok (.goto (-19), 3) := by decide +kernel
theorem dX9_lowest_24 : decode cX9_lowest 24 = .ok (.iconst (-1), 1) := by decide +kernel
theorem dX9_lowest_25 : decode cX9_lowest 25 = .ok (.ireturn, 1) := by decide +kernel
theorem dX9_logs_0 : decode cX9_logs 0 = .ok (.aload_n 0, 1) := by decide +kernel
theorem dX9_logs_1 : decode cX9_logs 1 = .ok (.getfield 121, 3) := by decide +kernel
theorem dX9_logs_4 : decode cX9_logs 4 = .ok (.aload_n 0, 1) := by decide +kernel
theorem dX9_logs_5 : decode cX9_logs 5 = .ok (.getfield 145, 3) := by decide +kernel
theorem dX9_logs_8 : decode cX9_logs 8 = .ok (.bipush 30, 2) := by decide +kernel
theorem dX9_logs_10 : decode cX9_logs 10 = .ok (.irem, 1) := by decide +kernel
theorem dX9_logs_11 : decode cX9_logs 11 = .ok (.aload_n 0, 1) := by decide +kernel
theorem dX9_logs_12 : decode cX9_logs 12 = .ok (.getfield 148, 3) := by decide +kernel
theorem dX9_logs_15 : decode cX9_logs 15 = .ok (.iastore, 1) := by decide +kernel
theorem dX9_logs_16 : decode cX9_logs 16 = .ok (.aload_n 0, 1) := by decide +kernel
theorem dX9_logs_17 : decode cX9_logs 17 = .ok (.getfield 124, 3) := by decide +kernel
theorem dX9_logs_20 : decode cX9_logs 20 = .ok (.aload_n 0, 1) := by decide +kernel
theorem dX9_logs_21 : decode cX9_logs 21 = .ok (.getfield 145, 3) := by decide +kernel
theorem dX9_logs_24 : decode cX9_logs 24 = .ok (.bipush 30, 2) := by decide +kernel
theorem dX9_logs_26 : decode cX9_logs 26 = .ok (.irem, 1) := by decide +kernel
theorem dX9_logs_27 : decode cX9_logs 27 = .ok (.iload_n 1, 1) := by decide +kernel
theorem dX9_logs_28 : decode cX9_logs 28 = .ok (.iastore, 1) := by decide +kernel
theorem dX9_logs_29 : decode cX9_logs 29 = .ok (.aload_n 0, 1) := by decide +kernel
theorem dX9_logs_30 : decode cX9_logs 30 = .ok (.getfield 127, 3) := by decide +kernel
theorem dX9_logs_33 : decode cX9_logs 33 = .ok (.aload_n 0, 1) := by decide +kernel
theorem dX9_logs_34 : decode cX9_logs 34 = .ok (.getfield 145, 3) := by decide +kernel
theorem dX9_logs_37 : decode cX9_logs 37 = .ok (.bipush 30, 2) := by decide +kernel
theorem dX9_logs_39 : decode cX9_logs 39 = .ok (.irem, 1) := by decide +kernel
theorem dX9_logs_40 : decode cX9_logs 40 = .ok (.iload_n 2, 1) := by decide +kernel
theorem dX9_logs_41 : decode cX9_logs 41 = .ok (.iastore, 1) := by decide +kernel
theorem dX9_logs_42 : decode cX9_logs 42 = .ok (.aload_n 0, 1) := by decide +kernel
theorem dX9_logs_43 : decode cX9_logs 43 = .ok (.dup, 1) := by decide +kernel
theorem dX9_logs_44 : decode cX9_logs 44 = .ok (.getfield 145, 3) := by decide +kernel
theorem dX9_logs_47 : decode cX9_logs 47 = .ok (.iconst 1, 1) := by decide +kernel
theorem dX9_logs_48 : decode cX9_logs 48 = .ok (.iadd, 1) := by decide +kernel
theorem dX9_logs_49 : decode cX9_logs 49 = .ok (.putfield 145, 3) := by decide +kernel
theorem dX9_logs_52 : decode cX9_logs 52 = .ok (.return_, 1) := by decide +kernel
set_option maxRecDepth 20000 in
theorem ggX9_off_X9_logs : GoodIn wsX9_off wsX9_logs := goodIn_r _ [7, 8, 9, 10, 11, 12, 13, 14, 15, 16, 17, 18, 19, 20, 21, 22, 23, 24, 25, 26, 27, 28, 29, 30, 31, 32, 33, 34, 35, 36, 37, 38, 39, 40, 41, 42, 43, 44, 45, 46, 47, 48, 49, 50, 51, 52, 53, 54, 55, 56] (by decide +kernel) (by decide +kernel)
set_option maxRecDepth 20000 in
theorem gX9_off_X9_logs : GoodIn wsX9_off (wsV RX9 151 RX9 yX9_logs wsX9_logs) := goodIn_app (goodIn_of _ (by decide +kernel)) ggX9_off_X9_logs
theorem dX9_off_0 : decode cX9_off 0 = .ok (.aload_n 0, 1) := by decide +kernel
theorem dX9_off_1 : decode cX9_off 1 = .ok (.getfield 38, 3) := by decide +kernel
theorem dX9_off_4 : decode cX9_off 4 = .ok (.iload_n 1, 1) := by decide +kernel
theorem dX9_off_5 : decode cX9_off 5 = .ok (.iconst 1, 1) := by decide +kernel
theorem dX9_off_6 : decode cX9_off 6 = .ok (.bastore, 1) := by decide +kernel
theorem dX9_off_7 : decode cX9_off 7 = .ok (.aload_n 0, 1) := by decide +kernel
theorem dX9_off_8 : decode cX9_off 8 = .ok (.getfield 42, 3) := by decide +kernel
theorem dX9_off_11 : decode cX9_off 11 = .ok (.iload_n 1, 1) := by decide +kernel
theorem dX9_off_12 : decode cX9_off 12 = .ok (.iconst 0, 1) := by decide +kernel
theorem dX9_off_13 : decode cX9_off 13 = .ok (.bastore, 1) := by decide +kernel
theorem dX9_off_14 : decode cX9_off 14 = .ok (.aload_n 0, 1) := by decide +kernel
theorem dX9_off_15 : decode cX9_off 15 = .ok (.iload_n 1, 1) := by decide +kernel
theorem dX9_off_16 : decode cX9_off 16 = .ok (.iload_n 2, 1) := by decide +kernel
theorem dX9_off_17 : decode cX9_off 17 = .ok (.invokevirtual 151, 3) := by decide +kernel
theorem dX9_off_20 : decode cX9_off 20 = .ok (.return_, 1) := by decide +kernel
set_option maxRecDepth 20000 in
theorem ggX9_fits_X9_in : GoodIn wsX9_fits wsX9_in := goodIn_r _ [4] (by decide +kernel) (by decide +kernel)
set_option maxRecDepth 20000 in
theorem gX9_fits_X9_in : GoodIn wsX9_fits (va_wsS RX9 141 yX9_in wsX9_in) := goodIn_app (goodIn_of _ (by decide +kernel)) ggX9_fits_X9_in
theorem dX9_fits_0 : decode cX9_fits 0 = .ok (.iload_n 0, 1) := by decide +kernel
theorem dX9_fits_1 : decode cX9_fits 1 = .ok (.tableswitch 124 97 115 #[102, 124, 124, 124, 124, 124, 124, 124, 102, 116, 124, 91, 109, 124, 102, 124, 124, 109, 102], 91) := by decide +kernel
theorem dX9_fits_92 : decode cX9_fits 92 = .ok (.iload_n 1, 1) := by decide +kernel
theorem dX9_fits_93 : decode cX9_fits 93 = .ok (.sipush (-32768), 3) := by decide +kernel
theorem dX9_fits_96 : decode cX9_fits 96 = .ok (.sipush 32767, 3) := by decide +kernel
theorem dX9_fits_99 : decode cX9_fits 99 = .ok (.invokestatic 141, 3) := by decide +kernel
theorem dX9_fits_102 : decode cX9_fits 102 = .ok (.ireturn, 1) := by decide +kernel
theorem dX9_fits_103 : decode cX9_fits 103 = .ok (.iload_n 1, 1) := by decide +kernel
theorem dX9_fits_104 : decode cX9_fits 104 = .ok (.iconst 0, 1) := by decide +kernel
theorem dX9_fits_105 : decode cX9_fits 105 = .ok (.iconst 3, 1) := by decide +kernel
theorem dX9_fits_106 : decode cX9_fits 106 = .ok (.invokestatic 141, 3) := by decide +kernel
theorem dX9_fits_109 : decode cX9_fits 109 = .ok (.ireturn, 1) := by decide +kernel
theorem dX9_fits_110 : decode cX9_fits 110 = .ok (.iload_n 1, 1) := by decide +kernel
theorem dX9_fits_111 : decode cX9_fits 111 = .ok (.iconst 0, 1) := by decide +kernel
theorem dX9_fits_112 : decode cX9_fits 112 = .ok (.iconst 5, 1) := by decide +kernel
theorem dX9_fits_113 : decode cX9_fits 113 = .ok (.invokestatic 141, 3) := by decide +kernel
theorem dX9_fits_116 : decode cX9_fits 116 = .ok (.ireturn, 1) := by decide +kernel
theorem dX9_fits_117 : decode cX9_fits 117 = .ok (.iload_n 1, 1) := by decide +kernel
theorem dX9_fits_118 : decode cX9_fits 118 = .ok (.iconst 0, 1) := by decide +kernel
theorem dX9_fits_119 : decode cX9_fits 119 = .ok (.bipush 9, 2) := by decide +kernel
theorem dX9_fits_121 : decode cX9_fits 121 = .ok (.invokestatic 141, 3) := by decide +kernel
theorem dX9_fits_124 : decode cX9_fits 124 = .ok (.ireturn, 1) := by decide +kernel
theorem dX9_fits_125 : decode cX9_fits 125 = .ok (.iconst 0, 1) := by decide +kernel
theorem dX9_fits_126 : decode cX9_fits 126 = .ok (.ireturn, 1) := by decide +kernel
set_option maxRecDepth 20000 in
theorem ggX9_code_X9_isThree : GoodIn wsX9_code wsX9_isThree := goodIn_r _ [9, 10, 11, 8, 12] (by decide +kernel) (by decide +kernel)
set_option maxRecDepth 20000 in
theorem gX9_code_X9_isThree : GoodIn wsX9_code (va_wsS RX9 155 yX9_isThree wsX9_isThree) := goodIn_app (goodIn_of _ (by decide +kernel)) ggX9_code_X9_isThree
set_option maxRecDepth 20000 in
theorem ggX9_code_X9_isOut : GoodIn wsX9_code wsX9_isOut := goodIn_r _ [16, 2, 23, 24, 25, 26, 27, 28, 29, 30, 31, 32, 33, 34, 35, 36, 37, 38, 39, 40, 41, 42, 43, 44, 45, 46, 47, 48, 49, 50, 51, 52, 53, 54, 55, 56, 57, 58, 59, 60, 61, 62, 63, 64, 65, 66] (by decide +kernel) (by decide +kernel)
set_option maxRecDepth 20000 in
theorem gX9_code_X9_isOut : GoodIn wsX9_code (wsV RX9 159 RX9 yX9_isOut wsX9_isOut) := goodIn_app (goodIn_of _ (by decide +kernel)) ggX9_code_X9_isOut
set_option maxRecDepth 20000 in
theorem ggX9_code_X9_fits : GoodIn wsX9_code wsX9_fits := goodIn_r _ [19, 10, 11, 8, 12] (by decide +kernel) (by decide +kernel)
set_option maxRecDepth 20000 in
theorem gX9_code_X9_fits : GoodIn wsX9_code (va_wsS RX9 163 yX9_fits wsX9_fits) := goodIn_app (goodIn_of _ (by decide +kernel)) ggX9_code_X9_fits
set_option maxRecDepth 20000 in
theorem ggX9_code_X9_isFour : GoodIn wsX9_code wsX9_isFour := goodIn_r _ [22, 10, 11, 8, 12] (by decide +kernel) (by decide +kernel)
set_option maxRecDepth 20000 in
theorem gX9_code_X9_isFour : GoodIn wsX9_code (va_wsS RX9 167 yX9_isFour wsX9_isFour) := goodIn_app (goodIn_of _ (by decide +kernel)) ggX9_code_X9_isFour
theorem dX9_code_0 : decode cX9_code 0 = .ok (.aload_n 0, 1) := by decide +kernel
theorem dX9_code_1 : decode cX9_code 1 = .ok (.iload_n 1, 1) := by decide +kernel
theorem dX9_code_2 : decode cX9_code 2 = .ok (.invokestatic 155, 3) := by decide +kernel
theorem dX9_code_5 : decode cX9_code 5 = .ok (.invokevirtual 159, 3) := by decide +kernel
theorem dX9_code_8 : decode cX9_code 8 = .ok (.ifCond .eq 5, 3) := by decide +kernel
theorem dX9_code_11 : decode cX9_code 11 = .ok (.iconst 0, 1) := by decide +kernel
theorem dX9_code_12 : decode cX9_code 12 = .ok (.ireturn, 1) := by decide +kernel
theorem dX9_code_13 : decode cX9_code 13 = .ok (.aload_n 0, 1) := by decide +kernel
theorem dX9_code_14 : decode cX9_code 14 = .ok (.iload_n 2, 1) := by decide +kernel
theorem dX9_code_15 : decode cX9_code 15 = .ok (.iload 4, 2) := by decide +kernel
theorem dX9_code_17 : decode cX9_code 17 = .ok (.invokestatic 163, 3) := by decide +kernel
theorem dX9_code_20 : decode cX9_code 20 = .ok (.ifCond .eq 10, 3) := by decide +kernel
theorem dX9_code_23 : decode cX9_code 23 = .ok (.iload_n 3, 1) := by decide +kernel
theorem dX9_code_24 : decode cX9_code 24 = .ok (.invokestatic 167, 3) := by decide +kernel
theorem dX9_code_27 : decode cX9_code 27 = .ok (.ifCond .ne 7, 3) := by decide +kernel
theorem dX9_code_30 : decode cX9_code 30 = .ok (.iconst 2, 1) := by decide +kernel
theorem dX9_code_31 : decode cX9_code 31 = .ok (.goto 19, 3) := by decide +kernel
theorem dX9_code_34 : decode cX9_code 34 = .ok (.aload_n 0, 1) := by decide +kernel
theorem dX9_code_35 : decode cX9_code 35 = .ok (.getfield 20, 3) := by decide +kernel
theorem dX9_code_38 : decode cX9_code 38 = .ok (.iload_n 1, 1) := by decide +kernel
theorem dX9_code_39 : decode cX9_code 39 = .ok (.iaload, 1) := by decide +kernel
theorem dX9_code_40 : decode cX9_code 40 = .ok (.bipush 10, 2) := by decide +kernel
theorem dX9_code_42 : decode cX9_code 42 = .ok (.if_icmp .ne 7, 3) := by decide +kernel
theorem dX9_code_45 : decode cX9_code 45 = .ok (.iconst 3, 1) := by decide +kernel
theorem dX9_code_46 : decode cX9_code 46 = .ok (.goto 4, 3) := by decide +kernel
theorem dX9_code_49 : decode cX9_code 49 = .ok (.iconst 0, 1) := by decide +kernel
theorem dX9_code_50 : decode cX9_code 50 = .ok (.putfield 130, 3) := by decide +kernel
theorem dX9_code_53 : decode cX9_code 53 = .ok (.aload_n 0, 1) := by decide +kernel
theorem dX9_code_54 : decode cX9_code 54 = .ok (.getfield 130, 3) := by decide +kernel
theorem dX9_code_57 : decode cX9_code 57 = .ok (.ifCond .le 5, 3) := by decide +kernel
theorem dX9_code_60 : decode cX9_code 60 = .ok (.iconst 0, 1) := by decide +kernel
theorem dX9_code_61 : decode cX9_code 61 = .ok (.ireturn, 1) := by decide +kernel
theorem dX9_code_62 : decode cX9_code 62 = .ok (.iload_n 1, 1) := by decide +kernel
theorem dX9_code_63 : decode cX9_code 63 = .ok (.bipush 10, 2) := by decide +kernel
theorem dX9_code_65 : decode cX9_code 65 = .ok (.imul, 1) := by decide +kernel
theorem dX9_code_66 : decode cX9_code 66 = .ok (.aload_n 0, 1) := by decide +kernel
theorem dX9_code_67 : decode cX9_code 67 = .ok (.getfield 20, 3) := by decide +kernel
theorem dX9_code_70 : decode cX9_code 70 = .ok (.iload_n 1, 1) := by decide +kernel
theorem dX9_code_71 : decode cX9_code 71 = .ok (.iaload, 1) := by decide +kernel
theorem dX9_code_72 : decode cX9_code 72 = .ok (.iadd, 1) := by decide +kernel
theorem dX9_code_73 : decode cX9_code 73 = .ok (.istore 5, 2) := by decide +kernel
theorem dX9_code_75 : decode cX9_code 75 = .ok (.aload_n 0, 1) := by decide +kernel
theorem dX9_code_76 : decode cX9_code 76 = .ok (.getfield 9, 3) := by decide +kernel
theorem dX9_code_79 : decode cX9_code 79 = .ok (.iload 5, 2) := by decide +kernel
theorem dX9_code_81 : decode cX9_code 81 = .ok (.iload_n 2, 1) := by decide +kernel
theorem dX9_code_82 : decode cX9_code 82 = .ok (.castore, 1) := by decide +kernel
theorem dX9_code_83 : decode cX9_code 83 = .ok (.aload_n 0, 1) := by decide +kernel
theorem dX9_code_84 : decode cX9_code 84 = .ok (.getfield 13, 3) := by decide +kernel
theorem dX9_code_87 : decode cX9_code 87 = .ok (.iload 5, 2) := by decide +kernel
theorem dX9_code_89 : decode cX9_code 89 = .ok (.iload_n 3, 1) := by decide +kernel
theorem dX9_code_90 : decode cX9_code 90 = .ok (.iastore, 1) := by decide +kernel
theorem dX9_code_91 : decode cX9_code 91 = .ok (.aload_n 0, 1) := by decide +kernel
theorem dX9_code_92 : decode cX9_code 92 = .ok (.getfield 17, 3) := by decide +kernel
theorem dX9_code_95 : decode cX9_code 95 = .ok (.iload 5, 2) := by decide +kernel
theorem dX9_code_97 : decode cX9_code 97 = .ok (.iload 4, 2) := by decide +kernel
theorem dX9_code_99 : decode cX9_code 99 = .ok (.iastore, 1) := by decide +kernel
theorem dX9_code_100 : decode cX9_code 100 = .ok (.aload_n 0, 1) := by decide +kernel
theorem dX9_code_101 : decode cX9_code 101 = .ok (.getfield 20, 3) := by decide +kernel
theorem dX9_code_104 : decode cX9_code 104 = .ok (.iload_n 1, 1) := by decide +kernel
theorem dX9_code_105 : decode cX9_code 105 = .ok (.dup2, 1) := by decide +kernel
theorem dX9_code_106 : decode cX9_code 106 = .ok (.iaload, 1) := by decide +kernel
theorem dX9_code_107 : decode cX9_code 107 = .ok (.iconst 1, 1) := by decide +kernel
theorem dX9_code_108 : decode cX9_code 108 = .ok (.iadd, 1) := by decide +kernel
theorem dX9_code_109 : decode cX9_code 109 = .ok (.iastore, 1) := by decide +kernel
theorem dX9_code_110 : decode cX9_code 110 = .ok (.aload_n 0, 1) := by decide +kernel
theorem dX9_code_111 : decode cX9_code 111 = .ok (.getfield 20, 3) := by decide +kernel
theorem dX9_code_114 : decode cX9_code 114 = .ok (.iload_n 1, 1) := by decide +kernel
theorem dX9_code_115 : decode cX9_code 115 = .ok (.iaload, 1) := by decide +kernel
theorem dX9_code_116 : decode cX9_code 116 = .ok (.ireturn, 1) := by decide +kernel
set_option maxRecDepth 20000 in
theorem ggX9_clear_X9_isThree : GoodIn wsX9_clear wsX9_isThree := goodIn_r _ [5, 6, 7, 4, 8] (by decide +kernel) (by decide +kernel)
set_option maxRecDepth 20000 in
theorem gX9_clear_X9_isThree : GoodIn wsX9_clear (va_wsS RX9 155 yX9_isThree wsX9_isThree) := goodIn_app (goodIn_of _ (by decide +kernel)) ggX9_clear_X9_isThree
set_option maxRecDepth 20000 in
theorem ggX9_clear_X9_isOut : GoodIn wsX9_clear wsX9_isOut := goodIn_r _ [12, 13, 14, 15, 16, 17, 18, 19, 20, 21, 22, 23, 24, 25, 26, 27, 28, 29, 30, 31, 32, 33, 34, 35, 36, 37, 38, 39, 40, 41, 42, 43, 44, 45, 46, 47, 48, 49, 50, 51, 52, 53, 54, 55, 56, 57] (by decide +kernel) (by decide +kernel)
set_option maxRecDepth 20000 in
theorem gX9_clear_X9_isOut : GoodIn wsX9_clear (wsV RX9 159 RX9 yX9_isOut wsX9_isOut) := goodIn_app (goodIn_of _ (by decide +kernel)) ggX9_clear_X9_isOut
theorem dX9_clear_0 : decode cX9_clear 0 = .ok (.aload_n 0, 1) := by decide +kernel
theorem dX9_clear_1 : decode cX9_clear 1 = .ok (.iload_n 1, 1) := by decide +kernel
theorem dX9_clear_2 : decode cX9_clear 2 = .ok (.invokestatic 155, 3) := by decide +kernel
theorem dX9_clear_5 : decode cX9_clear 5 = .ok (.invokevirtual 159, 3) := by decide +kernel
theorem dX9_clear_8 : decode cX9_clear 8 = .ok (.ifCond .eq 5, 3) := by decide +kernel
theorem dX9_clear_11 : decode cX9_clear 11 = .ok (.iconst 0, 1) := by decide +kernel
theorem dX9_clear_12 : decode cX9_clear 12 = .ok (.ireturn, 1) := by decide +kernel
theorem dX9_clear_13 : decode cX9_clear 13 = .ok (.aload_n 0, 1) := by decide +kernel
theorem dX9_clear_14 : decode cX9_clear 14 = .ok (.getfield 20, 3) := by decide +kernel
theorem dX9_clear_17 : decode cX9_clear 17 = .ok (.iload_n 1, 1) := by decide +kernel
theorem dX9_clear_18 : decode cX9_clear 18 = .ok (.iaload, 1) := by decide +kernel
theorem dX9_clear_19 : decode cX9_clear 19 = .ok (.istore_n 2, 1) := by decide +kernel
theorem dX9_clear_20 : decode cX9_clear 20 = .ok (.aload_n 0, 1) := by decide +kernel
theorem dX9_clear_21 : decode cX9_clear 21 = .ok (.getfield 20, 3) := by decide +kernel
theorem dX9_clear_24 : decode cX9_clear 24 = .ok (.iload_n 1, 1) := by decide +kernel
theorem dX9_clear_25 : decode cX9_clear 25 = .ok (.iconst 0, 1) := by decide +kernel
theorem dX9_clear_26 : decode cX9_clear 26 = .ok (.iastore, 1) := by decide +kernel
theorem dX9_clear_27 : decode cX9_clear 27 = .ok (.iload_n 2, 1) := by decide +kernel
theorem dX9_clear_28 : decode cX9_clear 28 = .ok (.ireturn, 1) := by decide +kernel
set_option maxRecDepth 20000 in
theorem ggX9_slot_X9_in : GoodIn wsX9_slot wsX9_in := goodIn_r _ [5] (by decide +kernel) (by decide +kernel)
set_option maxRecDepth 20000 in
theorem gX9_slot_X9_in : GoodIn wsX9_slot (va_wsS RX9 141 yX9_in wsX9_in) := goodIn_app (goodIn_of _ (by decide +kernel)) ggX9_slot_X9_in
set_option maxRecDepth 20000 in
theorem ggX9_slot_X9_isThree : GoodIn wsX9_slot wsX9_isThree := goodIn_r _ [8, 2, 3, 4, 5] (by decide +kernel) (by decide +kernel)
set_option maxRecDepth 20000 in
theorem gX9_slot_X9_isThree : GoodIn wsX9_slot (va_wsS RX9 155 yX9_isThree wsX9_isThree) := goodIn_app (goodIn_of _ (by decide +kernel)) ggX9_slot_X9_isThree
set_option maxRecDepth 20000 in
theorem ggX9_slot_X9_isOut : GoodIn wsX9_slot wsX9_isOut := goodIn_r _ [12, 13, 14, 15, 16, 17, 18, 19, 20, 21, 22, 23, 24, 25, 26, 27, 28, 29, 30, 31, 32, 33, 34, 35, 36, 37, 38, 39, 40, 41, 42, 43, 44, 45, 46, 47, 48, 49, 50, 51, 52, 53, 54, 55, 56, 57] (by decide +kernel) (by decide +kernel)
set_option maxRecDepth 20000 in
theorem gX9_slot_X9_isOut : GoodIn wsX9_slot (wsV RX9 159 RX9 yX9_isOut wsX9_isOut) := goodIn_app (goodIn_of _ (by decide +kernel)) ggX9_slot_X9_isOut
theorem dX9_slot_0 : decode cX9_slot 0 = .ok (.aload_n 0, 1) := by decide +kernel
theorem dX9_slot_1 : decode cX9_slot 1 = .ok (.iload_n 1, 1) := by decide +kernel
theorem dX9_slot_2 : decode cX9_slot 2 = .ok (.iconst 0, 1) := by decide +kernel
theorem dX9_slot_3 : decode cX9_slot 3 = .ok (.iconst 1, 1) := by decide +kernel
theorem dX9_slot_4 : decode cX9_slot 4 = .ok (.invokestatic 141, 3) := by decide +kernel
theorem dX9_slot_7 : decode cX9_slot 7 = .ok (.ifCond .eq 23, 3) := by decide +kernel
theorem dX9_slot_10 : decode cX9_slot 10 = .ok (.iload_n 2, 1) := by decide +kernel
theorem dX9_slot_11 : decode cX9_slot 11 = .ok (.invokestatic 155, 3) := by decide +kernel
theorem dX9_slot_14 : decode cX9_slot 14 = .ok (.ifCond .eq 16, 3) := by decide +kernel
theorem dX9_slot_17 : decode cX9_slot 17 = .ok (.iload_n 3, 1) := by decide +kernel
theorem dX9_slot_18 : decode cX9_slot 18 = .ok (.iconst (-1), 1) := by decide +kernel
theorem dX9_slot_19 : decode cX9_slot 19 = .ok (.iconst 2, 1) := by decide +kernel
theorem dX9_slot_20 : decode cX9_slot 20 = .ok (.invokestatic 141, 3) := by decide +kernel
theorem dX9_slot_23 : decode cX9_slot 23 = .ok (.ifCond .eq 7, 3) := by decide +kernel
theorem dX9_slot_26 : decode cX9_slot 26 = .ok (.iconst 1, 1) := by decide +kernel
theorem dX9_slot_27 : decode cX9_slot 27 = .ok (.goto 4, 3) := by decide +kernel
theorem dX9_slot_30 : decode cX9_slot 30 = .ok (.iconst 0, 1) := by decide +kernel
theorem dX9_slot_31 : decode cX9_slot 31 = .ok (.invokevirtual 159, 3) := by decide +kernel
theorem dX9_slot_34 : decode cX9_slot 34 = .ok (.ifCond .eq 5, 3) := by decide +kernel
theorem dX9_slot_37 : decode cX9_slot 37 = .ok (.iconst 0, 1) := by decide +kernel
theorem dX9_slot_38 : decode cX9_slot 38 = .ok (.ireturn, 1) := by decide +kernel
theorem dX9_slot_39 : decode cX9_slot 39 = .ok (.aload_n 0, 1) := by decide +kernel
theorem dX9_slot_40 : decode cX9_slot 40 = .ok (.getfield 23, 3) := by decide +kernel
theorem dX9_slot_43 : decode cX9_slot 43 = .ok (.iload_n 1, 1) := by decide +kernel
theorem dX9_slot_44 : decode cX9_slot 44 = .ok (.iconst 3, 1) := by decide +kernel
theorem dX9_slot_45 : decode cX9_slot 45 = .ok (.imul, 1) := by decide +kernel
theorem dX9_slot_46 : decode cX9_slot 46 = .ok (.iload_n 2, 1) := by decide +kernel
theorem dX9_slot_47 : decode cX9_slot 47 = .ok (.iadd, 1) := by decide +kernel
theorem dX9_slot_48 : decode cX9_slot 48 = .ok (.iaload, 1) := by decide +kernel
theorem dX9_slot_49 : decode cX9_slot 49 = .ok (.iconst 1, 1) := by decide +kernel
theorem dX9_slot_50 : decode cX9_slot 50 = .ok (.isub, 1) := by decide +kernel
theorem dX9_slot_51 : decode cX9_slot 51 = .ok (.istore 4, 2) := by decide +kernel
theorem dX9_slot_53 : decode cX9_slot 53 = .ok (.aload_n 0, 1) := by decide +kernel
theorem dX9_slot_54 : decode cX9_slot 54 = .ok (.getfield 23, 3) := by decide +kernel
theorem dX9_slot_57 : decode cX9_slot 57 = .ok (.iload_n 1, 1) := by decide +kernel
theorem dX9_slot_58 : decode cX9_slot 58 = .ok (.iconst 3, 1) := by decide +kernel
theorem dX9_slot_59 : decode cX9_slot 59 = .ok (.imul, 1) := by decide +kernel
theorem dX9_slot_60 : decode cX9_slot 60 = .ok (.iload_n 2, 1) := by decide +kernel
theorem dX9_slot_61 : decode cX9_slot 61 = .ok (.iadd, 1) := by decide +kernel
theorem dX9_slot_62 : decode cX9_slot 62 = .ok (.iload_n 3, 1) := by decide +kernel
theorem dX9_slot_63 : decode cX9_slot 63 = .ok (.iconst 1, 1) := by decide +kernel
theorem dX9_slot_64 : decode cX9_slot 64 = .ok (.iadd, 1) := by decide +kernel
theorem dX9_slot_65 : decode cX9_slot 65 = .ok (.iastore, 1) := by decide +kernel
theorem dX9_slot_66 : decode cX9_slot 66 = .ok (.iload 4, 2) := by decide +kernel
theorem dX9_slot_68 : decode cX9_slot 68 = .ok (.ireturn, 1) := by decide +kernel
set_option maxRecDepth 20000 in
theorem ggX9_set_X9_round : GoodIn wsX9_set wsX9_round := goodIn_r _ [8] (by decide +kernel) (by decide +kernel)
set_option maxRecDepth 20000 in
theorem gX9_set_X9_round : GoodIn wsX9_set (va_wsS RX9 170 yX9_round wsX9_round) := goodIn_app (goodIn_of _ (by decide +kernel)) ggX9_set_X9_round
theorem dX9_set_0 : decode cX9_set 0 = .ok (.iload_n 3, 1) := by decide +kernel
theorem dX9_set_1 : decode cX9_set 1 = .ok (.istore 4, 2) := by decide +kernel
theorem dX9_set_3 : decode cX9_set 3 = .ok (.aload_n 0, 1) := by decide +kernel
theorem dX9_set_4 : decode cX9_set 4 = .ok (.getfield 60, 3) := by decide +kernel
theorem dX9_set_7 : decode cX9_set 7 = .ok (.iload_n 1, 1) := by decide +kernel
theorem dX9_set_8 : decode cX9_set 8 = .ok (.iaload, 1) := by decide +kernel
theorem dX9_set_9 : decode cX9_set 9 = .ok (.iload_n 2, 1) := by decide +kernel
theorem dX9_set_10 : decode cX9_set 10 = .ok (.iconst 1, 1) := by decide +kernel
theorem dX9_set_11 : decode cX9_set 11 = .ok (.iadd, 1) := by decide +kernel
theorem dX9_set_12 : decode cX9_set 12 = .ok (.if_icmp .ne 39, 3) := by decide +kernel
theorem dX9_set_15 : decode cX9_set 15 = .ok (.iconst 1, 1) := by decide +kernel
theorem dX9_set_16 : decode cX9_set 16 = .ok (.aload_n 0, 1) := by decide +kernel
theorem dX9_set_17 : decode cX9_set 17 = .ok (.getfield 63, 3) := by decide +kernel
theorem dX9_set_20 : decode cX9_set 20 = .ok (.iload_n 1, 1) := by decide +kernel
theorem dX9_set_21 : decode cX9_set 21 = .ok (.iaload, 1) := by decide +kernel
theorem dX9_set_22 : decode cX9_set 22 = .ok (.ishl, 1) := by decide +kernel
theorem dX9_set_23 : decode cX9_set 23 = .ok (.istore 5, 2) := by decide +kernel
theorem dX9_set_25 : decode cX9_set 25 = .ok (.aload_n 0, 1) := by decide +kernel
theorem dX9_set_26 : decode cX9_set 26 = .ok (.getfield 66, 3) := by decide +kernel
theorem dX9_set_29 : decode cX9_set 29 = .ok (.iload_n 1, 1) := by decide +kernel
theorem dX9_set_30 : decode cX9_set 30 = .ok (.baload, 1) := by decide +kernel
theorem dX9_set_31 : decode cX9_set 31 = .ok (.ifCond .eq 11, 3) := by decide +kernel
theorem dX9_set_34 : decode cX9_set 34 = .ok (.iload 4, 2) := by decide +kernel
theorem dX9_set_36 : decode cX9_set 36 = .ok (.iload 5, 2) := by decide +kernel
theorem dX9_set_38 : decode cX9_set 38 = .ok (.ior, 1) := by decide +kernel
theorem dX9_set_39 : decode cX9_set 39 = .ok (.goto 10, 3) := by decide +kernel
theorem dX9_set_42 : decode cX9_set 42 = .ok (.iload 4, 2) := by decide +kernel
theorem dX9_set_44 : decode cX9_set 44 = .ok (.iload 5, 2) := by decide +kernel
theorem dX9_set_46 : decode cX9_set 46 = .ok (.iconst (-1), 1) := by decide +kernel
theorem dX9_set_47 : decode cX9_set 47 = .ok (.ixor, 1) := by decide +kernel
theorem dX9_set_48 : decode cX9_set 48 = .ok (.iand, 1) := by decide +kernel
theorem dX9_set_49 : decode cX9_set 49 = .ok (.istore 4, 2) := by decide +kernel
theorem dX9_set_51 : decode cX9_set 51 = .ok (.aload_n 0, 1) := by decide +kernel
theorem dX9_set_52 : decode cX9_set 52 = .ok (.getfield 32, 3) := by decide +kernel
theorem dX9_set_55 : decode cX9_set 55 = .ok (.iload_n 1, 1) := by decide +kernel
theorem dX9_set_56 : decode cX9_set 56 = .ok (.iconst 4, 1) := by decide +kernel
theorem dX9_set_57 : decode cX9_set 57 = .ok (.imul, 1) := by decide +kernel
theorem dX9_set_58 : decode cX9_set 58 = .ok (.iload_n 2, 1) := by decide +kernel
theorem dX9_set_59 : decode cX9_set 59 = .ok (.iadd, 1) := by decide +kernel
theorem dX9_set_60 : decode cX9_set 60 = .ok (.iload 4, 2) := by decide +kernel
theorem dX9_set_62 : decode cX9_set 62 = .ok (.invokestatic 170, 3) := by decide +kernel
theorem dX9_set_65 : decode cX9_set 65 = .ok (.iastore, 1) := by decide +kernel
theorem dX9_set_66 : decode cX9_set 66 = .ok (.return_, 1) := by decide +kernel
set_option maxRecDepth 20000 in
theorem ggX9_begins_X9_set : GoodIn wsX9_begins wsX9_set := goodIn_r _ [6, 7, 8, 9, 10, 11, 12, 5, 13, 14, 15, 16, 17, 18, 19, 20, 21, 22, 23, 24, 25, 26, 27, 28, 29, 30, 31, 32, 33, 34, 35, 36, 37, 38, 39, 40, 41, 42, 43, 44, 45, 46, 47, 48, 49, 50, 51, 52, 53, 54, 55, 56, 57] (by decide +kernel) (by decide +kernel)
set_option maxRecDepth 20000 in
theorem gX9_begins_X9_set : GoodIn wsX9_begins (wsV RX9 174 RX9 yX9_set wsX9_set) := goodIn_app (goodIn_of _ (by decide +kernel)) ggX9_begins_X9_set
theorem dX9_begins_0 : decode cX9_begins 0 = .ok (.aload_n 0, 1) := by decide +kernel
theorem dX9_begins_1 : decode cX9_begins 1 = .ok (.getfield 35, 3) := by decide +kernel
theorem dX9_begins_4 : decode cX9_begins 4 = .ok (.iload_n 1, 1) := by decide +kernel
theorem dX9_begins_5 : decode cX9_begins 5 = .ok (.iconst 0, 1) := by decide +kernel
theorem dX9_begins_6 : decode cX9_begins 6 = .ok (.iastore, 1) := by decide +kernel
theorem dX9_begins_7 : decode cX9_begins 7 = .ok (.iconst 0, 1) := by decide +kernel
theorem dX9_begins_8 : decode cX9_begins 8 = .ok (.istore_n 2, 1) := by decide +kernel
theorem dX9_begins_9 : decode cX9_begins 9 = .ok (.iload_n 2, 1) := by decide +kernel
theorem dX9_begins_10 : decode cX9_begins 10 = .ok (.iconst 4, 1) := by decide +kernel
theorem dX9_begins_11 : decode cX9_begins 11 = .ok (.if_icmp .ge 16, 3) := by decide +kernel
theorem dX9_begins_14 : decode cX9_begins 14 = .ok (.aload_n 0, 1) := by decide +kernel
theorem dX9_begins_15 : decode cX9_begins 15 = .ok (.iload_n 1, 1) := by decide +kernel
theorem dX9_begins_16 : decode cX9_begins 16 = .ok (.iload_n 2, 1) := by decide +kernel
theorem dX9_begins_17 : decode cX9_begins 17 = .ok (.iconst 0, 1) := by decide +kernel
theorem dX9_begins_18 : decode cX9_begins 18 = .ok (.invokevirtual 174, 3) := by decide +kernel
theorem dX9_begins_21 : decode cX9_begins 21 = .ok (.iinc 2 1, 3) := by decide +kernel
theorem dX9_begins_24 : decode cX9_begins 24 = .ok (.goto (-15), 3) := by decide +kernel
theorem dX9_begins_27 : decode cX9_begins 27 = .ok (.return_, 1) := by decide +kernel
set_option maxRecDepth 20000 in
theorem ggX9_mends_X9_ones : GoodIn wsX9_mends wsX9_ones := goodIn_r _ [6] (by decide +kernel) (by decide +kernel)
set_option maxRecDepth 20000 in
theorem gX9_mends_X9_ones : GoodIn wsX9_mends (va_wsS RX9 178 yX9_ones wsX9_ones) := goodIn_app (goodIn_of _ (by decide +kernel)) ggX9_mends_X9_ones
set_option maxRecDepth 20000 in
theorem ggX9_mends_X9_off : GoodIn wsX9_mends wsX9_off := goodIn_r _ [10, 11, 12, 13, 14, 15, 5, 16, 17, 18, 19, 20, 21, 22, 23, 24, 25, 26, 27, 28, 29, 30, 31, 32, 33, 34, 35, 36, 37, 38, 39, 40, 41, 42, 43, 44, 45, 46, 47, 48, 49, 50, 51, 52, 53, 54, 55, 56, 57, 58, 59, 60, 61, 62, 63, 64, 65] (by decide +kernel) (by decide +kernel)
set_option maxRecDepth 20000 in
theorem gX9_mends_X9_off : GoodIn wsX9_mends (wsV RX9 181 RX9 yX9_off wsX9_off) := goodIn_app (goodIn_of _ (by decide +kernel)) ggX9_mends_X9_off
theorem dX9_mends_0 : decode cX9_mends 0 = .ok (.iload_n 1, 1) := by decide +kernel
theorem dX9_mends_1 : decode cX9_mends 1 = .ok (.bipush 18, 2) := by decide +kernel
theorem dX9_mends_3 : decode cX9_mends 3 = .ok (.imul, 1) := by decide +kernel
theorem dX9_mends_4 : decode cX9_mends 4 = .ok (.iload_n 2, 1) := by decide +kernel
theorem dX9_mends_5 : decode cX9_mends 5 = .ok (.iadd, 1) := by decide +kernel
theorem dX9_mends_6 : decode cX9_mends 6 = .ok (.istore_n 3, 1) := by decide +kernel
theorem dX9_mends_7 : decode cX9_mends 7 = .ok (.aload_n 0, 1) := by decide +kernel
theorem dX9_mends_8 : decode cX9_mends 8 = .ok (.getfield 29, 3) := by decide +kernel
theorem dX9_mends_11 : decode cX9_mends 11 = .ok (.iload_n 3, 1) := by decide +kernel
theorem dX9_mends_12 : decode cX9_mends 12 = .ok (.iaload, 1) := by decide +kernel
theorem dX9_mends_13 : decode cX9_mends 13 = .ok (.invokestatic 178, 3) := by decide +kernel
theorem dX9_mends_16 : decode cX9_mends 16 = .ok (.istore 4, 2) := by decide +kernel
theorem dX9_mends_18 : decode cX9_mends 18 = .ok (.iload 4, 2) := by decide +kernel
theorem dX9_mends_20 : decode cX9_mends 20 = .ok (.iconst 1, 1) := by decide +kernel
theorem dX9_mends_21 : decode cX9_mends 21 = .ok (.if_icmp .ne 20, 3) := by decide +kernel
theorem dX9_mends_24 : decode cX9_mends 24 = .ok (.aload_n 0, 1) := by decide +kernel
theorem dX9_mends_25 : decode cX9_mends 25 = .ok (.getfield 57, 3) := by decide +kernel
theorem dX9_mends_28 : decode cX9_mends 28 = .ok (.iload_n 1, 1) := by decide +kernel
theorem dX9_mends_29 : decode cX9_mends 29 = .ok (.dup2, 1) := by decide +kernel
theorem dX9_mends_30 : decode cX9_mends 30 = .ok (.iaload, 1) := by decide +kernel
theorem dX9_mends_31 : decode cX9_mends 31 = .ok (.iconst 1, 1) := by decide +kernel
theorem dX9_mends_32 : decode cX9_mends 32 = .ok (.iadd, 1) := by decide +kernel
theorem dX9_mends_33 : decode cX9_mends 33 = .ok (.iastore, 1) := by decide +kernel
theorem dX9_mends_34 : decode cX9_mends 34 = .ok (.aload_n 0, 1) := by decide +kernel
theorem dX9_mends_35 : decode cX9_mends 35 = .ok (.getfield 29, 3) := by decide +kernel
theorem dX9_mends_38 : decode cX9_mends 38 = .ok (.iload_n 3, 1) := by decide +kernel
theorem dX9_mends_39 : decode cX9_mends 39 = .ok (.iconst 0, 1) := by decide +kernel
theorem dX9_mends_40 : decode cX9_mends 40 = .ok (.iastore, 1) := by decide +kernel
theorem dX9_mends_41 : decode cX9_mends 41 = .ok (.iload 4, 2) := by decide +kernel
theorem dX9_mends_43 : decode cX9_mends 43 = .ok (.iconst 1, 1) := by decide +kernel
theorem dX9_mends_44 : decode cX9_mends 44 = .ok (.if_icmp .le 10, 3) := by decide +kernel
theorem dX9_mends_47 : decode cX9_mends 47 = .ok (.aload_n 0, 1) := by decide +kernel
theorem dX9_mends_48 : decode cX9_mends 48 = .ok (.iload_n 1, 1) := by decide +kernel
theorem dX9_mends_49 : decode cX9_mends 49 = .ok (.bipush 109, 2) := by decide +kernel
theorem dX9_mends_51 : decode cX9_mends 51 = .ok (.invokevirtual 181, 3) := by decide +kernel
theorem dX9_mends_54 : decode cX9_mends 54 = .ok (.iload 4, 2) := by decide +kernel
theorem dX9_mends_56 : decode cX9_mends 56 = .ok (.iconst 2, 1) := by decide +kernel
theorem dX9_mends_57 : decode cX9_mends 57 = .ok (.if_icmp .ge 7, 3) := by decide +kernel
theorem dX9_mends_60 : decode cX9_mends 60 = .ok (.iconst 1, 1) := by decide +kernel
theorem dX9_mends_61 : decode cX9_mends 61 = .ok (.goto 4, 3) := by decide +kernel
theorem dX9_mends_64 : decode cX9_mends 64 = .ok (.iconst 0, 1) := by decide +kernel
theorem dX9_mends_65 : decode cX9_mends 65 = .ok (.ireturn, 1) := by decide +kernel
theorem dX9_isDone_0 : decode cX9_isDone 0 = .ok (.aload_n 0, 1) := by decide +kernel
theorem dX9_isDone_1 : decode cX9_isDone 1 = .ok (.getfield 38, 3) := by decide +kernel
theorem dX9_isDone_4 : decode cX9_isDone 4 = .ok (.iload_n 1, 1) := by decide +kernel
theorem dX9_isDone_5 : decode cX9_isDone 5 = .ok (.baload, 1) := by decide +kernel
theorem dX9_isDone_6 : decode cX9_isDone 6 = .ok (.ifCond .ne 18, 3) := by decide +kernel
theorem dX9_isDone_9 : decode cX9_isDone 9 = .ok (.aload_n 0, 1) := by decide +kernel
theorem dX9_isDone_10 : decode cX9_isDone 10 = .ok (.getfield 35, 3) := by decide +kernel
theorem dX9_isDone_13 : decode cX9_isDone 13 = .ok (.iload_n 1, 1) := by decide +kernel
theorem dX9_isDone_14 : decode cX9_isDone 14 = .ok (.iaload, 1) := by decide +kernel
theorem dX9_isDone_15 : decode cX9_isDone 15 = .ok (.aload_n 0, 1) := by decide +kernel
theorem dX9_isDone_16 : decode cX9_isDone 16 = .ok (.getfield 20, 3) := by decide +kernel
theorem dX9_isDone_19 : decode cX9_isDone 19 = .ok (.iload_n 2, 1) := by decide +kernel
theorem dX9_isDone_20 : decode cX9_isDone 20 = .ok (.iaload, 1) := by decide +kernel
theorem dX9_isDone_21 : decode cX9_isDone 21 = .ok (.if_icmp .lt 7, 3) := by decide +kernel
theorem dX9_isDone_24 : decode cX9_isDone 24 = .ok (.iconst 1, 1) := by decide +kernel
theorem dX9_isDone_25 : decode cX9_isDone 25 = .ok (.goto 4, 3) := by decide +kernel
theorem dX9_isDone_28 : decode cX9_isDone 28 = .ok (.iconst 0, 1) := by decide +kernel
theorem dX9_isDone_29 : decode cX9_isDone 29 = .ok (.ireturn, 1) := by decide +kernel
set_option maxRecDepth 20000 in
theorem ggX9_does_X9_isDone : GoodIn wsX9_does wsX9_isDone := goodIn_r _ [15, 16, 2, 17, 50, 51, 52, 53, 54, 55, 56, 57, 58, 59, 60, 61, 62, 63, 64, 65, 66, 67, 68, 69, 70, 71, 72, 73, 74, 75, 76, 77, 78, 79, 80, 81, 82, 83, 84, 85, 86, 87, 88, 89, 90, 91, 92, 93] (by decide +kernel) (by decide +kernel)
set_option maxRecDepth 20000 in
theorem gX9_does_X9_isDone : GoodIn wsX9_does (wsV RX9 184 RX9 yX9_isDone wsX9_isDone) := goodIn_app (goodIn_of _ (by decide +kernel)) ggX9_does_X9_isDone
set_option maxRecDepth 20000 in
theorem ggX9_does_X9_mends : GoodIn wsX9_does wsX9_mends := goodIn_r _ [21, 8, 22, 23, 24, 14, 25, 26, 27, 28, 29, 16, 30, 31, 32, 33, 34, 35, 36, 37, 38, 39, 50, 51, 52, 53, 54, 55, 56, 57, 58, 59, 60, 61, 62, 63, 64, 65, 66, 67, 68, 69, 70, 71, 72, 73, 74, 75, 76, 77, 78, 79, 80, 81, 82, 83, 84, 85, 86, 87, 88, 89, 90, 91, 92, 93] (by decide +kernel) (by decide +kernel)
set_option maxRecDepth 20000 in
theorem gX9_does_X9_mends : GoodIn wsX9_does (wsV RX9 188 RX9 yX9_mends wsX9_mends) := goodIn_app (goodIn_of _ (by decide +kernel)) ggX9_does_X9_mends
set_option maxRecDepth 20000 in
theorem ggX9_does_X9_set : GoodIn wsX9_does wsX9_set := goodIn_r _ [43, 44, 45, 46, 5, 47, 48, 14, 49, 50, 51, 52, 53, 54, 55, 56, 57, 58, 59, 60, 61, 62, 63, 64, 65, 66, 67, 68, 69, 70, 71, 72, 73, 74, 75, 76, 77, 78, 79, 80, 81, 82, 83, 84, 85, 86, 87, 88, 89, 90, 91, 92, 93] (by decide +kernel) (by decide +kernel)
set_option maxRecDepth 20000 in
theorem gX9_does_X9_set : GoodIn wsX9_does (wsV RX9 174 RX9 yX9_set wsX9_set) := goodIn_app (goodIn_of _ (by decide +kernel)) ggX9_does_X9_set
theorem dX9_does_0 : decode cX9_does 0 = .ok (.aload_n 0, 1) := by decide +kernel
theorem dX9_does_1 : decode cX9_does 1 = .ok (.getfield 69, 3) := by decide +kernel
theorem dX9_does_4 : decode cX9_does 4 = .ok (.iload_n 1, 1) := by decide +kernel
theorem dX9_does_5 : decode cX9_does 5 = .ok (.iconst 0, 1) := by decide +kernel
theorem dX9_does_6 : decode cX9_does 6 = .ok (.iastore, 1) := by decide +kernel
theorem dX9_does_7 : decode cX9_does 7 = .ok (.aload_n 0, 1) := by decide +kernel
theorem dX9_does_8 : decode cX9_does 8 = .ok (.iload_n 1, 1) := by decide +kernel
theorem dX9_does_9 : decode cX9_does 9 = .ok (.iload_n 2, 1) := by decide +kernel
theorem dX9_does_10 : decode cX9_does 10 = .ok (.invokevirtual 184, 3) := by decide +kernel
theorem dX9_does_13 : decode cX9_does 13 = .ok (.ifCond .eq 4, 3) := by decide +kernel
theorem dX9_does_16 : decode cX9_does 16 = .ok (.return_, 1) := by decide +kernel
theorem dX9_does_17 : decode cX9_does 17 = .ok (.iload_n 2, 1) := by decide +kernel
theorem dX9_does_18 : decode cX9_does 18 = .ok (.bipush 10, 2) := by decide +kernel
theorem dX9_does_20 : decode cX9_does 20 = .ok (.imul, 1) := by decide +kernel
theorem dX9_does_21 : decode cX9_does 21 = .ok (.aload_n 0, 1) := by decide +kernel
theorem dX9_does_22 : decode cX9_does 22 = .ok (.getfield 35, 3) := by decide +kernel
theorem dX9_does_25 : decode cX9_does 25 = .ok (.iload_n 1, 1) := by decide +kernel
theorem dX9_does_26 : decode cX9_does 26 = .ok (.iaload, 1) := by decide +kernel
theorem dX9_does_27 : decode cX9_does 27 = .ok (.iadd, 1) := by decide +kernel
theorem dX9_does_28 : decode cX9_does 28 = .ok (.istore_n 3, 1) := by decide +kernel
theorem dX9_does_29 : decode cX9_does 29 = .ok (.aload_n 0, 1) := by decide +kernel
theorem dX9_does_30 : decode cX9_does 30 = .ok (.getfield 13, 3) := by decide +kernel
theorem dX9_does_33 : decode cX9_does 33 = .ok (.iload_n 3, 1) := by decide +kernel
theorem dX9_does_34 : decode cX9_does 34 = .ok (.iaload, 1) := by decide +kernel
theorem dX9_does_35 : decode cX9_does 35 = .ok (.istore 4, 2) := by decide +kernel
theorem dX9_does_37 : decode cX9_does 37 = .ok (.aload_n 0, 1) := by decide +kernel
theorem dX9_does_38 : decode cX9_does 38 = .ok (.getfield 17, 3) := by decide +kernel
theorem dX9_does_41 : decode cX9_does 41 = .ok (.iload_n 3, 1) := by decide +kernel
theorem dX9_does_42 : decode cX9_does 42 = .ok (.iaload, 1) := by decide +kernel
theorem dX9_does_43 : decode cX9_does 43 = .ok (.istore 5, 2) := by decide +kernel
theorem dX9_does_45 : decode cX9_does 45 = .ok (.iload_n 2, 1) := by decide +kernel
theorem dX9_does_46 : decode cX9_does 46 = .ok (.bipush 6, 2) := by decide +kernel
theorem dX9_does_48 : decode cX9_does 48 = .ok (.imul, 1) := by decide +kernel
theorem dX9_does_49 : decode cX9_does 49 = .ok (.iload 5, 2) := by decide +kernel
theorem dX9_does_51 : decode cX9_does 51 = .ok (.iadd, 1) := by decide +kernel
theorem dX9_does_52 : decode cX9_does 52 = .ok (.istore 6, 2) := by decide +kernel
theorem dX9_does_54 : decode cX9_does 54 = .ok (.aload_n 0, 1) := by decide +kernel
theorem dX9_does_55 : decode cX9_does 55 = .ok (.getfield 32, 3) := by decide +kernel
theorem dX9_does_58 : decode cX9_does 58 = .ok (.iload_n 1, 1) := by decide +kernel
theorem dX9_does_59 : decode cX9_does 59 = .ok (.iconst 4, 1) := by decide +kernel
theorem dX9_does_60 : decode cX9_does 60 = .ok (.imul, 1) := by decide +kernel
theorem dX9_does_61 : decode cX9_does 61 = .ok (.iload 4, 2) := by decide +kernel
theorem dX9_does_63 : decode cX9_does 63 = .ok (.iadd, 1) := by decide +kernel
theorem dX9_does_64 : decode cX9_does 64 = .ok (.iaload, 1) := by decide +kernel
theorem dX9_does_65 : decode cX9_does 65 = .ok (.istore 7, 2) := by decide +kernel
theorem dX9_does_67 : decode cX9_does 67 = .ok (.aload_n 0, 1) := by decide +kernel
theorem dX9_does_68 : decode cX9_does 68 = .ok (.getfield 9, 3) := by decide +kernel
theorem dX9_does_71 : decode cX9_does 71 = .ok (.iload_n 3, 1) := by decide +kernel
theorem dX9_does_72 : decode cX9_does 72 = .ok (.caload, 1) := by decide +kernel
theorem dX9_does_73 : decode cX9_does 73 = .ok (.bipush 114, 2) := by decide +kernel
theorem dX9_does_75 : decode cX9_does 75 = .ok (.if_icmp .ne 14, 3) := by decide +kernel
theorem dX9_does_78 : decode cX9_does 78 = .ok (.aload_n 0, 1) := by decide +kernel
theorem dX9_does_79 : decode cX9_does 79 = .ok (.iload_n 1, 1) := by decide +kernel
theorem dX9_does_80 : decode cX9_does 80 = .ok (.iload 6, 2) := by decide +kernel
theorem dX9_does_82 : decode cX9_does 82 = .ok (.invokevirtual 188, 3) := by decide +kernel
theorem dX9_does_85 : decode cX9_does 85 = .ok (.ifCond .ne 4, 3) := by decide +kernel
theorem dX9_does_88 : decode cX9_does 88 = .ok (.return_, 1) := by decide +kernel
theorem dX9_does_89 : decode cX9_does 89 = .ok (.aload_n 0, 1) := by decide +kernel
theorem dX9_does_90 : decode cX9_does 90 = .ok (.getfield 35, 3) := by decide +kernel
theorem dX9_does_93 : decode cX9_does 93 = .ok (.iload_n 1, 1) := by decide +kernel
theorem dX9_does_94 : decode cX9_does 94 = .ok (.dup2, 1) := by decide +kernel
theorem dX9_does_95 : decode cX9_does 95 = .ok (.iaload, 1) := by decide +kernel
theorem dX9_does_96 : decode cX9_does 96 = .ok (.iconst 1, 1) := by decide +kernel
theorem dX9_does_97 : decode cX9_does 97 = .ok (.iadd, 1) := by decide +kernel
theorem dX9_does_98 : decode cX9_does 98 = .ok (.iastore, 1) := by decide +kernel
theorem dX9_does_99 : decode cX9_does 99 = .ok (.aload_n 0, 1) := by decide +kernel
theorem dX9_does_100 : decode cX9_does 100 = .ok (.getfield 9, 3) := by decide +kernel
theorem dX9_does_103 : decode cX9_does 103 = .ok (.iload_n 3, 1) := by decide +kernel
theorem dX9_does_104 : decode cX9_does 104 = .ok (.caload, 1) := by decide +kernel
theorem dX9_does_105 : decode cX9_does 105 = .ok (.tableswitch 241 97 115 #[103, 241, 241, 241, 241, 241, 241, 241, 203, 241, 241, 91, 151, 241, 220, 241, 241, 181, 127], 91) := by decide +kernel
theorem dX9_does_196 : decode cX9_does 196 = .ok (.aload_n 0, 1) := by decide +kernel
theorem dX9_does_197 : decode cX9_does 197 = .ok (.iload_n 1, 1) := by decide +kernel
theorem dX9_does_198 : decode cX9_does 198 = .ok (.iload 4, 2) := by decide +kernel
theorem dX9_does_200 : decode cX9_does 200 = .ok (.iload 5, 2) := by decide +kernel
theorem dX9_does_202 : decode cX9_does 202 = .ok (.invokevirtual 174, 3) := by decide +kernel
theorem dX9_does_205 : decode cX9_does 205 = .ok (.goto 163, 3) := by decide +kernel
theorem dX9_does_208 : decode cX9_does 208 = .ok (.aload_n 0, 1) := by decide +kernel
theorem dX9_does_209 : decode cX9_does 209 = .ok (.iload_n 1, 1) := by decide +kernel
theorem dX9_does_210 : decode cX9_does 210 = .ok (.iload 4, 2) := by decide +kernel
theorem dX9_does_212 : decode cX9_does 212 = .ok (.iload 7, 2) := by decide +kernel
theorem dX9_does_214 : decode cX9_does 214 = .ok (.aload_n 0, 1) := by decide +kernel
theorem dX9_does_215 : decode cX9_does 215 = .ok (.getfield 32, 3) := by decide +kernel
theorem dX9_does_218 : decode cX9_does 218 = .ok (.iload_n 1, 1) := by decide +kernel
theorem dX9_does_219 : decode cX9_does 219 = .ok (.iconst 4, 1) := by decide +kernel
theorem dX9_does_220 : decode cX9_does 220 = .ok (.imul, 1) := by decide +kernel
theorem dX9_does_221 : decode cX9_does 221 = .ok (.iload 5, 2) := by decide +kernel
theorem dX9_does_223 : decode cX9_does 223 = .ok (.iadd, 1) := by decide +kernel
theorem dX9_does_224 : decode cX9_does 224 = .ok (.iaload, 1) := by decide +kernel
theorem dX9_does_225 : decode cX9_does 225 = .ok (.iadd, 1) := by decide +kernel
theorem dX9_does_226 : decode cX9_does 226 = .ok (.invokevirtual 174, 3) := by decide +kernel
theorem dX9_does_229 : decode cX9_does 229 = .ok (.goto 139, 3) := by decide +kernel
theorem dX9_does_232 : decode cX9_does 232 = .ok (.aload_n 0, 1) := by decide +kernel
theorem dX9_does_233 : decode cX9_does 233 = .ok (.iload_n 1, 1) := by decide +kernel
theorem dX9_does_234 : decode cX9_does 234 = .ok (.iload 4, 2) := by decide +kernel
theorem dX9_does_236 : decode cX9_does 236 = .ok (.iload 7, 2) := by decide +kernel
theorem dX9_does_238 : decode cX9_does 238 = .ok (.aload_n 0, 1) := by decide +kernel
theorem dX9_does_239 : decode cX9_does 239 = .ok (.getfield 32, 3) := by decide +kernel
theorem dX9_does_242 : decode cX9_does 242 = .ok (.iload_n 1, 1) := by decide +kernel
theorem dX9_does_243 : decode cX9_does 243 = .ok (.iconst 4, 1) := by decide +kernel
theorem dX9_does_244 : decode cX9_does 244 = .ok (.imul, 1) := by decide +kernel
theorem dX9_does_245 : decode cX9_does 245 = .ok (.iload 5, 2) := by decide +kernel
theorem dX9_does_247 : decode cX9_does 247 = .ok (.iadd, 1) := by decide +kernel
theorem dX9_does_248 : decode cX9_does 248 = .ok (.iaload, 1) := by decide +kernel
theorem dX9_does_249 : decode cX9_does 249 = .ok (.isub, 1) := by decide +kernel
theorem dX9_does_250 : decode cX9_does 250 = .ok (.invokevirtual 174, 3) := by decide +kernel
theorem dX9_does_253 : decode cX9_does 253 = .ok (.goto 115, 3) := by decide +kernel
theorem dX9_does_256 : decode cX9_does 256 = .ok (.aload_n 0, 1) := by decide +kernel
theorem dX9_does_257 : decode cX9_does 257 = .ok (.getfield 26, 3) := by decide +kernel
theorem dX9_does_260 : decode cX9_does 260 = .ok (.iload_n 1, 1) := by decide +kernel
theorem dX9_does_261 : decode cX9_does 261 = .ok (.bipush 18, 2) := by decide +kernel
theorem dX9_does_263 : decode cX9_does 263 = .ok (.imul, 1) := by decide +kernel
theorem dX9_does_264 : decode cX9_does 264 = .ok (.iload 6, 2) := by decide +kernel
theorem dX9_does_266 : decode cX9_does 266 = .ok (.iadd, 1) := by decide +kernel
theorem dX9_does_267 : decode cX9_does 267 = .ok (.iload 7, 2) := by decide +kernel
theorem dX9_does_269 : decode cX9_does 269 = .ok (.iastore, 1) := by decide +kernel
theorem dX9_does_270 : decode cX9_does 270 = .ok (.aload_n 0, 1) := by decide +kernel
theorem dX9_does_271 : decode cX9_does 271 = .ok (.getfield 29, 3) := by decide +kernel
theorem dX9_does_274 : decode cX9_does 274 = .ok (.iload_n 1, 1) := by decide +kernel
theorem dX9_does_275 : decode cX9_does 275 = .ok (.bipush 18, 2) := by decide +kernel
theorem dX9_does_277 : decode cX9_does 277 = .ok (.imul, 1) := by decide +kernel
theorem dX9_does_278 : decode cX9_does 278 = .ok (.iload 6, 2) := by decide +kernel
theorem dX9_does_280 : decode cX9_does 280 = .ok (.iadd, 1) := by decide +kernel
theorem dX9_does_281 : decode cX9_does 281 = .ok (.iconst 0, 1) := by decide +kernel
theorem dX9_does_282 : decode cX9_does 282 = .ok (.iastore, 1) := by decide +kernel
theorem dX9_does_283 : decode cX9_does 283 = .ok (.goto 85, 3) := by decide +kernel
theorem dX9_does_286 : decode cX9_does 286 = .ok (.aload_n 0, 1) := by decide +kernel
theorem dX9_does_287 : decode cX9_does 287 = .ok (.iload_n 1, 1) := by decide +kernel
theorem dX9_does_288 : decode cX9_does 288 = .ok (.iload 4, 2) := by decide +kernel
theorem dX9_does_290 : decode cX9_does 290 = .ok (.aload_n 0, 1) := by decide +kernel
theorem dX9_does_291 : decode cX9_does 291 = .ok (.getfield 26, 3) := by decide +kernel
theorem dX9_does_294 : decode cX9_does 294 = .ok (.iload_n 1, 1) := by decide +kernel
theorem dX9_does_295 : decode cX9_does 295 = .ok (.bipush 18, 2) := by decide +kernel
theorem dX9_does_297 : decode cX9_does 297 = .ok (.imul, 1) := by decide +kernel
theorem dX9_does_298 : decode cX9_does 298 = .ok (.iload 6, 2) := by decide +kernel
theorem dX9_does_300 : decode cX9_does 300 = .ok (.iadd, 1) := by decide +kernel
theorem dX9_does_301 : decode cX9_does 301 = .ok (.iaload, 1) := by decide +kernel
theorem dX9_does_302 : decode cX9_does 302 = .ok (.invokevirtual 174, 3) := by decide +kernel
theorem dX9_does_305 : decode cX9_does 305 = .ok (.goto 63, 3) := by decide +kernel
theorem dX9_does_308 : decode cX9_does 308 = .ok (.aload_n 0, 1) := by decide +kernel
theorem dX9_does_309 : decode cX9_does 309 = .ok (.iload_n 1, 1) := by decide +kernel
theorem dX9_does_310 : decode cX9_does 310 = .ok (.iload 4, 2) := by decide +kernel
theorem dX9_does_312 : decode cX9_does 312 = .ok (.aload_n 0, 1) := by decide +kernel
theorem dX9_does_313 : decode cX9_does 313 = .ok (.getfield 90, 3) := by decide +kernel
theorem dX9_does_316 : decode cX9_does 316 = .ok (.iload 5, 2) := by decide +kernel
theorem dX9_does_318 : decode cX9_does 318 = .ok (.iaload, 1) := by decide +kernel
theorem dX9_does_319 : decode cX9_does 319 = .ok (.invokevirtual 174, 3) := by decide +kernel
theorem dX9_does_322 : decode cX9_does 322 = .ok (.goto 46, 3) := by decide +kernel
theorem dX9_does_325 : decode cX9_does 325 = .ok (.aload_n 0, 1) := by decide +kernel
theorem dX9_does_326 : decode cX9_does 326 = .ok (.getfield 69, 3) := by decide +kernel
theorem dX9_does_329 : decode cX9_does 329 = .ok (.iload_n 1, 1) := by decide +kernel
theorem dX9_does_330 : decode cX9_does 330 = .ok (.iload 5, 2) := by decide +kernel
theorem dX9_does_332 : decode cX9_does 332 = .ok (.iconst 1, 1) := by decide +kernel
theorem dX9_does_333 : decode cX9_does 333 = .ok (.iadd, 1) := by decide +kernel
theorem dX9_does_334 : decode cX9_does 334 = .ok (.iastore, 1) := by decide +kernel
theorem dX9_does_335 : decode cX9_does 335 = .ok (.aload_n 0, 1) := by decide +kernel
theorem dX9_does_336 : decode cX9_does 336 = .ok (.getfield 72, 3) := by decide +kernel
theorem dX9_does_339 : decode cX9_does 339 = .ok (.iload_n 1, 1) := by decide +kernel
theorem dX9_does_340 : decode cX9_does 340 = .ok (.iload 7, 2) := by decide +kernel
theorem dX9_does_342 : decode cX9_does 342 = .ok (.iastore, 1) := by decide +kernel
theorem dX9_does_343 : decode cX9_does 343 = .ok (.goto 25, 3) := by decide +kernel
theorem dX9_does_346 : decode cX9_does 346 = .ok (.aload_n 0, 1) := by decide +kernel
theorem dX9_does_347 : decode cX9_does 347 = .ok (.getfield 35, 3) := by decide +kernel
theorem dX9_does_350 : decode cX9_does 350 = .ok (.iload_n 1, 1) := by decide +kernel
theorem dX9_does_351 : decode cX9_does 351 = .ok (.iload 7, 2) := by decide +kernel
theorem dX9_does_353 : decode cX9_does 353 = .ok (.ifCond .le 8, 3) := by decide +kernel
theorem dX9_does_356 : decode cX9_does 356 = .ok (.iload 5, 2) := by decide +kernel
theorem dX9_does_358 : decode cX9_does 358 = .ok (.goto 9, 3) := by decide +kernel
theorem dX9_does_361 : decode cX9_does 361 = .ok (.aload_n 0, 1) := by decide +kernel
theorem dX9_does_362 : decode cX9_does 362 = .ok (.getfield 35, 3) := by decide +kernel
theorem dX9_does_365 : decode cX9_does 365 = .ok (.iload_n 1, 1) := by decide +kernel
theorem dX9_does_366 : decode cX9_does 366 = .ok (.iaload, 1) := by decide +kernel
theorem dX9_does_367 : decode cX9_does 367 = .ok (.iastore, 1) := by decide +kernel
theorem dX9_does_368 : decode cX9_does 368 = .ok (.return_, 1) := by decide +kernel
theorem dX9_areLike_0 : decode cX9_areLike 0 = .ok (.aload_n 0, 1) := by decide +kernel
theorem dX9_areLike_1 : decode cX9_areLike 1 = .ok (.getfield 69, 3) := by decide +kernel
theorem dX9_areLike_4 : decode cX9_areLike 4 = .ok (.iload_n 1, 1) := by decide +kernel
theorem dX9_areLike_5 : decode cX9_areLike 5 = .ok (.iaload, 1) := by decide +kernel
theorem dX9_areLike_6 : decode cX9_areLike 6 = .ok (.aload_n 0, 1) := by decide +kernel
theorem dX9_areLike_7 : decode cX9_areLike 7 = .ok (.getfield 69, 3) := by decide +kernel
theorem dX9_areLike_10 : decode cX9_areLike 10 = .ok (.iload_n 2, 1) := by decide +kernel
theorem dX9_areLike_11 : decode cX9_areLike 11 = .ok (.iaload, 1) := by decide +kernel
theorem dX9_areLike_12 : decode cX9_areLike 12 = .ok (.if_icmp .ne 31, 3) := by decide +kernel
theorem dX9_areLike_15 : decode cX9_areLike 15 = .ok (.aload_n 0, 1) := by decide +kernel
theorem dX9_areLike_16 : decode cX9_areLike 16 = .ok (.getfield 69, 3) := by decide +kernel
theorem dX9_areLike_19 : decode cX9_areLike 19 = .ok (.iload_n 1, 1) := by decide +kernel
theorem dX9_areLike_20 : decode cX9_areLike 20 = .ok (.iaload, 1) := by decide +kernel
theorem dX9_areLike_21 : decode cX9_areLike 21 = .ok (.ifCond .eq 18, 3) := by decide +kernel
theorem dX9_areLike_24 : decode cX9_areLike 24 = .ok (.aload_n 0, 1) := by decide +kernel
theorem dX9_areLike_25 : decode cX9_areLike 25 = .ok (.getfield 72, 3) := by decide +kernel
theorem dX9_areLike_28 : decode cX9_areLike 28 = .ok (.iload_n 1, 1) := by decide +kernel
theorem dX9_areLike_29 : decode cX9_areLike 29 = .ok (.iaload, 1) := by decide +kernel
theorem dX9_areLike_30 : decode cX9_areLike 30 = .ok (.aload_n 0, 1) := by decide +kernel
theorem dX9_areLike_31 : decode cX9_areLike 31 = .ok (.getfield 72, 3) := by decide +kernel
theorem dX9_areLike_34 : decode cX9_areLike 34 = .ok (.iload_n 2, 1) := by decide +kernel
theorem dX9_areLike_35 : decode cX9_areLike 35 = .ok (.iaload, 1) := by decide +kernel
theorem dX9_areLike_36 : decode cX9_areLike 36 = .ok (.if_icmp .ne 7, 3) := by decide +kernel
theorem dX9_areLike_39 : decode cX9_areLike 39 = .ok (.iconst 1, 1) := by decide +kernel
theorem dX9_areLike_40 : decode cX9_areLike 40 = .ok (.goto 4, 3) := by decide +kernel
theorem dX9_areLike_43 : decode cX9_areLike 43 = .ok (.iconst 0, 1) := by decide +kernel
theorem dX9_areLike_44 : decode cX9_areLike 44 = .ok (.ireturn, 1) := by decide +kernel
set_option maxRecDepth 20000 in
theorem ggX9_vote_X9_on : GoodIn wsX9_vote wsX9_on := goodIn_r _ [10, 1, 33, 34, 35, 36, 37, 38, 39, 40, 41, 42, 43, 44, 45, 46, 47, 48, 49, 50, 51, 52, 53, 54, 55, 56, 57, 58, 59, 60, 61, 62, 63, 64, 65, 66, 67, 68, 69, 70, 71, 72, 73, 74, 75, 76] (by decide +kernel) (by decide +kernel)
set_option maxRecDepth 20000 in
theorem gX9_vote_X9_on : GoodIn wsX9_vote (wsV RX9 191 RX9 yX9_on wsX9_on) := goodIn_app (goodIn_of _ (by decide +kernel)) ggX9_vote_X9_on
set_option maxRecDepth 20000 in
theorem ggX9_vote_X9_lowest : GoodIn wsX9_vote wsX9_lowest := goodIn_r _ [14, 1, 33, 34, 35, 36, 37, 38, 39, 40, 41, 42, 43, 44, 45, 46, 47, 48, 49, 50, 51, 52, 53, 54, 55, 56, 57, 58, 59, 60, 61, 62, 63, 64, 65, 66, 67, 68, 69, 70, 71, 72, 73, 74, 75, 76] (by decide +kernel) (by decide +kernel)
set_option maxRecDepth 20000 in
theorem gX9_vote_X9_lowest : GoodIn wsX9_vote (wsV RX9 195 RX9 yX9_lowest wsX9_lowest) := goodIn_app (goodIn_of _ (by decide +kernel)) ggX9_vote_X9_lowest
set_option maxRecDepth 20000 in
theorem ggX9_vote_X9_areLike : GoodIn wsX9_vote wsX9_areLike := goodIn_r _ [18, 3, 5, 33, 34, 35, 36, 37, 38, 39, 40, 41, 42, 43, 44, 45, 46, 47, 48, 49, 50, 51, 52, 53, 54, 55, 56, 57, 58, 59, 60, 61, 62, 63, 64, 65, 66, 67, 68, 69, 70, 71, 72, 73, 74, 75, 76] (by decide +kernel) (by decide +kernel)
set_option maxRecDepth 20000 in
theorem gX9_vote_X9_areLike : GoodIn wsX9_vote (wsV RX9 198 RX9 yX9_areLike wsX9_areLike) := goodIn_app (goodIn_of _ (by decide +kernel)) ggX9_vote_X9_areLike
set_option maxRecDepth 20000 in
theorem ggX9_vote_X9_off : GoodIn wsX9_vote wsX9_off := goodIn_r _ [22, 1, 23, 24, 25, 26, 9, 27, 28, 29, 30, 31, 32, 33, 34, 35, 36, 37, 38, 39, 40, 41, 42, 43, 44, 45, 46, 47, 48, 49, 50, 51, 52, 53, 54, 55, 56, 57, 58, 59, 60, 61, 62, 63, 64, 65, 66, 67, 68, 69, 70, 71, 72, 73, 74, 75, 76] (by decide +kernel) (by decide +kernel)
set_option maxRecDepth 20000 in
theorem gX9_vote_X9_off : GoodIn wsX9_vote (wsV RX9 181 RX9 yX9_off wsX9_off) := goodIn_app (goodIn_of _ (by decide +kernel)) ggX9_vote_X9_off
theorem dX9_vote_0 : decode cX9_vote 0 = .ok (.aload_n 0, 1) := by decide +kernel
theorem dX9_vote_1 : decode cX9_vote 1 = .ok (.invokevirtual 191, 3) := by decide +kernel
theorem dX9_vote_4 : decode cX9_vote 4 = .ok (.istore_n 1, 1) := by decide +kernel
theorem dX9_vote_5 : decode cX9_vote 5 = .ok (.iload_n 1, 1) := by decide +kernel
theorem dX9_vote_6 : decode cX9_vote 6 = .ok (.iconst 1, 1) := by decide +kernel
theorem dX9_vote_7 : decode cX9_vote 7 = .ok (.if_icmp .ne 10, 3) := by decide +kernel
theorem dX9_vote_10 : decode cX9_vote 10 = .ok (.aload_n 0, 1) := by decide +kernel
theorem dX9_vote_11 : decode cX9_vote 11 = .ok (.invokevirtual 195, 3) := by decide +kernel
theorem dX9_vote_14 : decode cX9_vote 14 = .ok (.goto 4, 3) := by decide +kernel
theorem dX9_vote_17 : decode cX9_vote 17 = .ok (.iconst (-1), 1) := by decide +kernel
theorem dX9_vote_18 : decode cX9_vote 18 = .ok (.istore_n 2, 1) := by decide +kernel
theorem dX9_vote_19 : decode cX9_vote 19 = .ok (.iconst 0, 1) := by decide +kernel
theorem dX9_vote_20 : decode cX9_vote 20 = .ok (.istore_n 3, 1) := by decide +kernel
theorem dX9_vote_21 : decode cX9_vote 21 = .ok (.iload_n 3, 1) := by decide +kernel
theorem dX9_vote_22 : decode cX9_vote 22 = .ok (.iconst 3, 1) := by decide +kernel
theorem dX9_vote_23 : decode cX9_vote 23 = .ok (.if_icmp .ge 65, 3) := by decide +kernel
theorem dX9_vote_26 : decode cX9_vote 26 = .ok (.iconst 0, 1) := by decide +kernel
theorem dX9_vote_27 : decode cX9_vote 27 = .ok (.istore 4, 2) := by decide +kernel
theorem dX9_vote_29 : decode cX9_vote 29 = .ok (.iload 4, 2) := by decide +kernel
theorem dX9_vote_31 : decode cX9_vote 31 = .ok (.iconst 3, 1) := by decide +kernel
theorem dX9_vote_32 : decode cX9_vote 32 = .ok (.if_icmp .ge 50, 3) := by decide +kernel
theorem dX9_vote_35 : decode cX9_vote 35 = .ok (.iload_n 3, 1) := by decide +kernel
theorem dX9_vote_36 : decode cX9_vote 36 = .ok (.iload 4, 2) := by decide +kernel
theorem dX9_vote_38 : decode cX9_vote 38 = .ok (.if_icmp .eq 36, 3) := by decide +kernel
theorem dX9_vote_41 : decode cX9_vote 41 = .ok (.aload_n 0, 1) := by decide +kernel
theorem dX9_vote_42 : decode cX9_vote 42 = .ok (.getfield 38, 3) := by decide +kernel
theorem dX9_vote_45 : decode cX9_vote 45 = .ok (.iload_n 3, 1) := by decide +kernel
theorem dX9_vote_46 : decode cX9_vote 46 = .ok (.baload, 1) := by decide +kernel
theorem dX9_vote_47 : decode cX9_vote 47 = .ok (.ifCond .ne 27, 3) := by decide +kernel
theorem dX9_vote_50 : decode cX9_vote 50 = .ok (.aload_n 0, 1) := by decide +kernel
theorem dX9_vote_51 : decode cX9_vote 51 = .ok (.getfield 38, 3) := by decide +kernel
theorem dX9_vote_54 : decode cX9_vote 54 = .ok (.iload 4, 2) := by decide +kernel
theorem dX9_vote_56 : decode cX9_vote 56 = .ok (.baload, 1) := by decide +kernel
theorem dX9_vote_57 : decode cX9_vote 57 = .ok (.ifCond .ne 17, 3) := by decide +kernel
theorem dX9_vote_60 : decode cX9_vote 60 = .ok (.aload_n 0, 1) := by decide +kernel
theorem dX9_vote_61 : decode cX9_vote 61 = .ok (.iload_n 3, 1) := by decide +kernel
theorem dX9_vote_62 : decode cX9_vote 62 = .ok (.iload 4, 2) := by decide +kernel
theorem dX9_vote_64 : decode cX9_vote 64 = .ok (.invokevirtual 198, 3) := by decide +kernel
theorem dX9_vote_67 : decode cX9_vote 67 = .ok (.ifCond .eq 7, 3) := by decide +kernel
theorem dX9_vote_70 : decode cX9_vote 70 = .ok (.iload_n 3, 1) := by decide +kernel
theorem dX9_vote_71 : decode cX9_vote 71 = .ok (.goto 4, 3) := by decide +kernel
theorem dX9_vote_74 : decode cX9_vote 74 = .ok (.iload_n 2, 1) := by decide +kernel
theorem dX9_vote_75 : decode cX9_vote 75 = .ok (.istore_n 2, 1) := by decide +kernel
theorem dX9_vote_76 : decode cX9_vote 76 = .ok (.iinc 4 1, 3) := by decide +kernel
theorem dX9_vote_79 : decode cX9_vote 79 = .ok (.goto (-50), 3) := by decide +kernel
theorem dX9_vote_82 : decode cX9_vote 82 = .ok (.iinc 3 1, 3) := by decide +kernel
theorem dX9_vote_85 : decode cX9_vote 85 = .ok (.goto (-64), 3) := by decide +kernel
theorem dX9_vote_88 : decode cX9_vote 88 = .ok (.iconst 0, 1) := by decide +kernel
theorem dX9_vote_89 : decode cX9_vote 89 = .ok (.istore_n 3, 1) := by decide +kernel
theorem dX9_vote_90 : decode cX9_vote 90 = .ok (.iload_n 3, 1) := by decide +kernel
theorem dX9_vote_91 : decode cX9_vote 91 = .ok (.iconst 3, 1) := by decide +kernel
theorem dX9_vote_92 : decode cX9_vote 92 = .ok (.if_icmp .ge 46, 3) := by decide +kernel
theorem dX9_vote_95 : decode cX9_vote 95 = .ok (.aload_n 0, 1) := by decide +kernel
theorem dX9_vote_96 : decode cX9_vote 96 = .ok (.getfield 45, 3) := by decide +kernel
theorem dX9_vote_99 : decode cX9_vote 99 = .ok (.iload_n 3, 1) := by decide +kernel
theorem dX9_vote_100 : decode cX9_vote 100 = .ok (.dup2, 1) := by decide +kernel
theorem dX9_vote_101 : decode cX9_vote 101 = .ok (.iaload, 1) := by decide +kernel
theorem dX9_vote_102 : decode cX9_vote 102 = .ok (.aload_n 0, 1) := by decide +kernel
theorem dX9_vote_103 : decode cX9_vote 103 = .ok (.getfield 38, 3) := by decide +kernel
theorem dX9_vote_106 : decode cX9_vote 106 = .ok (.iload_n 3, 1) := by decide +kernel
theorem dX9_vote_107 : decode cX9_vote 107 = .ok (.baload, 1) := by decide +kernel
theorem dX9_vote_108 : decode cX9_vote 108 = .ok (.ifCond .ne 21, 3) := by decide +kernel
theorem dX9_vote_111 : decode cX9_vote 111 = .ok (.iload_n 2, 1) := by decide +kernel
theorem dX9_vote_112 : decode cX9_vote 112 = .ok (.iconst (-1), 1) := by decide +kernel
theorem dX9_vote_113 : decode cX9_vote 113 = .ok (.if_icmp .eq 12, 3) := by decide +kernel
theorem dX9_vote_116 : decode cX9_vote 116 = .ok (.aload_n 0, 1) := by decide +kernel
theorem dX9_vote_117 : decode cX9_vote 117 = .ok (.iload_n 3, 1) := by decide +kernel
theorem dX9_vote_118 : decode cX9_vote 118 = .ok (.iload_n 2, 1) := by decide +kernel
theorem dX9_vote_119 : decode cX9_vote 119 = .ok (.invokevirtual 198, 3) := by decide +kernel
theorem dX9_vote_122 : decode cX9_vote 122 = .ok (.ifCond .ne 7, 3) := by decide +kernel
theorem dX9_vote_125 : decode cX9_vote 125 = .ok (.iconst 1, 1) := by decide +kernel
theorem dX9_vote_126 : decode cX9_vote 126 = .ok (.goto 4, 3) := by decide +kernel
theorem dX9_vote_129 : decode cX9_vote 129 = .ok (.iconst 0, 1) := by decide +kernel
theorem dX9_vote_130 : decode cX9_vote 130 = .ok (.iadd, 1) := by decide +kernel
theorem dX9_vote_131 : decode cX9_vote 131 = .ok (.iastore, 1) := by decide +kernel
theorem dX9_vote_132 : decode cX9_vote 132 = .ok (.iinc 3 1, 3) := by decide +kernel
theorem dX9_vote_135 : decode cX9_vote 135 = .ok (.goto (-45), 3) := by decide +kernel
theorem dX9_vote_138 : decode cX9_vote 138 = .ok (.iload_n 2, 1) := by decide +kernel
theorem dX9_vote_139 : decode cX9_vote 139 = .ok (.iconst (-1), 1) := by decide +kernel
theorem dX9_vote_140 : decode cX9_vote 140 = .ok (.if_icmp .eq 31, 3) := by decide +kernel
theorem dX9_vote_143 : decode cX9_vote 143 = .ok (.aload_n 0, 1) := by decide +kernel
theorem dX9_vote_144 : decode cX9_vote 144 = .ok (.getfield 69, 3) := by decide +kernel
theorem dX9_vote_147 : decode cX9_vote 147 = .ok (.iload_n 2, 1) := by decide +kernel
theorem dX9_vote_148 : decode cX9_vote 148 = .ok (.iaload, 1) := by decide +kernel
theorem dX9_vote_149 : decode cX9_vote 149 = .ok (.ifCond .le 22, 3) := by decide +kernel
theorem dX9_vote_152 : decode cX9_vote 152 = .ok (.aload_n 0, 1) := by decide +kernel
theorem dX9_vote_153 : decode cX9_vote 153 = .ok (.getfield 75, 3) := by decide +kernel
theorem dX9_vote_156 : decode cX9_vote 156 = .ok (.aload_n 0, 1) := by decide +kernel
theorem dX9_vote_157 : decode cX9_vote 157 = .ok (.getfield 69, 3) := by decide +kernel
theorem dX9_vote_160 : decode cX9_vote 160 = .ok (.iload_n 2, 1) := by decide +kernel
theorem dX9_vote_161 : decode cX9_vote 161 = .ok (.iaload, 1) := by decide +kernel
theorem dX9_vote_162 : decode cX9_vote 162 = .ok (.iconst 1, 1) := by decide +kernel
theorem dX9_vote_163 : decode cX9_vote 163 = .ok (.isub, 1) := by decide +kernel
theorem dX9_vote_164 : decode cX9_vote 164 = .ok (.aload_n 0, 1) := by decide +kernel
theorem dX9_vote_165 : decode cX9_vote 165 = .ok (.getfield 72, 3) := by decide +kernel
theorem dX9_vote_168 : decode cX9_vote 168 = .ok (.iload_n 2, 1) := by decide +kernel
theorem dX9_vote_169 : decode cX9_vote 169 = .ok (.iaload, 1) := by decide +kernel
theorem dX9_vote_170 : decode cX9_vote 170 = .ok (.iastore, 1) := by decide +kernel
theorem dX9_vote_171 : decode cX9_vote 171 = .ok (.iconst 0, 1) := by decide +kernel
theorem dX9_vote_172 : decode cX9_vote 172 = .ok (.istore_n 3, 1) := by decide +kernel
theorem dX9_vote_173 : decode cX9_vote 173 = .ok (.iload_n 3, 1) := by decide +kernel
theorem dX9_vote_174 : decode cX9_vote 174 = .ok (.iconst 3, 1) := by decide +kernel
theorem dX9_vote_175 : decode cX9_vote 175 = .ok (.if_icmp .ge 35, 3) := by decide +kernel
theorem dX9_vote_178 : decode cX9_vote 178 = .ok (.aload_n 0, 1) := by decide +kernel
theorem dX9_vote_179 : decode cX9_vote 179 = .ok (.getfield 38, 3) := by decide +kernel
theorem dX9_vote_182 : decode cX9_vote 182 = .ok (.iload_n 3, 1) := by decide +kernel
theorem dX9_vote_183 : decode cX9_vote 183 = .ok (.baload, 1) := by decide +kernel
theorem dX9_vote_184 : decode cX9_vote 184 = .ok (.ifCond .ne 20, 3) := by decide +kernel
theorem dX9_vote_187 : decode cX9_vote 187 = .ok (.aload_n 0, 1) := by decide +kernel
theorem dX9_vote_188 : decode cX9_vote 188 = .ok (.getfield 45, 3) := by decide +kernel
theorem dX9_vote_191 : decode cX9_vote 191 = .ok (.iload_n 3, 1) := by decide +kernel
theorem dX9_vote_192 : decode cX9_vote 192 = .ok (.iaload, 1) := by decide +kernel
theorem dX9_vote_193 : decode cX9_vote 193 = .ok (.iconst 3, 1) := by decide +kernel
theorem dX9_vote_194 : decode cX9_vote 194 = .ok (.if_icmp .lt 10, 3) := by decide +kernel
theorem dX9_vote_197 : decode cX9_vote 197 = .ok (.aload_n 0, 1) := by decide +kernel
theorem dX9_vote_198 : decode cX9_vote 198 = .ok (.iload_n 3, 1) := by decide +kernel
theorem dX9_vote_199 : decode cX9_vote 199 = .ok (.bipush 118, 2) := by decide +kernel
theorem dX9_vote_201 : decode cX9_vote 201 = .ok (.invokevirtual 181, 3) := by decide +kernel
theorem dX9_vote_204 : decode cX9_vote 204 = .ok (.iinc 3 1, 3) := by decide +kernel
theorem dX9_vote_207 : decode cX9_vote 207 = .ok (.goto (-34), 3) := by decide +kernel
theorem dX9_vote_210 : decode cX9_vote 210 = .ok (.return_, 1) := by decide +kernel
set_option maxRecDepth 20000 in
theorem ggX9_areDone_X9_isDone : GoodIn wsX9_areDone wsX9_isDone := goodIn_r _ [5, 6, 7, 8, 9, 10, 11, 12, 13, 14, 15, 16, 17, 18, 19, 20, 21, 22, 23, 24, 25, 26, 27, 28, 29, 30, 31, 32, 33, 34, 35, 36, 37, 38, 39, 40, 41, 42, 43, 44, 45, 46, 47, 48, 49, 50, 51, 52] (by decide +kernel) (by decide +kernel)
set_option maxRecDepth 20000 in
theorem gX9_areDone_X9_isDone : GoodIn wsX9_areDone (wsV RX9 184 RX9 yX9_isDone wsX9_isDone) := goodIn_app (goodIn_of _ (by decide +kernel)) ggX9_areDone_X9_isDone
theorem dX9_areDone_0 : decode cX9_areDone 0 = .ok (.aload_n 0, 1) := by decide +kernel
theorem dX9_areDone_1 : decode cX9_areDone 1 = .ok (.iconst 0, 1) := by decide +kernel
theorem dX9_areDone_2 : decode cX9_areDone 2 = .ok (.iload_n 1, 1) := by decide +kernel
theorem dX9_areDone_3 : decode cX9_areDone 3 = .ok (.invokevirtual 184, 3) := by decide +kernel
theorem dX9_areDone_6 : decode cX9_areDone 6 = .ok (.ifCond .eq 25, 3) := by decide +kernel
theorem dX9_areDone_9 : decode cX9_areDone 9 = .ok (.aload_n 0, 1) := by decide +kernel
theorem dX9_areDone_10 : decode cX9_areDone 10 = .ok (.iconst 1, 1) := by decide +kernel
theorem dX9_areDone_11 : decode cX9_areDone 11 = .ok (.iload_n 1, 1) := by decide +kernel
theorem dX9_areDone_12 : decode cX9_areDone 12 = .ok (.invokevirtual 184, 3) := by decide +kernel
theorem dX9_areDone_15 : decode cX9_areDone 15 = .ok (.ifCond .eq 16, 3) := by decide +kernel
theorem dX9_areDone_18 : decode cX9_areDone 18 = .ok (.aload_n 0, 1) := by decide +kernel
theorem dX9_areDone_19 : decode cX9_areDone 19 = .ok (.iconst 2, 1) := by decide +kernel
theorem dX9_areDone_20 : decode cX9_areDone 20 = .ok (.iload_n 1, 1) := by decide +kernel
theorem dX9_areDone_21 : decode cX9_areDone 21 = .ok (.invokevirtual 184, 3) := by decide +kernel
theorem dX9_areDone_24 : decode cX9_areDone 24 = .ok (.ifCond .eq 7, 3) := by decide +kernel
theorem dX9_areDone_27 : decode cX9_areDone 27 = .ok (.iconst 1, 1) := by decide +kernel
theorem dX9_areDone_28 : decode cX9_areDone 28 = .ok (.goto 4, 3) := by decide +kernel
theorem dX9_areDone_31 : decode cX9_areDone 31 = .ok (.iconst 0, 1) := by decide +kernel
theorem dX9_areDone_32 : decode cX9_areDone 32 = .ok (.ireturn, 1) := by decide +kernel
set_option maxRecDepth 20000 in
theorem ggX9_run_X9_begins : GoodIn wsX9_run wsX9_begins := goodIn_r _ [9, 10, 11, 12, 13, 8, 14, 15, 16, 17, 18, 19, 20, 21, 82, 83, 84, 85, 86, 87, 88, 89, 90, 91, 92, 93, 94, 95, 96, 97, 98, 99, 100, 101, 102, 103, 104, 105, 106, 107, 108, 109, 110, 111, 112, 113, 114, 115, 116, 117, 118, 119, 120, 121, 122, 123, 124, 125] (by decide +kernel) (by decide +kernel)
set_option maxRecDepth 20000 in
theorem gX9_run_X9_begins : GoodIn wsX9_run (wsV RX9 201 RX9 yX9_begins wsX9_begins) := goodIn_app (goodIn_of _ (by decide +kernel)) ggX9_run_X9_begins
set_option maxRecDepth 20000 in
theorem ggX9_run_X9_does : GoodIn wsX9_run wsX9_does := goodIn_r _ [25, 1, 10, 26, 27, 18, 28, 29, 30, 31, 3, 32, 33, 34, 8, 35, 36, 37, 38, 39, 40, 41, 42, 43, 44, 45, 46, 47, 48, 49, 50, 51, 52, 53, 54, 55, 56, 57, 58, 59, 11, 12, 13, 14, 15, 16, 17, 19, 20, 21, 82, 83, 84, 85, 86, 87, 88, 89, 90, 91, 92, 93, 94, 95, 96, 97, 98, 99, 100, 101, 102, 103, 104, 105, 106, 107, 108, 109, 110, 111, 112, 113, 114, 115, 116, 117, 118, 119, 120, 121, 122, 123, 124, 125] (by decide +kernel) (by decide +kernel)
set_option maxRecDepth 20000 in
theorem gX9_run_X9_does : GoodIn wsX9_run (wsV RX9 205 RX9 yX9_does wsX9_does) := goodIn_app (goodIn_of _ (by decide +kernel)) ggX9_run_X9_does
set_option maxRecDepth 20000 in
theorem ggX9_run_X9_areDone : GoodIn wsX9_run wsX9_areDone := goodIn_r _ [63, 32, 33, 34, 8, 35, 36, 10, 37, 82, 83, 84, 85, 86, 87, 88, 89, 90, 91, 92, 93, 94, 95, 96, 97, 98, 99, 100, 101, 102, 103, 104, 105, 106, 107, 108, 109, 110, 111, 112, 113, 114, 115, 116, 117, 118, 119, 120, 121, 122, 123, 124, 125] (by decide +kernel) (by decide +kernel)
set_option maxRecDepth 20000 in
theorem gX9_run_X9_areDone : GoodIn wsX9_run (wsV RX9 209 RX9 yX9_areDone wsX9_areDone) := goodIn_app (goodIn_of _ (by decide +kernel)) ggX9_run_X9_areDone
set_option maxRecDepth 20000 in
theorem ggX9_run_X9_vote : GoodIn wsX9_run wsX9_vote := goodIn_r _ [67, 36, 68, 1, 69, 3, 70, 71, 72, 8, 73, 74, 75, 76, 77, 78, 79, 80, 81, 46, 47, 48, 49, 50, 51, 52, 53, 54, 55, 56, 57, 58, 59, 82, 83, 84, 85, 86, 87, 88, 89, 90, 91, 92, 93, 94, 95, 96, 97, 98, 99, 100, 101, 102, 103, 104, 105, 106, 107, 108, 109, 110, 111, 112, 113, 114, 115, 116, 117, 118, 119, 120, 121, 122, 123, 124, 125] (by decide +kernel) (by decide +kernel)
set_option maxRecDepth 20000 in
theorem gX9_run_X9_vote : GoodIn wsX9_run (wsV RX9 212 RX9 yX9_vote wsX9_vote) := goodIn_app (goodIn_of _ (by decide +kernel)) ggX9_run_X9_vote
theorem dX9_run_0 : decode cX9_run 0 = .ok (.iconst 0, 1) := by decide +kernel
theorem dX9_run_1 : decode cX9_run 1 = .ok (.istore_n 2, 1) := by decide +kernel
theorem dX9_run_2 : decode cX9_run 2 = .ok (.iload_n 2, 1) := by decide +kernel
theorem dX9_run_3 : decode cX9_run 3 = .ok (.iconst 4, 1) := by decide +kernel
theorem dX9_run_4 : decode cX9_run 4 = .ok (.if_icmp .ge 14, 3) := by decide +kernel
theorem dX9_run_7 : decode cX9_run 7 = .ok (.aload_n 0, 1) := by decide +kernel
theorem dX9_run_8 : decode cX9_run 8 = .ok (.iload_n 2, 1) := by decide +kernel
theorem dX9_run_9 : decode cX9_run 9 = .ok (.invokevirtual 201, 3) := by decide +kernel
theorem dX9_run_12 : decode cX9_run 12 = .ok (.iinc 2 1, 3) := by decide +kernel
theorem dX9_run_15 : decode cX9_run 15 = .ok (.goto (-13), 3) := by decide +kernel
theorem dX9_run_18 : decode cX9_run 18 = .ok (.iconst 0, 1) := by decide +kernel
theorem dX9_run_19 : decode cX9_run 19 = .ok (.istore_n 2, 1) := by decide +kernel
theorem dX9_run_20 : decode cX9_run 20 = .ok (.iload_n 2, 1) := by decide +kernel
theorem dX9_run_21 : decode cX9_run 21 = .ok (.bipush 30, 2) := by decide +kernel
theorem dX9_run_23 : decode cX9_run 23 = .ok (.if_icmp .ge 73, 3) := by decide +kernel
theorem dX9_run_26 : decode cX9_run 26 = .ok (.aload_n 0, 1) := by decide +kernel
theorem dX9_run_27 : decode cX9_run 27 = .ok (.iconst 3, 1) := by decide +kernel
theorem dX9_run_28 : decode cX9_run 28 = .ok (.iload_n 1, 1) := by decide +kernel
theorem dX9_run_29 : decode cX9_run 29 = .ok (.invokevirtual 205, 3) := by decide +kernel
theorem dX9_run_32 : decode cX9_run 32 = .ok (.aload_n 0, 1) := by decide +kernel
theorem dX9_run_33 : decode cX9_run 33 = .ok (.getfield 69, 3) := by decide +kernel
theorem dX9_run_36 : decode cX9_run 36 = .ok (.iconst 3, 1) := by decide +kernel
theorem dX9_run_37 : decode cX9_run 37 = .ok (.iaload, 1) := by decide +kernel
theorem dX9_run_38 : decode cX9_run 38 = .ok (.ifCond .le 22, 3) := by decide +kernel
theorem dX9_run_41 : decode cX9_run 41 = .ok (.aload_n 0, 1) := by decide +kernel
theorem dX9_run_42 : decode cX9_run 42 = .ok (.getfield 78, 3) := by decide +kernel
theorem dX9_run_45 : decode cX9_run 45 = .ok (.aload_n 0, 1) := by decide +kernel
theorem dX9_run_46 : decode cX9_run 46 = .ok (.getfield 69, 3) := by decide +kernel
theorem dX9_run_49 : decode cX9_run 49 = .ok (.iconst 3, 1) := by decide +kernel
theorem dX9_run_50 : decode cX9_run 50 = .ok (.iaload, 1) := by decide +kernel
theorem dX9_run_51 : decode cX9_run 51 = .ok (.iconst 1, 1) := by decide +kernel
theorem dX9_run_52 : decode cX9_run 52 = .ok (.isub, 1) := by decide +kernel
theorem dX9_run_53 : decode cX9_run 53 = .ok (.aload_n 0, 1) := by decide +kernel
theorem dX9_run_54 : decode cX9_run 54 = .ok (.getfield 72, 3) := by decide +kernel
theorem dX9_run_57 : decode cX9_run 57 = .ok (.iconst 3, 1) := by decide +kernel
theorem dX9_run_58 : decode cX9_run 58 = .ok (.iaload, 1) := by decide +kernel
theorem dX9_run_59 : decode cX9_run 59 = .ok (.iastore, 1) := by decide +kernel
theorem dX9_run_60 : decode cX9_run 60 = .ok (.aload_n 0, 1) := by decide +kernel
theorem dX9_run_61 : decode cX9_run 61 = .ok (.iload_n 1, 1) := by decide +kernel
theorem dX9_run_62 : decode cX9_run 62 = .ok (.invokevirtual 209, 3) := by decide +kernel
theorem dX9_run_65 : decode cX9_run 65 = .ok (.ifCond .ne 25, 3) := by decide +kernel
theorem dX9_run_68 : decode cX9_run 68 = .ok (.aload_n 0, 1) := by decide +kernel
theorem dX9_run_69 : decode cX9_run 69 = .ok (.iconst 0, 1) := by decide +kernel
theorem dX9_run_70 : decode cX9_run 70 = .ok (.iload_n 1, 1) := by decide +kernel
theorem dX9_run_71 : decode cX9_run 71 = .ok (.invokevirtual 205, 3) := by decide +kernel
theorem dX9_run_74 : decode cX9_run 74 = .ok (.aload_n 0, 1) := by decide +kernel
theorem dX9_run_75 : decode cX9_run 75 = .ok (.iconst 1, 1) := by decide +kernel
theorem dX9_run_76 : decode cX9_run 76 = .ok (.iload_n 1, 1) := by decide +kernel
theorem dX9_run_77 : decode cX9_run 77 = .ok (.invokevirtual 205, 3) := by decide +kernel
theorem dX9_run_80 : decode cX9_run 80 = .ok (.aload_n 0, 1) := by decide +kernel
theorem dX9_run_81 : decode cX9_run 81 = .ok (.iconst 2, 1) := by decide +kernel
theorem dX9_run_82 : decode cX9_run 82 = .ok (.iload_n 1, 1) := by decide +kernel
theorem dX9_run_83 : decode cX9_run 83 = .ok (.invokevirtual 205, 3) := by decide +kernel
theorem dX9_run_86 : decode cX9_run 86 = .ok (.aload_n 0, 1) := by decide +kernel
theorem dX9_run_87 : decode cX9_run 87 = .ok (.invokevirtual 212, 3) := by decide +kernel
theorem dX9_run_90 : decode cX9_run 90 = .ok (.iinc 2 1, 3) := by decide +kernel
theorem dX9_run_93 : decode cX9_run 93 = .ok (.goto (-73), 3) := by decide +kernel
theorem dX9_run_96 : decode cX9_run 96 = .ok (.aload_n 0, 1) := by decide +kernel
theorem dX9_run_97 : decode cX9_run 97 = .ok (.getfield 81, 3) := by decide +kernel
theorem dX9_run_100 : decode cX9_run 100 = .ok (.iload_n 1, 1) := by decide +kernel
theorem dX9_run_101 : decode cX9_run 101 = .ok (.dup2, 1) := by decide +kernel
theorem dX9_run_102 : decode cX9_run 102 = .ok (.iaload, 1) := by decide +kernel
theorem dX9_run_103 : decode cX9_run 103 = .ok (.aload_n 0, 1) := by decide +kernel
theorem dX9_run_104 : decode cX9_run 104 = .ok (.iload_n 1, 1) := by decide +kernel
theorem dX9_run_105 : decode cX9_run 105 = .ok (.invokevirtual 209, 3) := by decide +kernel
theorem dX9_run_108 : decode cX9_run 108 = .ok (.ifCond .eq 7, 3) := by decide +kernel
theorem dX9_run_111 : decode cX9_run 111 = .ok (.iconst 0, 1) := by decide +kernel
theorem dX9_run_112 : decode cX9_run 112 = .ok (.goto 4, 3) := by decide +kernel
theorem dX9_run_115 : decode cX9_run 115 = .ok (.iconst 1, 1) := by decide +kernel
theorem dX9_run_116 : decode cX9_run 116 = .ok (.iadd, 1) := by decide +kernel
theorem dX9_run_117 : decode cX9_run 117 = .ok (.iastore, 1) := by decide +kernel
theorem dX9_run_118 : decode cX9_run 118 = .ok (.return_, 1) := by decide +kernel
set_option maxRecDepth 20000 in
theorem ggX9_agree_X9_middle : GoodIn wsX9_agree wsX9_middle := goodIn_r _ [8, 9, 10, 7, 11, 12, 13, 14] (by decide +kernel) (by decide +kernel)
set_option maxRecDepth 20000 in
theorem gX9_agree_X9_middle : GoodIn wsX9_agree (va_wsS RX9 215 yX9_middle wsX9_middle) := goodIn_app (goodIn_of _ (by decide +kernel)) ggX9_agree_X9_middle
set_option maxRecDepth 20000 in
theorem ggX9_agree_X9_greater : GoodIn wsX9_agree wsX9_greater := goodIn_r _ [14] (by decide +kernel) (by decide +kernel)
set_option maxRecDepth 20000 in
theorem gX9_agree_X9_greater : GoodIn wsX9_agree (va_wsS RX9 138 yX9_greater wsX9_greater) := goodIn_app (goodIn_of _ (by decide +kernel)) ggX9_agree_X9_greater
theorem dX9_agree_0 : decode cX9_agree 0 = .ok (.iconst 0, 1) := by decide +kernel
theorem dX9_agree_1 : decode cX9_agree 1 = .ok (.istore_n 1, 1) := by decide +kernel
theorem dX9_agree_2 : decode cX9_agree 2 = .ok (.iload_n 1, 1) := by decide +kernel
theorem dX9_agree_3 : decode cX9_agree 3 = .ok (.iconst 4, 1) := by decide +kernel
theorem dX9_agree_4 : decode cX9_agree 4 = .ok (.if_icmp .ge 126, 3) := by decide +kernel
theorem dX9_agree_7 : decode cX9_agree 7 = .ok (.aload_n 0, 1) := by decide +kernel
theorem dX9_agree_8 : decode cX9_agree 8 = .ok (.getfield 84, 3) := by decide +kernel
theorem dX9_agree_11 : decode cX9_agree 11 = .ok (.iload_n 1, 1) := by decide +kernel
theorem dX9_agree_12 : decode cX9_agree 12 = .ok (.iconst 3, 1) := by decide +kernel
theorem dX9_agree_13 : decode cX9_agree 13 = .ok (.imul, 1) := by decide +kernel
theorem dX9_agree_14 : decode cX9_agree 14 = .ok (.iaload, 1) := by decide +kernel
theorem dX9_agree_15 : decode cX9_agree 15 = .ok (.aload_n 0, 1) := by decide +kernel
theorem dX9_agree_16 : decode cX9_agree 16 = .ok (.getfield 84, 3) := by decide +kernel
theorem dX9_agree_19 : decode cX9_agree 19 = .ok (.iload_n 1, 1) := by decide +kernel
theorem dX9_agree_20 : decode cX9_agree 20 = .ok (.iconst 3, 1) := by decide +kernel
theorem dX9_agree_21 : decode cX9_agree 21 = .ok (.imul, 1) := by decide +kernel
theorem dX9_agree_22 : decode cX9_agree 22 = .ok (.iconst 1, 1) := by decide +kernel
theorem dX9_agree_23 : decode cX9_agree 23 = .ok (.iadd, 1) := by decide +kernel
theorem dX9_agree_24 : decode cX9_agree 24 = .ok (.iaload, 1) := by decide +kernel
theorem dX9_agree_25 : decode cX9_agree 25 = .ok (.aload_n 0, 1) := by decide +kernel
theorem dX9_agree_26 : decode cX9_agree 26 = .ok (.getfield 84, 3) := by decide +kernel
theorem dX9_agree_29 : decode cX9_agree 29 = .ok (.iload_n 1, 1) := by decide +kernel
theorem dX9_agree_30 : decode cX9_agree 30 = .ok (.iconst 3, 1) := by decide +kernel
theorem dX9_agree_31 : decode cX9_agree 31 = .ok (.imul, 1) := by decide +kernel
theorem dX9_agree_32 : decode cX9_agree 32 = .ok (.iconst 2, 1) := by decide +kernel
theorem dX9_agree_33 : decode cX9_agree 33 = .ok (.iadd, 1) := by decide +kernel
theorem dX9_agree_34 : decode cX9_agree 34 = .ok (.iaload, 1) := by decide +kernel
theorem dX9_agree_35 : decode cX9_agree 35 = .ok (.invokestatic 215, 3) := by decide +kernel
theorem dX9_agree_38 : decode cX9_agree 38 = .ok (.istore_n 2, 1) := by decide +kernel
theorem dX9_agree_39 : decode cX9_agree 39 = .ok (.iload_n 2, 1) := by decide +kernel
theorem dX9_agree_40 : decode cX9_agree 40 = .ok (.aload_n 0, 1) := by decide +kernel
theorem dX9_agree_41 : decode cX9_agree 41 = .ok (.getfield 90, 3) := by decide +kernel
theorem dX9_agree_44 : decode cX9_agree 44 = .ok (.iload_n 1, 1) := by decide +kernel
theorem dX9_agree_45 : decode cX9_agree 45 = .ok (.iaload, 1) := by decide +kernel
theorem dX9_agree_46 : decode cX9_agree 46 = .ok (.isub, 1) := by decide +kernel
theorem dX9_agree_47 : decode cX9_agree 47 = .ok (.aload_n 0, 1) := by decide +kernel
theorem dX9_agree_48 : decode cX9_agree 48 = .ok (.getfield 90, 3) := by decide +kernel
theorem dX9_agree_51 : decode cX9_agree 51 = .ok (.iload_n 1, 1) := by decide +kernel
theorem dX9_agree_52 : decode cX9_agree 52 = .ok (.iaload, 1) := by decide +kernel
theorem dX9_agree_53 : decode cX9_agree 53 = .ok (.iload_n 2, 1) := by decide +kernel
theorem dX9_agree_54 : decode cX9_agree 54 = .ok (.isub, 1) := by decide +kernel
theorem dX9_agree_55 : decode cX9_agree 55 = .ok (.invokestatic 138, 3) := by decide +kernel
theorem dX9_agree_58 : decode cX9_agree 58 = .ok (.istore_n 3, 1) := by decide +kernel
theorem dX9_agree_59 : decode cX9_agree 59 = .ok (.aload_n 0, 1) := by decide +kernel
theorem dX9_agree_60 : decode cX9_agree 60 = .ok (.getfield 93, 3) := by decide +kernel
theorem dX9_agree_63 : decode cX9_agree 63 = .ok (.iload_n 1, 1) := by decide +kernel
theorem dX9_agree_64 : decode cX9_agree 64 = .ok (.iload_n 3, 1) := by decide +kernel
theorem dX9_agree_65 : decode cX9_agree 65 = .ok (.sipush 32767, 3) := by decide +kernel
theorem dX9_agree_68 : decode cX9_agree 68 = .ok (.aload_n 0, 1) := by decide +kernel
theorem dX9_agree_69 : decode cX9_agree 69 = .ok (.getfield 87, 3) := by decide +kernel
theorem dX9_agree_72 : decode cX9_agree 72 = .ok (.iload_n 1, 1) := by decide +kernel
theorem dX9_agree_73 : decode cX9_agree 73 = .ok (.iaload, 1) := by decide +kernel
theorem dX9_agree_74 : decode cX9_agree 74 = .ok (.isub, 1) := by decide +kernel
theorem dX9_agree_75 : decode cX9_agree 75 = .ok (.if_icmp .gt 7, 3) := by decide +kernel
theorem dX9_agree_78 : decode cX9_agree 78 = .ok (.iconst 0, 1) := by decide +kernel
theorem dX9_agree_79 : decode cX9_agree 79 = .ok (.goto 11, 3) := by decide +kernel
theorem dX9_agree_82 : decode cX9_agree 82 = .ok (.aload_n 0, 1) := by decide +kernel
theorem dX9_agree_83 : decode cX9_agree 83 = .ok (.getfield 93, 3) := by decide +kernel
theorem dX9_agree_86 : decode cX9_agree 86 = .ok (.iload_n 1, 1) := by decide +kernel
theorem dX9_agree_87 : decode cX9_agree 87 = .ok (.iaload, 1) := by decide +kernel
theorem dX9_agree_88 : decode cX9_agree 88 = .ok (.iconst 1, 1) := by decide +kernel
theorem dX9_agree_89 : decode cX9_agree 89 = .ok (.iadd, 1) := by decide +kernel
theorem dX9_agree_90 : decode cX9_agree 90 = .ok (.iastore, 1) := by decide +kernel
theorem dX9_agree_91 : decode cX9_agree 91 = .ok (.aload_n 0, 1) := by decide +kernel
theorem dX9_agree_92 : decode cX9_agree 92 = .ok (.getfield 93, 3) := by decide +kernel
theorem dX9_agree_95 : decode cX9_agree 95 = .ok (.iload_n 1, 1) := by decide +kernel
theorem dX9_agree_96 : decode cX9_agree 96 = .ok (.iaload, 1) := by decide +kernel
theorem dX9_agree_97 : decode cX9_agree 97 = .ok (.ifCond .eq 13, 3) := by decide +kernel
theorem dX9_agree_100 : decode cX9_agree 100 = .ok (.aload_n 0, 1) := by decide +kernel
theorem dX9_agree_101 : decode cX9_agree 101 = .ok (.getfield 93, 3) := by decide +kernel
theorem dX9_agree_104 : decode cX9_agree 104 = .ok (.iload_n 1, 1) := by decide +kernel
theorem dX9_agree_105 : decode cX9_agree 105 = .ok (.iaload, 1) := by decide +kernel
theorem dX9_agree_106 : decode cX9_agree 106 = .ok (.iconst 3, 1) := by decide +kernel
theorem dX9_agree_107 : decode cX9_agree 107 = .ok (.if_icmp .ne 17, 3) := by decide +kernel
theorem dX9_agree_110 : decode cX9_agree 110 = .ok (.aload_n 0, 1) := by decide +kernel
theorem dX9_agree_111 : decode cX9_agree 111 = .ok (.getfield 90, 3) := by decide +kernel
theorem dX9_agree_114 : decode cX9_agree 114 = .ok (.iload_n 1, 1) := by decide +kernel
theorem dX9_agree_115 : decode cX9_agree 115 = .ok (.iload_n 2, 1) := by decide +kernel
theorem dX9_agree_116 : decode cX9_agree 116 = .ok (.iastore, 1) := by decide +kernel
theorem dX9_agree_117 : decode cX9_agree 117 = .ok (.aload_n 0, 1) := by decide +kernel
theorem dX9_agree_118 : decode cX9_agree 118 = .ok (.getfield 93, 3) := by decide +kernel
theorem dX9_agree_121 : decode cX9_agree 121 = .ok (.iload_n 1, 1) := by decide +kernel
theorem dX9_agree_122 : decode cX9_agree 122 = .ok (.iconst 0, 1) := by decide +kernel
theorem dX9_agree_123 : decode cX9_agree 123 = .ok (.iastore, 1) := by decide +kernel
theorem dX9_agree_124 : decode cX9_agree 124 = .ok (.iinc 1 1, 3) := by decide +kernel
theorem dX9_agree_127 : decode cX9_agree 127 = .ok (.goto (-125), 3) := by decide +kernel
theorem dX9_agree_130 : decode cX9_agree 130 = .ok (.return_, 1) := by decide +kernel
set_option maxRecDepth 20000 in
theorem ggX9_keepClocks_X9_on : GoodIn wsX9_keepClocks wsX9_on := goodIn_r _ [9, 10, 20, 21, 22, 23, 24, 25, 26, 27, 28, 29, 30, 31, 32, 33, 34, 35, 36, 37, 38, 39, 40, 41, 42, 43, 44, 45, 46, 47, 48, 49, 50, 51, 52, 53, 54, 55, 56, 57, 58, 59, 60, 61, 62, 63] (by decide +kernel) (by decide +kernel)
set_option maxRecDepth 20000 in
theorem gX9_keepClocks_X9_on : GoodIn wsX9_keepClocks (wsV RX9 191 RX9 yX9_on wsX9_on) := goodIn_app (goodIn_of _ (by decide +kernel)) ggX9_keepClocks_X9_on
set_option maxRecDepth 20000 in
theorem ggX9_keepClocks_X9_middle : GoodIn wsX9_keepClocks wsX9_middle := goodIn_r _ [13, 14, 15, 8, 16, 17, 18, 19] (by decide +kernel) (by decide +kernel)
set_option maxRecDepth 20000 in
theorem gX9_keepClocks_X9_middle : GoodIn wsX9_keepClocks (va_wsS RX9 215 yX9_middle wsX9_middle) := goodIn_app (goodIn_of _ (by decide +kernel)) ggX9_keepClocks_X9_middle
theorem dX9_keepClocks_0 : decode cX9_keepClocks 0 = .ok (.iconst 0, 1) := by decide +kernel
theorem dX9_keepClocks_1 : decode cX9_keepClocks 1 = .ok (.istore_n 1, 1) := by decide +kernel
theorem dX9_keepClocks_2 : decode cX9_keepClocks 2 = .ok (.iload_n 1, 1) := by decide +kernel
theorem dX9_keepClocks_3 : decode cX9_keepClocks 3 = .ok (.iconst 3, 1) := by decide +kernel
theorem dX9_keepClocks_4 : decode cX9_keepClocks 4 = .ok (.if_icmp .ge 36, 3) := by decide +kernel
theorem dX9_keepClocks_7 : decode cX9_keepClocks 7 = .ok (.aload_n 0, 1) := by decide +kernel
theorem dX9_keepClocks_8 : decode cX9_keepClocks 8 = .ok (.getfield 48, 3) := by decide +kernel
theorem dX9_keepClocks_11 : decode cX9_keepClocks 11 = .ok (.iload_n 1, 1) := by decide +kernel
theorem dX9_keepClocks_12 : decode cX9_keepClocks 12 = .ok (.dup2, 1) := by decide +kernel
theorem dX9_keepClocks_13 : decode cX9_keepClocks 13 = .ok (.iaload, 1) := by decide +kernel
theorem dX9_keepClocks_14 : decode cX9_keepClocks 14 = .ok (.aload_n 0, 1) := by decide +kernel
theorem dX9_keepClocks_15 : decode cX9_keepClocks 15 = .ok (.getfield 54, 3) := by decide +kernel
theorem dX9_keepClocks_18 : decode cX9_keepClocks 18 = .ok (.iload_n 1, 1) := by decide +kernel
theorem dX9_keepClocks_19 : decode cX9_keepClocks 19 = .ok (.iaload, 1) := by decide +kernel
theorem dX9_keepClocks_20 : decode cX9_keepClocks 20 = .ok (.iadd, 1) := by decide +kernel
theorem dX9_keepClocks_21 : decode cX9_keepClocks 21 = .ok (.iastore, 1) := by decide +kernel
theorem dX9_keepClocks_22 : decode cX9_keepClocks 22 = .ok (.aload_n 0, 1) := by decide +kernel
theorem dX9_keepClocks_23 : decode cX9_keepClocks 23 = .ok (.getfield 51, 3) := by decide +kernel
theorem dX9_keepClocks_26 : decode cX9_keepClocks 26 = .ok (.iload_n 1, 1) := by decide +kernel
theorem dX9_keepClocks_27 : decode cX9_keepClocks 27 = .ok (.aload_n 0, 1) := by decide +kernel
theorem dX9_keepClocks_28 : decode cX9_keepClocks 28 = .ok (.getfield 48, 3) := by decide +kernel
theorem dX9_keepClocks_31 : decode cX9_keepClocks 31 = .ok (.iload_n 1, 1) := by decide +kernel
theorem dX9_keepClocks_32 : decode cX9_keepClocks 32 = .ok (.iaload, 1) := by decide +kernel
theorem dX9_keepClocks_33 : decode cX9_keepClocks 33 = .ok (.iastore, 1) := by decide +kernel
theorem dX9_keepClocks_34 : decode cX9_keepClocks 34 = .ok (.iinc 1 1, 3) := by decide +kernel
theorem dX9_keepClocks_37 : decode cX9_keepClocks 37 = .ok (.goto (-35), 3) := by decide +kernel
theorem dX9_keepClocks_40 : decode cX9_keepClocks 40 = .ok (.aload_n 0, 1) := by decide +kernel
theorem dX9_keepClocks_41 : decode cX9_keepClocks 41 = .ok (.invokevirtual 191, 3) := by decide +kernel
theorem dX9_keepClocks_44 : decode cX9_keepClocks 44 = .ok (.iconst 3, 1) := by decide +kernel
theorem dX9_keepClocks_45 : decode cX9_keepClocks 45 = .ok (.if_icmp .ge 4, 3) := by decide +kernel
theorem dX9_keepClocks_48 : decode cX9_keepClocks 48 = .ok (.return_, 1) := by decide +kernel
theorem dX9_keepClocks_49 : decode cX9_keepClocks 49 = .ok (.iconst 0, 1) := by decide +kernel
theorem dX9_keepClocks_50 : decode cX9_keepClocks 50 = .ok (.istore_n 1, 1) := by decide +kernel
theorem dX9_keepClocks_51 : decode cX9_keepClocks 51 = .ok (.iload_n 1, 1) := by decide +kernel
theorem dX9_keepClocks_52 : decode cX9_keepClocks 52 = .ok (.iconst 3, 1) := by decide +kernel
theorem dX9_keepClocks_53 : decode cX9_keepClocks 53 = .ok (.if_icmp .ge 70, 3) := by decide +kernel
theorem dX9_keepClocks_56 : decode cX9_keepClocks 56 = .ok (.iload_n 1, 1) := by decide +kernel
theorem dX9_keepClocks_57 : decode cX9_keepClocks 57 = .ok (.iconst 1, 1) := by decide +kernel
theorem dX9_keepClocks_58 : decode cX9_keepClocks 58 = .ok (.iadd, 1) := by decide +kernel
theorem dX9_keepClocks_59 : decode cX9_keepClocks 59 = .ok (.iconst 3, 1) := by decide +kernel
theorem dX9_keepClocks_60 : decode cX9_keepClocks 60 = .ok (.irem, 1) := by decide +kernel
theorem dX9_keepClocks_61 : decode cX9_keepClocks 61 = .ok (.istore_n 2, 1) := by decide +kernel
theorem dX9_keepClocks_62 : decode cX9_keepClocks 62 = .ok (.iload_n 1, 1) := by decide +kernel
theorem dX9_keepClocks_63 : decode cX9_keepClocks 63 = .ok (.iconst 2, 1) := by decide +kernel
theorem dX9_keepClocks_64 : decode cX9_keepClocks 64 = .ok (.iadd, 1) := by decide +kernel
theorem dX9_keepClocks_65 : decode cX9_keepClocks 65 = .ok (.iconst 3, 1) := by decide +kernel
theorem dX9_keepClocks_66 : decode cX9_keepClocks 66 = .ok (.irem, 1) := by decide +kernel
theorem dX9_keepClocks_67 : decode cX9_keepClocks 67 = .ok (.istore_n 3, 1) := by decide +kernel
theorem dX9_keepClocks_68 : decode cX9_keepClocks 68 = .ok (.aload_n 0, 1) := by decide +kernel
theorem dX9_keepClocks_69 : decode cX9_keepClocks 69 = .ok (.getfield 48, 3) := by decide +kernel
theorem dX9_keepClocks_72 : decode cX9_keepClocks 72 = .ok (.iload_n 1, 1) := by decide +kernel
theorem dX9_keepClocks_73 : decode cX9_keepClocks 73 = .ok (.aload_n 0, 1) := by decide +kernel
theorem dX9_keepClocks_74 : decode cX9_keepClocks 74 = .ok (.getfield 51, 3) := by decide +kernel
theorem dX9_keepClocks_77 : decode cX9_keepClocks 77 = .ok (.iload_n 1, 1) := by decide +kernel
theorem dX9_keepClocks_78 : decode cX9_keepClocks 78 = .ok (.iaload, 1) := by decide +kernel
theorem dX9_keepClocks_79 : decode cX9_keepClocks 79 = .ok (.aload_n 0, 1) := by decide +kernel
theorem dX9_keepClocks_80 : decode cX9_keepClocks 80 = .ok (.getfield 51, 3) := by decide +kernel
theorem dX9_keepClocks_83 : decode cX9_keepClocks 83 = .ok (.iload_n 2, 1) := by decide +kernel
theorem dX9_keepClocks_84 : decode cX9_keepClocks 84 = .ok (.iaload, 1) := by decide +kernel
theorem dX9_keepClocks_85 : decode cX9_keepClocks 85 = .ok (.aload_n 0, 1) := by decide +kernel
theorem dX9_keepClocks_86 : decode cX9_keepClocks 86 = .ok (.getfield 96, 3) := by decide +kernel
theorem dX9_keepClocks_89 : decode cX9_keepClocks 89 = .ok (.iload_n 2, 1) := by decide +kernel
theorem dX9_keepClocks_90 : decode cX9_keepClocks 90 = .ok (.iconst 3, 1) := by decide +kernel
theorem dX9_keepClocks_91 : decode cX9_keepClocks 91 = .ok (.imul, 1) := by decide +kernel
theorem dX9_keepClocks_92 : decode cX9_keepClocks 92 = .ok (.iload_n 1, 1) := by decide +kernel
theorem dX9_keepClocks_93 : decode cX9_keepClocks 93 = .ok (.iadd, 1) := by decide +kernel
theorem dX9_keepClocks_94 : decode cX9_keepClocks 94 = .ok (.iaload, 1) := by decide +kernel
theorem dX9_keepClocks_95 : decode cX9_keepClocks 95 = .ok (.iadd, 1) := by decide +kernel
theorem dX9_keepClocks_96 : decode cX9_keepClocks 96 = .ok (.aload_n 0, 1) := by decide +kernel
theorem dX9_keepClocks_97 : decode cX9_keepClocks 97 = .ok (.getfield 51, 3) := by decide +kernel
theorem dX9_keepClocks_100 : decode cX9_keepClocks 100 = .ok (.iload_n 3, 1) := by decide +kernel
theorem dX9_keepClocks_101 : decode cX9_keepClocks 101 = .ok (.iaload, 1) := by decide +kernel
theorem dX9_keepClocks_102 : decode cX9_keepClocks 102 = .ok (.aload_n 0, 1) := by decide +kernel
theorem dX9_keepClocks_103 : decode cX9_keepClocks 103 = .ok (.getfield 96, 3) := by decide +kernel
theorem dX9_keepClocks_106 : decode cX9_keepClocks 106 = .ok (.iload_n 3, 1) := by decide +kernel
theorem dX9_keepClocks_107 : decode cX9_keepClocks 107 = .ok (.iconst 3, 1) := by decide +kernel
theorem dX9_keepClocks_108 : decode cX9_keepClocks 108 = .ok (.imul, 1) := by decide +kernel
theorem dX9_keepClocks_109 : decode cX9_keepClocks 109 = .ok (.iload_n 1, 1) := by decide +kernel
theorem dX9_keepClocks_110 : decode cX9_keepClocks 110 = .ok (.iadd, 1) := by decide +kernel
theorem dX9_keepClocks_111 : decode cX9_keepClocks 111 = .ok (.iaload, 1) := by decide +kernel
theorem dX9_keepClocks_112 : decode cX9_keepClocks 112 = .ok (.iadd, 1) := by decide +kernel
theorem dX9_keepClocks_113 : decode cX9_keepClocks 113 = .ok (.invokestatic 215, 3) := by decide +kernel
theorem dX9_keepClocks_116 : decode cX9_keepClocks 116 = .ok (.iastore, 1) := by decide +kernel
theorem dX9_keepClocks_117 : decode cX9_keepClocks 117 = .ok (.iinc 1 1, 3) := by decide +kernel
theorem dX9_keepClocks_120 : decode cX9_keepClocks 120 = .ok (.goto (-69), 3) := by decide +kernel
theorem dX9_keepClocks_123 : decode cX9_keepClocks 123 = .ok (.return_, 1) := by decide +kernel
set_option maxRecDepth 20000 in
theorem ggX9_steer_X9_greater : GoodIn wsX9_steer wsX9_greater := goodIn_r _ [8] (by decide +kernel) (by decide +kernel)
set_option maxRecDepth 20000 in
theorem gX9_steer_X9_greater : GoodIn wsX9_steer (va_wsS RX9 138 yX9_greater wsX9_greater) := goodIn_app (goodIn_of _ (by decide +kernel)) ggX9_steer_X9_greater
set_option maxRecDepth 20000 in
theorem ggX9_steer_X9_lesser : GoodIn wsX9_steer wsX9_lesser := goodIn_r _ [11] (by decide +kernel) (by decide +kernel)
set_option maxRecDepth 20000 in
theorem gX9_steer_X9_lesser : GoodIn wsX9_steer (va_wsS RX9 134 yX9_lesser wsX9_lesser) := goodIn_app (goodIn_of _ (by decide +kernel)) ggX9_steer_X9_lesser
set_option maxRecDepth 20000 in
theorem ggX9_steer_X9_middle : GoodIn wsX9_steer wsX9_middle := goodIn_r _ [14, 9, 10, 7, 11, 5, 6, 8] (by decide +kernel) (by decide +kernel)
set_option maxRecDepth 20000 in
theorem gX9_steer_X9_middle : GoodIn wsX9_steer (va_wsS RX9 215 yX9_middle wsX9_middle) := goodIn_app (goodIn_of _ (by decide +kernel)) ggX9_steer_X9_middle
theorem dX9_steer_0 : decode cX9_steer 0 = .ok (.iconst 0, 1) := by decide +kernel
theorem dX9_steer_1 : decode cX9_steer 1 = .ok (.istore_n 1, 1) := by decide +kernel
theorem dX9_steer_2 : decode cX9_steer 2 = .ok (.iload_n 1, 1) := by decide +kernel
theorem dX9_steer_3 : decode cX9_steer 3 = .ok (.iconst 4, 1) := by decide +kernel
theorem dX9_steer_4 : decode cX9_steer 4 = .ok (.if_icmp .ge 138, 3) := by decide +kernel
theorem dX9_steer_7 : decode cX9_steer 7 = .ok (.aload_n 0, 1) := by decide +kernel
theorem dX9_steer_8 : decode cX9_steer 8 = .ok (.getfield 75, 3) := by decide +kernel
theorem dX9_steer_11 : decode cX9_steer 11 = .ok (.iload_n 1, 1) := by decide +kernel
theorem dX9_steer_12 : decode cX9_steer 12 = .ok (.iaload, 1) := by decide +kernel
theorem dX9_steer_13 : decode cX9_steer 13 = .ok (.aload_n 0, 1) := by decide +kernel
theorem dX9_steer_14 : decode cX9_steer 14 = .ok (.getfield 108, 3) := by decide +kernel
theorem dX9_steer_17 : decode cX9_steer 17 = .ok (.iload_n 1, 1) := by decide +kernel
theorem dX9_steer_18 : decode cX9_steer 18 = .ok (.iconst 3, 1) := by decide +kernel
theorem dX9_steer_19 : decode cX9_steer 19 = .ok (.imul, 1) := by decide +kernel
theorem dX9_steer_20 : decode cX9_steer 20 = .ok (.iaload, 1) := by decide +kernel
theorem dX9_steer_21 : decode cX9_steer 21 = .ok (.iadd, 1) := by decide +kernel
theorem dX9_steer_22 : decode cX9_steer 22 = .ok (.istore_n 2, 1) := by decide +kernel
theorem dX9_steer_23 : decode cX9_steer 23 = .ok (.aload_n 0, 1) := by decide +kernel
theorem dX9_steer_24 : decode cX9_steer 24 = .ok (.getfield 75, 3) := by decide +kernel
theorem dX9_steer_27 : decode cX9_steer 27 = .ok (.iload_n 1, 1) := by decide +kernel
theorem dX9_steer_28 : decode cX9_steer 28 = .ok (.iaload, 1) := by decide +kernel
theorem dX9_steer_29 : decode cX9_steer 29 = .ok (.aload_n 0, 1) := by decide +kernel
theorem dX9_steer_30 : decode cX9_steer 30 = .ok (.getfield 108, 3) := by decide +kernel
theorem dX9_steer_33 : decode cX9_steer 33 = .ok (.iload_n 1, 1) := by decide +kernel
theorem dX9_steer_34 : decode cX9_steer 34 = .ok (.iconst 3, 1) := by decide +kernel
theorem dX9_steer_35 : decode cX9_steer 35 = .ok (.imul, 1) := by decide +kernel
theorem dX9_steer_36 : decode cX9_steer 36 = .ok (.iconst 1, 1) := by decide +kernel
theorem dX9_steer_37 : decode cX9_steer 37 = .ok (.iadd, 1) := by decide +kernel
theorem dX9_steer_38 : decode cX9_steer 38 = .ok (.iaload, 1) := by decide +kernel
theorem dX9_steer_39 : decode cX9_steer 39 = .ok (.iadd, 1) := by decide +kernel
theorem dX9_steer_40 : decode cX9_steer 40 = .ok (.istore_n 3, 1) := by decide +kernel
theorem dX9_steer_41 : decode cX9_steer 41 = .ok (.aload_n 0, 1) := by decide +kernel
theorem dX9_steer_42 : decode cX9_steer 42 = .ok (.getfield 75, 3) := by decide +kernel
theorem dX9_steer_45 : decode cX9_steer 45 = .ok (.iload_n 1, 1) := by decide +kernel
theorem dX9_steer_46 : decode cX9_steer 46 = .ok (.iaload, 1) := by decide +kernel
theorem dX9_steer_47 : decode cX9_steer 47 = .ok (.aload_n 0, 1) := by decide +kernel
theorem dX9_steer_48 : decode cX9_steer 48 = .ok (.getfield 108, 3) := by decide +kernel
theorem dX9_steer_51 : decode cX9_steer 51 = .ok (.iload_n 1, 1) := by decide +kernel
theorem dX9_steer_52 : decode cX9_steer 52 = .ok (.iconst 3, 1) := by decide +kernel
theorem dX9_steer_53 : decode cX9_steer 53 = .ok (.imul, 1) := by decide +kernel
theorem dX9_steer_54 : decode cX9_steer 54 = .ok (.iconst 2, 1) := by decide +kernel
theorem dX9_steer_55 : decode cX9_steer 55 = .ok (.iadd, 1) := by decide +kernel
theorem dX9_steer_56 : decode cX9_steer 56 = .ok (.iaload, 1) := by decide +kernel
theorem dX9_steer_57 : decode cX9_steer 57 = .ok (.iadd, 1) := by decide +kernel
theorem dX9_steer_58 : decode cX9_steer 58 = .ok (.istore 4, 2) := by decide +kernel
theorem dX9_steer_60 : decode cX9_steer 60 = .ok (.iload_n 2, 1) := by decide +kernel
theorem dX9_steer_61 : decode cX9_steer 61 = .ok (.iload_n 3, 1) := by decide +kernel
theorem dX9_steer_62 : decode cX9_steer 62 = .ok (.iload 4, 2) := by decide +kernel
theorem dX9_steer_64 : decode cX9_steer 64 = .ok (.invokestatic 138, 3) := by decide +kernel
theorem dX9_steer_67 : decode cX9_steer 67 = .ok (.invokestatic 138, 3) := by decide +kernel
theorem dX9_steer_70 : decode cX9_steer 70 = .ok (.iload_n 2, 1) := by decide +kernel
theorem dX9_steer_71 : decode cX9_steer 71 = .ok (.iload_n 3, 1) := by decide +kernel
theorem dX9_steer_72 : decode cX9_steer 72 = .ok (.iload 4, 2) := by decide +kernel
theorem dX9_steer_74 : decode cX9_steer 74 = .ok (.invokestatic 134, 3) := by decide +kernel
theorem dX9_steer_77 : decode cX9_steer 77 = .ok (.invokestatic 134, 3) := by decide +kernel
theorem dX9_steer_80 : decode cX9_steer 80 = .ok (.isub, 1) := by decide +kernel
theorem dX9_steer_81 : decode cX9_steer 81 = .ok (.istore 5, 2) := by decide +kernel
theorem dX9_steer_83 : decode cX9_steer 83 = .ok (.aload_n 0, 1) := by decide +kernel
theorem dX9_steer_84 : decode cX9_steer 84 = .ok (.getfield 114, 3) := by decide +kernel
theorem dX9_steer_87 : decode cX9_steer 87 = .ok (.iload_n 1, 1) := by decide +kernel
theorem dX9_steer_88 : decode cX9_steer 88 = .ok (.aload_n 0, 1) := by decide +kernel
theorem dX9_steer_89 : decode cX9_steer 89 = .ok (.getfield 114, 3) := by decide +kernel
theorem dX9_steer_92 : decode cX9_steer 92 = .ok (.iload_n 1, 1) := by decide +kernel
theorem dX9_steer_93 : decode cX9_steer 93 = .ok (.baload, 1) := by decide +kernel
theorem dX9_steer_94 : decode cX9_steer 94 = .ok (.ifCond .ne 10, 3) := by decide +kernel
theorem dX9_steer_97 : decode cX9_steer 97 = .ok (.iload 5, 2) := by decide +kernel
theorem dX9_steer_99 : decode cX9_steer 99 = .ok (.bipush 100, 2) := by decide +kernel
theorem dX9_steer_101 : decode cX9_steer 101 = .ok (.if_icmp .le 7, 3) := by decide +kernel
theorem dX9_steer_104 : decode cX9_steer 104 = .ok (.iconst 1, 1) := by decide +kernel
theorem dX9_steer_105 : decode cX9_steer 105 = .ok (.goto 4, 3) := by decide +kernel
theorem dX9_steer_108 : decode cX9_steer 108 = .ok (.iconst 0, 1) := by decide +kernel
theorem dX9_steer_109 : decode cX9_steer 109 = .ok (.bastore, 1) := by decide +kernel
theorem dX9_steer_110 : decode cX9_steer 110 = .ok (.aload_n 0, 1) := by decide +kernel
theorem dX9_steer_111 : decode cX9_steer 111 = .ok (.getfield 111, 3) := by decide +kernel
theorem dX9_steer_114 : decode cX9_steer 114 = .ok (.iload_n 1, 1) := by decide +kernel
theorem dX9_steer_115 : decode cX9_steer 115 = .ok (.aload_n 0, 1) := by decide +kernel
theorem dX9_steer_116 : decode cX9_steer 116 = .ok (.getfield 114, 3) := by decide +kernel
theorem dX9_steer_119 : decode cX9_steer 119 = .ok (.iload_n 1, 1) := by decide +kernel
theorem dX9_steer_120 : decode cX9_steer 120 = .ok (.baload, 1) := by decide +kernel
theorem dX9_steer_121 : decode cX9_steer 121 = .ok (.ifCond .eq 7, 3) := by decide +kernel
theorem dX9_steer_124 : decode cX9_steer 124 = .ok (.iconst 0, 1) := by decide +kernel
theorem dX9_steer_125 : decode cX9_steer 125 = .ok (.goto 10, 3) := by decide +kernel
theorem dX9_steer_128 : decode cX9_steer 128 = .ok (.iload_n 2, 1) := by decide +kernel
theorem dX9_steer_129 : decode cX9_steer 129 = .ok (.iload_n 3, 1) := by decide +kernel
theorem dX9_steer_130 : decode cX9_steer 130 = .ok (.iload 4, 2) := by decide +kernel
theorem dX9_steer_132 : decode cX9_steer 132 = .ok (.invokestatic 215, 3) := by decide +kernel
theorem dX9_steer_135 : decode cX9_steer 135 = .ok (.iastore, 1) := by decide +kernel
theorem dX9_steer_136 : decode cX9_steer 136 = .ok (.iinc 1 1, 3) := by decide +kernel
theorem dX9_steer_139 : decode cX9_steer 139 = .ok (.goto (-137), 3) := by decide +kernel
theorem dX9_steer_142 : decode cX9_steer 142 = .ok (.return_, 1) := by decide +kernel
set_option maxRecDepth 20000 in
theorem ggX9_frame_X9_agree : GoodIn wsX9_frame wsX9_agree := goodIn_r _ [10, 11, 12, 13, 14, 15, 16, 9, 17, 18, 19, 20, 21, 22, 23, 120, 121, 122, 123, 124, 125, 126, 127, 128, 129, 130, 131, 132, 133, 134, 135, 136, 137, 138, 139, 140, 141, 142, 143, 144, 145, 146, 147, 148, 149, 150, 151, 152, 153, 154, 155, 156, 157, 158, 159, 160, 161, 162, 163] (by decide +kernel) (by decide +kernel)
set_option maxRecDepth 20000 in
theorem gX9_frame_X9_agree : GoodIn wsX9_frame (wsV RX9 219 RX9 yX9_agree wsX9_agree) := goodIn_app (goodIn_of _ (by decide +kernel)) ggX9_frame_X9_agree
set_option maxRecDepth 20000 in
theorem ggX9_frame_X9_run : GoodIn wsX9_frame wsX9_run := goodIn_r _ [27, 28, 29, 30, 31, 32, 33, 34, 9, 35, 36, 37, 38, 39, 40, 41, 42, 43, 44, 45, 46, 47, 48, 49, 50, 51, 52, 53, 54, 55, 56, 12, 57, 58, 59, 60, 5, 61, 62, 63, 64, 65, 66, 67, 68, 69, 70, 71, 72, 73, 74, 75, 76, 77, 78, 79, 80, 2, 81, 82, 83, 84, 85, 86, 87, 88, 89, 90, 91, 92, 93, 94, 95, 96, 97, 98, 99, 100, 101, 102, 103, 104, 120, 121, 122, 123, 124, 125, 126, 127, 128, 129, 130, 131, 132, 133, 134, 135, 136, 137, 138, 139, 140, 141, 142, 143, 144, 145, 146, 147, 148, 149, 150, 151, 152, 153, 154, 155, 156, 157, 158, 159, 160, 161, 162, 163] (by decide +kernel) (by decide +kernel)
set_option maxRecDepth 20000 in
theorem gX9_frame_X9_run : GoodIn wsX9_frame (wsV RX9 225 RX9 yX9_run wsX9_run) := goodIn_app (goodIn_of _ (by decide +kernel)) ggX9_frame_X9_run
set_option maxRecDepth 20000 in
theorem ggX9_frame_X9_mends : GoodIn wsX9_frame wsX9_mends := goodIn_r _ [65, 56, 66, 67, 68, 9, 69, 70, 71, 72, 73, 5, 74, 75, 76, 77, 78, 79, 80, 2, 81, 82, 120, 121, 122, 123, 124, 125, 126, 127, 128, 129, 130, 131, 132, 133, 134, 135, 136, 137, 138, 139, 140, 141, 142, 143, 144, 145, 146, 147, 148, 149, 150, 151, 152, 153, 154, 155, 156, 157, 158, 159, 160, 161, 162, 163] (by decide +kernel) (by decide +kernel)
set_option maxRecDepth 20000 in
theorem gX9_frame_X9_mends : GoodIn wsX9_frame (wsV RX9 188 RX9 yX9_mends wsX9_mends) := goodIn_app (goodIn_of _ (by decide +kernel)) ggX9_frame_X9_mends
set_option maxRecDepth 20000 in
theorem ggX9_frame_X9_keepClocks : GoodIn wsX9_frame wsX9_keepClocks := goodIn_r _ [108, 109, 110, 111, 112, 93, 94, 95, 9, 96, 5, 15, 16, 17, 18, 19, 20, 21, 22, 23, 120, 121, 122, 123, 124, 125, 126, 127, 128, 129, 130, 131, 132, 133, 134, 135, 136, 137, 138, 139, 140, 141, 142, 143, 144, 145, 146, 147, 148, 149, 150, 151, 152, 153, 154, 155, 156, 157, 158, 159, 160, 161, 162, 163] (by decide +kernel) (by decide +kernel)
set_option maxRecDepth 20000 in
theorem gX9_frame_X9_keepClocks : GoodIn wsX9_frame (wsV RX9 228 RX9 yX9_keepClocks wsX9_keepClocks) := goodIn_app (goodIn_of _ (by decide +kernel)) ggX9_frame_X9_keepClocks
set_option maxRecDepth 20000 in
theorem ggX9_frame_X9_steer : GoodIn wsX9_frame wsX9_steer := goodIn_r _ [116, 92, 117, 118, 119, 21, 22, 9, 23, 18, 19, 20, 15, 16, 17, 120, 121, 122, 123, 124, 125, 126, 127, 128, 129, 130, 131, 132, 133, 134, 135, 136, 137, 138, 139, 140, 141, 142, 143, 144, 145, 146, 147, 148, 149, 150, 151, 152, 153, 154, 155, 156, 157, 158, 159, 160, 161, 162, 163] (by decide +kernel) (by decide +kernel)
set_option maxRecDepth 20000 in
theorem gX9_frame_X9_steer : GoodIn wsX9_frame (wsV RX9 231 RX9 yX9_steer wsX9_steer) := goodIn_app (goodIn_of _ (by decide +kernel)) ggX9_frame_X9_steer
set_option maxRecDepth 20000 in
theorem ggX9_frame_X9_on : GoodIn wsX9_frame wsX9_on := goodIn_r _ [96, 5, 120, 121, 122, 123, 124, 125, 126, 127, 128, 129, 130, 131, 132, 133, 134, 135, 136, 137, 138, 139, 140, 141, 142, 143, 144, 145, 146, 147, 148, 149, 150, 151, 152, 153, 154, 155, 156, 157, 158, 159, 160, 161, 162, 163] (by decide +kernel) (by decide +kernel)
set_option maxRecDepth 20000 in
theorem gX9_frame_X9_on : GoodIn wsX9_frame (wsV RX9 191 RX9 yX9_on wsX9_on) := goodIn_app (goodIn_of _ (by decide +kernel)) ggX9_frame_X9_on
theorem dX9_frame_0 : decode cX9_frame 0 = .ok (.aload_n 0, 1) := by decide +kernel
theorem dX9_frame_1 : decode cX9_frame 1 = .ok (.iconst 0, 1) := by decide +kernel
theorem dX9_frame_2 : decode cX9_frame 2 = .ok (.putfield 130, 3) := by decide +kernel
theorem dX9_frame_5 : decode cX9_frame 5 = .ok (.aload_n 0, 1) := by decide +kernel
theorem dX9_frame_6 : decode cX9_frame 6 = .ok (.dup, 1) := by decide +kernel
theorem dX9_frame_7 : decode cX9_frame 7 = .ok (.getfield 148, 3) := by decide +kernel
theorem dX9_frame_10 : decode cX9_frame 10 = .ok (.iconst 1, 1) := by decide +kernel
theorem dX9_frame_11 : decode cX9_frame 11 = .ok (.iadd, 1) := by decide +kernel
theorem dX9_frame_12 : decode cX9_frame 12 = .ok (.putfield 148, 3) := by decide +kernel
theorem dX9_frame_15 : decode cX9_frame 15 = .ok (.aload_n 0, 1) := by decide +kernel
theorem dX9_frame_16 : decode cX9_frame 16 = .ok (.invokevirtual 219, 3) := by decide +kernel
theorem dX9_frame_19 : decode cX9_frame 19 = .ok (.aload_n 0, 1) := by decide +kernel
theorem dX9_frame_20 : decode cX9_frame 20 = .ok (.getfield 222, 3) := by decide +kernel
theorem dX9_frame_23 : decode cX9_frame 23 = .ok (.istore_n 1, 1) := by decide +kernel
theorem dX9_frame_24 : decode cX9_frame 24 = .ok (.iconst 0, 1) := by decide +kernel
theorem dX9_frame_25 : decode cX9_frame 25 = .ok (.istore_n 2, 1) := by decide +kernel
theorem dX9_frame_26 : decode cX9_frame 26 = .ok (.iload_n 2, 1) := by decide +kernel
theorem dX9_frame_27 : decode cX9_frame 27 = .ok (.iconst 3, 1) := by decide +kernel
theorem dX9_frame_28 : decode cX9_frame 28 = .ok (.if_icmp .ge 38, 3) := by decide +kernel
theorem dX9_frame_31 : decode cX9_frame 31 = .ok (.aload_n 0, 1) := by decide +kernel
theorem dX9_frame_32 : decode cX9_frame 32 = .ok (.getfield 23, 3) := by decide +kernel
theorem dX9_frame_35 : decode cX9_frame 35 = .ok (.iload_n 1, 1) := by decide +kernel
theorem dX9_frame_36 : decode cX9_frame 36 = .ok (.iconst 3, 1) := by decide +kernel
theorem dX9_frame_37 : decode cX9_frame 37 = .ok (.imul, 1) := by decide +kernel
theorem dX9_frame_38 : decode cX9_frame 38 = .ok (.iload_n 2, 1) := by decide +kernel
theorem dX9_frame_39 : decode cX9_frame 39 = .ok (.iadd, 1) := by decide +kernel
theorem dX9_frame_40 : decode cX9_frame 40 = .ok (.iaload, 1) := by decide +kernel
theorem dX9_frame_41 : decode cX9_frame 41 = .ok (.ifCond .le 19, 3) := by decide +kernel
theorem dX9_frame_44 : decode cX9_frame 44 = .ok (.aload_n 0, 1) := by decide +kernel
theorem dX9_frame_45 : decode cX9_frame 45 = .ok (.aload_n 0, 1) := by decide +kernel
theorem dX9_frame_46 : decode cX9_frame 46 = .ok (.getfield 23, 3) := by decide +kernel
theorem dX9_frame_49 : decode cX9_frame 49 = .ok (.iload_n 1, 1) := by decide +kernel
theorem dX9_frame_50 : decode cX9_frame 50 = .ok (.iconst 3, 1) := by decide +kernel
theorem dX9_frame_51 : decode cX9_frame 51 = .ok (.imul, 1) := by decide +kernel
theorem dX9_frame_52 : decode cX9_frame 52 = .ok (.iload_n 2, 1) := by decide +kernel
theorem dX9_frame_53 : decode cX9_frame 53 = .ok (.iadd, 1) := by decide +kernel
theorem dX9_frame_54 : decode cX9_frame 54 = .ok (.iaload, 1) := by decide +kernel
theorem dX9_frame_55 : decode cX9_frame 55 = .ok (.iconst 1, 1) := by decide +kernel
theorem dX9_frame_56 : decode cX9_frame 56 = .ok (.isub, 1) := by decide +kernel
theorem dX9_frame_57 : decode cX9_frame 57 = .ok (.invokevirtual 225, 3) := by decide +kernel
theorem dX9_frame_60 : decode cX9_frame 60 = .ok (.iinc 2 1, 3) := by decide +kernel
theorem dX9_frame_63 : decode cX9_frame 63 = .ok (.goto (-37), 3) := by decide +kernel
theorem dX9_frame_66 : decode cX9_frame 66 = .ok (.iconst 0, 1) := by decide +kernel
theorem dX9_frame_67 : decode cX9_frame 67 = .ok (.istore_n 2, 1) := by decide +kernel
theorem dX9_frame_68 : decode cX9_frame 68 = .ok (.iload_n 2, 1) := by decide +kernel
theorem dX9_frame_69 : decode cX9_frame 69 = .ok (.iconst 3, 1) := by decide +kernel
theorem dX9_frame_70 : decode cX9_frame 70 = .ok (.if_icmp .ge 31, 3) := by decide +kernel
theorem dX9_frame_73 : decode cX9_frame 73 = .ok (.aload_n 0, 1) := by decide +kernel
theorem dX9_frame_74 : decode cX9_frame 74 = .ok (.getfield 38, 3) := by decide +kernel
theorem dX9_frame_77 : decode cX9_frame 77 = .ok (.iload_n 2, 1) := by decide +kernel
theorem dX9_frame_78 : decode cX9_frame 78 = .ok (.baload, 1) := by decide +kernel
theorem dX9_frame_79 : decode cX9_frame 79 = .ok (.ifCond .ne 16, 3) := by decide +kernel
theorem dX9_frame_82 : decode cX9_frame 82 = .ok (.aload_n 0, 1) := by decide +kernel
theorem dX9_frame_83 : decode cX9_frame 83 = .ok (.iload_n 2, 1) := by decide +kernel
theorem dX9_frame_84 : decode cX9_frame 84 = .ok (.aload_n 0, 1) := by decide +kernel
theorem dX9_frame_85 : decode cX9_frame 85 = .ok (.getfield 148, 3) := by decide +kernel
theorem dX9_frame_88 : decode cX9_frame 88 = .ok (.bipush 18, 2) := by decide +kernel
theorem dX9_frame_90 : decode cX9_frame 90 = .ok (.irem, 1) := by decide +kernel
theorem dX9_frame_91 : decode cX9_frame 91 = .ok (.invokevirtual 188, 3) := by decide +kernel
theorem dX9_frame_94 : decode cX9_frame 94 = .ok (.istore_n 3, 1) := by decide +kernel
theorem dX9_frame_95 : decode cX9_frame 95 = .ok (.iinc 2 1, 3) := by decide +kernel
theorem dX9_frame_98 : decode cX9_frame 98 = .ok (.goto (-30), 3) := by decide +kernel
theorem dX9_frame_101 : decode cX9_frame 101 = .ok (.aload_n 0, 1) := by decide +kernel
theorem dX9_frame_102 : decode cX9_frame 102 = .ok (.invokevirtual 228, 3) := by decide +kernel
theorem dX9_frame_105 : decode cX9_frame 105 = .ok (.aload_n 0, 1) := by decide +kernel
theorem dX9_frame_106 : decode cX9_frame 106 = .ok (.invokevirtual 231, 3) := by decide +kernel
theorem dX9_frame_109 : decode cX9_frame 109 = .ok (.aload_n 0, 1) := by decide +kernel
theorem dX9_frame_110 : decode cX9_frame 110 = .ok (.invokevirtual 191, 3) := by decide +kernel
theorem dX9_frame_113 : decode cX9_frame 113 = .ok (.ireturn, 1) := by decide +kernel
theorem dX9_time_0 : decode cX9_time 0 = .ok (.aload_n 0, 1) := by decide +kernel
theorem dX9_time_1 : decode cX9_time 1 = .ok (.iconst 0, 1) := by decide +kernel
theorem dX9_time_2 : decode cX9_time 2 = .ok (.putfield 130, 3) := by decide +kernel
theorem dX9_time_5 : decode cX9_time 5 = .ok (.aload_n 0, 1) := by decide +kernel
theorem dX9_time_6 : decode cX9_time 6 = .ok (.getfield 148, 3) := by decide +kernel
theorem dX9_time_9 : decode cX9_time 9 = .ok (.ireturn, 1) := by decide +kernel
theorem dX9_mode_0 : decode cX9_mode 0 = .ok (.aload_n 0, 1) := by decide +kernel
theorem dX9_mode_1 : decode cX9_mode 1 = .ok (.iconst 0, 1) := by decide +kernel
theorem dX9_mode_2 : decode cX9_mode 2 = .ok (.putfield 130, 3) := by decide +kernel
theorem dX9_mode_5 : decode cX9_mode 5 = .ok (.aload_n 0, 1) := by decide +kernel
theorem dX9_mode_6 : decode cX9_mode 6 = .ok (.getfield 222, 3) := by decide +kernel
theorem dX9_mode_9 : decode cX9_mode 9 = .ok (.ireturn, 1) := by decide +kernel
set_option maxRecDepth 20000 in
theorem ggX9_output_X9_isFour : GoodIn wsX9_output wsX9_isFour := goodIn_r _ [5, 6, 7, 4, 8] (by decide +kernel) (by decide +kernel)
set_option maxRecDepth 20000 in
theorem gX9_output_X9_isFour : GoodIn wsX9_output (va_wsS RX9 167 yX9_isFour wsX9_isFour) := goodIn_app (goodIn_of _ (by decide +kernel)) ggX9_output_X9_isFour
set_option maxRecDepth 20000 in
theorem ggX9_output_X9_isOut : GoodIn wsX9_output wsX9_isOut := goodIn_r _ [12, 13, 14, 15, 16, 17, 18, 19, 20, 21, 22, 23, 24, 25, 26, 27, 28, 29, 30, 31, 32, 33, 34, 35, 36, 37, 38, 39, 40, 41, 42, 43, 44, 45, 46, 47, 48, 49, 50, 51, 52, 53, 54, 55, 56, 57] (by decide +kernel) (by decide +kernel)
set_option maxRecDepth 20000 in
theorem gX9_output_X9_isOut : GoodIn wsX9_output (wsV RX9 159 RX9 yX9_isOut wsX9_isOut) := goodIn_app (goodIn_of _ (by decide +kernel)) ggX9_output_X9_isOut
theorem dX9_output_0 : decode cX9_output 0 = .ok (.aload_n 0, 1) := by decide +kernel
theorem dX9_output_1 : decode cX9_output 1 = .ok (.iload_n 1, 1) := by decide +kernel
theorem dX9_output_2 : decode cX9_output 2 = .ok (.invokestatic 167, 3) := by decide +kernel
theorem dX9_output_5 : decode cX9_output 5 = .ok (.invokevirtual 159, 3) := by decide +kernel
theorem dX9_output_8 : decode cX9_output 8 = .ok (.ifCond .eq 7, 3) := by decide +kernel
theorem dX9_output_11 : decode cX9_output 11 = .ok (.iconst 0, 1) := by decide +kernel
theorem dX9_output_12 : decode cX9_output 12 = .ok (.goto 9, 3) := by decide +kernel
theorem dX9_output_15 : decode cX9_output 15 = .ok (.aload_n 0, 1) := by decide +kernel
theorem dX9_output_16 : decode cX9_output 16 = .ok (.getfield 75, 3) := by decide +kernel
theorem dX9_output_19 : decode cX9_output 19 = .ok (.iload_n 1, 1) := by decide +kernel
theorem dX9_output_20 : decode cX9_output 20 = .ok (.iaload, 1) := by decide +kernel
theorem dX9_output_21 : decode cX9_output 21 = .ok (.ireturn, 1) := by decide +kernel
set_option maxRecDepth 20000 in
theorem ggX9_plain_X9_isFour : GoodIn wsX9_plain wsX9_isFour := goodIn_r _ [5, 6, 7, 4, 8] (by decide +kernel) (by decide +kernel)
set_option maxRecDepth 20000 in
theorem gX9_plain_X9_isFour : GoodIn wsX9_plain (va_wsS RX9 167 yX9_isFour wsX9_isFour) := goodIn_app (goodIn_of _ (by decide +kernel)) ggX9_plain_X9_isFour
set_option maxRecDepth 20000 in
theorem ggX9_plain_X9_isOut : GoodIn wsX9_plain wsX9_isOut := goodIn_r _ [12, 13, 14, 15, 16, 17, 18, 19, 20, 21, 22, 23, 24, 25, 26, 27, 28, 29, 30, 31, 32, 33, 34, 35, 36, 37, 38, 39, 40, 41, 42, 43, 44, 45, 46, 47, 48, 49, 50, 51, 52, 53, 54, 55, 56, 57] (by decide +kernel) (by decide +kernel)
set_option maxRecDepth 20000 in
theorem gX9_plain_X9_isOut : GoodIn wsX9_plain (wsV RX9 159 RX9 yX9_isOut wsX9_isOut) := goodIn_app (goodIn_of _ (by decide +kernel)) ggX9_plain_X9_isOut
theorem dX9_plain_0 : decode cX9_plain 0 = .ok (.aload_n 0, 1) := by decide +kernel
theorem dX9_plain_1 : decode cX9_plain 1 = .ok (.iload_n 1, 1) := by decide +kernel
theorem dX9_plain_2 : decode cX9_plain 2 = .ok (.invokestatic 167, 3) := by decide +kernel
theorem dX9_plain_5 : decode cX9_plain 5 = .ok (.invokevirtual 159, 3) := by decide +kernel
theorem dX9_plain_8 : decode cX9_plain 8 = .ok (.ifCond .eq 7, 3) := by decide +kernel
theorem dX9_plain_11 : decode cX9_plain 11 = .ok (.iconst 0, 1) := by decide +kernel
theorem dX9_plain_12 : decode cX9_plain 12 = .ok (.goto 9, 3) := by decide +kernel
theorem dX9_plain_15 : decode cX9_plain 15 = .ok (.aload_n 0, 1) := by decide +kernel
theorem dX9_plain_16 : decode cX9_plain 16 = .ok (.getfield 78, 3) := by decide +kernel
theorem dX9_plain_19 : decode cX9_plain 19 = .ok (.iload_n 1, 1) := by decide +kernel
theorem dX9_plain_20 : decode cX9_plain 20 = .ok (.iaload, 1) := by decide +kernel
theorem dX9_plain_21 : decode cX9_plain 21 = .ok (.ireturn, 1) := by decide +kernel
theorem dX9_isPlain_0 : decode cX9_isPlain 0 = .ok (.aload_n 0, 1) := by decide +kernel
theorem dX9_isPlain_1 : decode cX9_isPlain 1 = .ok (.iconst 0, 1) := by decide +kernel
theorem dX9_isPlain_2 : decode cX9_isPlain 2 = .ok (.putfield 130, 3) := by decide +kernel
theorem dX9_isPlain_5 : decode cX9_isPlain 5 = .ok (.iconst 1, 1) := by decide +kernel
theorem dX9_isPlain_6 : decode cX9_isPlain 6 = .ok (.istore_n 1, 1) := by decide +kernel
theorem dX9_isPlain_7 : decode cX9_isPlain 7 = .ok (.iconst 0, 1) := by decide +kernel
theorem dX9_isPlain_8 : decode cX9_isPlain 8 = .ok (.istore_n 2, 1) := by decide +kernel
theorem dX9_isPlain_9 : decode cX9_isPlain 9 = .ok (.iload_n 2, 1) := by decide +kernel
theorem dX9_isPlain_10 : decode cX9_isPlain 10 = .ok (.iconst 4, 1) := by decide +kernel
theorem dX9_isPlain_11 : decode cX9_isPlain 11 = .ok (.if_icmp .ge 34, 3) := by decide +kernel
theorem dX9_isPlain_14 : decode cX9_isPlain 14 = .ok (.iload_n 1, 1) := by decide +kernel
theorem dX9_isPlain_15 : decode cX9_isPlain 15 = .ok (.ifCond .eq 22, 3) := by decide +kernel
theorem dX9_isPlain_18 : decode cX9_isPlain 18 = .ok (.aload_n 0, 1) := by decide +kernel
theorem dX9_isPlain_19 : decode cX9_isPlain 19 = .ok (.getfield 75, 3) := by decide +kernel
theorem dX9_isPlain_22 : decode cX9_isPlain 22 = .ok (.iload_n 2, 1) := by decide +kernel
theorem dX9_isPlain_23 : decode cX9_isPlain 23 = .ok (.iaload, 1) := by decide +kernel
theorem dX9_isPlain_24 : decode cX9_isPlain 24 = .ok (.aload_n 0, 1) := by decide +kernel
theorem dX9_isPlain_25 : decode cX9_isPlain 25 = .ok (.getfield 78, 3) := by decide +kernel
theorem dX9_isPlain_28 : decode cX9_isPlain 28 = .ok (.iload_n 2, 1) := by decide +kernel
theorem dX9_isPlain_29 : decode cX9_isPlain 29 = .ok (.iaload, 1) := by decide +kernel
theorem dX9_isPlain_30 : decode cX9_isPlain 30 = .ok (.if_icmp .ne 7, 3) := by decide +kernel
theorem dX9_isPlain_33 : decode cX9_isPlain 33 = .ok (.iconst 1, 1) := by decide +kernel
theorem dX9_isPlain_34 : decode cX9_isPlain 34 = .ok (.goto 4, 3) := by decide +kernel
theorem dX9_isPlain_37 : decode cX9_isPlain 37 = .ok (.iconst 0, 1) := by decide +kernel
theorem dX9_isPlain_38 : decode cX9_isPlain 38 = .ok (.istore_n 1, 1) := by decide +kernel
theorem dX9_isPlain_39 : decode cX9_isPlain 39 = .ok (.iinc 2 1, 3) := by decide +kernel
theorem dX9_isPlain_42 : decode cX9_isPlain 42 = .ok (.goto (-33), 3) := by decide +kernel
theorem dX9_isPlain_45 : decode cX9_isPlain 45 = .ok (.iload_n 1, 1) := by decide +kernel
theorem dX9_isPlain_46 : decode cX9_isPlain 46 = .ok (.ireturn, 1) := by decide +kernel
set_option maxRecDepth 20000 in
theorem ggX9_isPlace_X9_isThree : GoodIn wsX9_isPlace wsX9_isThree := goodIn_r _ [4, 5, 6, 3, 7] (by decide +kernel) (by decide +kernel)
set_option maxRecDepth 20000 in
theorem gX9_isPlace_X9_isThree : GoodIn wsX9_isPlace (va_wsS RX9 155 yX9_isThree wsX9_isThree) := goodIn_app (goodIn_of _ (by decide +kernel)) ggX9_isPlace_X9_isThree
set_option maxRecDepth 20000 in
theorem ggX9_isPlace_X9_in : GoodIn wsX9_isPlace wsX9_in := goodIn_r _ [7] (by decide +kernel) (by decide +kernel)
set_option maxRecDepth 20000 in
theorem gX9_isPlace_X9_in : GoodIn wsX9_isPlace (va_wsS RX9 141 yX9_in wsX9_in) := goodIn_app (goodIn_of _ (by decide +kernel)) ggX9_isPlace_X9_in
theorem dX9_isPlace_0 : decode cX9_isPlace 0 = .ok (.iload_n 0, 1) := by decide +kernel
theorem dX9_isPlace_1 : decode cX9_isPlace 1 = .ok (.invokestatic 155, 3) := by decide +kernel
theorem dX9_isPlace_4 : decode cX9_isPlace 4 = .ok (.ifCond .eq 23, 3) := by decide +kernel
theorem dX9_isPlace_7 : decode cX9_isPlace 7 = .ok (.iload_n 1, 1) := by decide +kernel
theorem dX9_isPlace_8 : decode cX9_isPlace 8 = .ok (.invokestatic 155, 3) := by decide +kernel
theorem dX9_isPlace_11 : decode cX9_isPlace 11 = .ok (.ifCond .eq 16, 3) := by decide +kernel
theorem dX9_isPlace_14 : decode cX9_isPlace 14 = .ok (.iload_n 2, 1) := by decide +kernel
theorem dX9_isPlace_15 : decode cX9_isPlace 15 = .ok (.iconst 0, 1) := by decide +kernel
theorem dX9_isPlace_16 : decode cX9_isPlace 16 = .ok (.iconst 5, 1) := by decide +kernel
theorem dX9_isPlace_17 : decode cX9_isPlace 17 = .ok (.invokestatic 141, 3) := by decide +kernel
theorem dX9_isPlace_20 : decode cX9_isPlace 20 = .ok (.ifCond .eq 7, 3) := by decide +kernel
theorem dX9_isPlace_23 : decode cX9_isPlace 23 = .ok (.iconst 1, 1) := by decide +kernel
theorem dX9_isPlace_24 : decode cX9_isPlace 24 = .ok (.goto 4, 3) := by decide +kernel
theorem dX9_isPlace_27 : decode cX9_isPlace 27 = .ok (.iconst 0, 1) := by decide +kernel
theorem dX9_isPlace_28 : decode cX9_isPlace 28 = .ok (.ireturn, 1) := by decide +kernel
set_option maxRecDepth 20000 in
theorem ggX9_word_X9_isPlace : GoodIn wsX9_word wsX9_isPlace := goodIn_r _ [6, 7, 8, 5, 9, 10, 11, 12] (by decide +kernel) (by decide +kernel)
set_option maxRecDepth 20000 in
theorem gX9_word_X9_isPlace : GoodIn wsX9_word (va_wsS RX9 234 yX9_isPlace wsX9_isPlace) := goodIn_app (goodIn_of _ (by decide +kernel)) ggX9_word_X9_isPlace
set_option maxRecDepth 20000 in
theorem ggX9_word_X9_isOut : GoodIn wsX9_word wsX9_isOut := goodIn_r _ [16, 17, 21, 22, 23, 24, 25, 26, 27, 28, 29, 30, 31, 32, 33, 34, 35, 36, 37, 38, 39, 40, 41, 42, 43, 44, 45, 46, 47, 48, 49, 50, 51, 52, 53, 54, 55, 56, 57, 58, 59, 60, 61, 62, 63, 64] (by decide +kernel) (by decide +kernel)
set_option maxRecDepth 20000 in
theorem gX9_word_X9_isOut : GoodIn wsX9_word (wsV RX9 159 RX9 yX9_isOut wsX9_isOut) := goodIn_app (goodIn_of _ (by decide +kernel)) ggX9_word_X9_isOut
set_option maxRecDepth 20000 in
theorem ggX9_word_X9_round : GoodIn wsX9_word wsX9_round := goodIn_r _ [20] (by decide +kernel) (by decide +kernel)
set_option maxRecDepth 20000 in
theorem gX9_word_X9_round : GoodIn wsX9_word (va_wsS RX9 170 yX9_round wsX9_round) := goodIn_app (goodIn_of _ (by decide +kernel)) ggX9_word_X9_round
theorem dX9_word_0 : decode cX9_word 0 = .ok (.aload_n 0, 1) := by decide +kernel
theorem dX9_word_1 : decode cX9_word 1 = .ok (.iload_n 1, 1) := by decide +kernel
theorem dX9_word_2 : decode cX9_word 2 = .ok (.iload_n 2, 1) := by decide +kernel
theorem dX9_word_3 : decode cX9_word 3 = .ok (.iload_n 3, 1) := by decide +kernel
theorem dX9_word_4 : decode cX9_word 4 = .ok (.invokestatic 234, 3) := by decide +kernel
theorem dX9_word_7 : decode cX9_word 7 = .ok (.invokevirtual 159, 3) := by decide +kernel
theorem dX9_word_10 : decode cX9_word 10 = .ok (.ifCond .eq 5, 3) := by decide +kernel
theorem dX9_word_13 : decode cX9_word 13 = .ok (.iconst 0, 1) := by decide +kernel
theorem dX9_word_14 : decode cX9_word 14 = .ok (.ireturn, 1) := by decide +kernel
theorem dX9_word_15 : decode cX9_word 15 = .ok (.iload_n 1, 1) := by decide +kernel
theorem dX9_word_16 : decode cX9_word 16 = .ok (.bipush 18, 2) := by decide +kernel
theorem dX9_word_18 : decode cX9_word 18 = .ok (.imul, 1) := by decide +kernel
theorem dX9_word_19 : decode cX9_word 19 = .ok (.iload_n 2, 1) := by decide +kernel
theorem dX9_word_20 : decode cX9_word 20 = .ok (.bipush 6, 2) := by decide +kernel
theorem dX9_word_22 : decode cX9_word 22 = .ok (.imul, 1) := by decide +kernel
theorem dX9_word_23 : decode cX9_word 23 = .ok (.iadd, 1) := by decide +kernel
theorem dX9_word_24 : decode cX9_word 24 = .ok (.iload_n 3, 1) := by decide +kernel
theorem dX9_word_25 : decode cX9_word 25 = .ok (.iadd, 1) := by decide +kernel
theorem dX9_word_26 : decode cX9_word 26 = .ok (.istore 4, 2) := by decide +kernel
theorem dX9_word_28 : decode cX9_word 28 = .ok (.aload_n 0, 1) := by decide +kernel
theorem dX9_word_29 : decode cX9_word 29 = .ok (.getfield 26, 3) := by decide +kernel
theorem dX9_word_32 : decode cX9_word 32 = .ok (.iload 4, 2) := by decide +kernel
theorem dX9_word_34 : decode cX9_word 34 = .ok (.iaload, 1) := by decide +kernel
theorem dX9_word_35 : decode cX9_word 35 = .ok (.aload_n 0, 1) := by decide +kernel
theorem dX9_word_36 : decode cX9_word 36 = .ok (.getfield 29, 3) := by decide +kernel
theorem dX9_word_39 : decode cX9_word 39 = .ok (.iload 4, 2) := by decide +kernel
theorem dX9_word_41 : decode cX9_word 41 = .ok (.iaload, 1) := by decide +kernel
theorem dX9_word_42 : decode cX9_word 42 = .ok (.ixor, 1) := by decide +kernel
theorem dX9_word_43 : decode cX9_word 43 = .ok (.invokestatic 170, 3) := by decide +kernel
theorem dX9_word_46 : decode cX9_word 46 = .ok (.ireturn, 1) := by decide +kernel
set_option maxRecDepth 20000 in
theorem ggX9_flip_X9_isPlace : GoodIn wsX9_flip wsX9_isPlace := goodIn_r _ [5, 6, 7, 4, 8, 9, 10, 11] (by decide +kernel) (by decide +kernel)
set_option maxRecDepth 20000 in
theorem gX9_flip_X9_isPlace : GoodIn wsX9_flip (va_wsS RX9 234 yX9_isPlace wsX9_isPlace) := goodIn_app (goodIn_of _ (by decide +kernel)) ggX9_flip_X9_isPlace
set_option maxRecDepth 20000 in
theorem ggX9_flip_X9_in : GoodIn wsX9_flip wsX9_in := goodIn_r _ [11] (by decide +kernel) (by decide +kernel)
set_option maxRecDepth 20000 in
theorem gX9_flip_X9_in : GoodIn wsX9_flip (va_wsS RX9 141 yX9_in wsX9_in) := goodIn_app (goodIn_of _ (by decide +kernel)) ggX9_flip_X9_in
set_option maxRecDepth 20000 in
theorem ggX9_flip_X9_isOut : GoodIn wsX9_flip wsX9_isOut := goodIn_r _ [15, 16, 20, 21, 22, 23, 24, 25, 26, 27, 28, 29, 30, 31, 32, 33, 34, 35, 36, 37, 38, 39, 40, 41, 42, 43, 44, 45, 46, 47, 48, 49, 50, 51, 52, 53, 54, 55, 56, 57, 58, 59, 60, 61, 62, 63] (by decide +kernel) (by decide +kernel)
set_option maxRecDepth 20000 in
theorem gX9_flip_X9_isOut : GoodIn wsX9_flip (wsV RX9 159 RX9 yX9_isOut wsX9_isOut) := goodIn_app (goodIn_of _ (by decide +kernel)) ggX9_flip_X9_isOut
set_option maxRecDepth 20000 in
theorem ggX9_flip_X9_ones : GoodIn wsX9_flip wsX9_ones := goodIn_r _ [19] (by decide +kernel) (by decide +kernel)
set_option maxRecDepth 20000 in
theorem gX9_flip_X9_ones : GoodIn wsX9_flip (va_wsS RX9 178 yX9_ones wsX9_ones) := goodIn_app (goodIn_of _ (by decide +kernel)) ggX9_flip_X9_ones
theorem dX9_flip_0 : decode cX9_flip 0 = .ok (.aload_n 0, 1) := by decide +kernel
theorem dX9_flip_1 : decode cX9_flip 1 = .ok (.iload_n 1, 1) := by decide +kernel
theorem dX9_flip_2 : decode cX9_flip 2 = .ok (.iload_n 2, 1) := by decide +kernel
theorem dX9_flip_3 : decode cX9_flip 3 = .ok (.iload_n 3, 1) := by decide +kernel
theorem dX9_flip_4 : decode cX9_flip 4 = .ok (.invokestatic 234, 3) := by decide +kernel
theorem dX9_flip_7 : decode cX9_flip 7 = .ok (.ifCond .eq 18, 3) := by decide +kernel
theorem dX9_flip_10 : decode cX9_flip 10 = .ok (.iload 4, 2) := by decide +kernel
theorem dX9_flip_12 : decode cX9_flip 12 = .ok (.iconst 0, 1) := by decide +kernel
theorem dX9_flip_13 : decode cX9_flip 13 = .ok (.bipush 15, 2) := by decide +kernel
theorem dX9_flip_15 : decode cX9_flip 15 = .ok (.invokestatic 141, 3) := by decide +kernel
theorem dX9_flip_18 : decode cX9_flip 18 = .ok (.ifCond .eq 7, 3) := by decide +kernel
theorem dX9_flip_21 : decode cX9_flip 21 = .ok (.iconst 1, 1) := by decide +kernel
theorem dX9_flip_22 : decode cX9_flip 22 = .ok (.goto 4, 3) := by decide +kernel
theorem dX9_flip_25 : decode cX9_flip 25 = .ok (.iconst 0, 1) := by decide +kernel
theorem dX9_flip_26 : decode cX9_flip 26 = .ok (.invokevirtual 159, 3) := by decide +kernel
theorem dX9_flip_29 : decode cX9_flip 29 = .ok (.ifCond .eq 5, 3) := by decide +kernel
theorem dX9_flip_32 : decode cX9_flip 32 = .ok (.iconst 0, 1) := by decide +kernel
theorem dX9_flip_33 : decode cX9_flip 33 = .ok (.ireturn, 1) := by decide +kernel
theorem dX9_flip_34 : decode cX9_flip 34 = .ok (.iload_n 1, 1) := by decide +kernel
theorem dX9_flip_35 : decode cX9_flip 35 = .ok (.bipush 18, 2) := by decide +kernel
theorem dX9_flip_37 : decode cX9_flip 37 = .ok (.imul, 1) := by decide +kernel
theorem dX9_flip_38 : decode cX9_flip 38 = .ok (.iload_n 2, 1) := by decide +kernel
theorem dX9_flip_39 : decode cX9_flip 39 = .ok (.bipush 6, 2) := by decide +kernel
theorem dX9_flip_41 : decode cX9_flip 41 = .ok (.imul, 1) := by decide +kernel
theorem dX9_flip_42 : decode cX9_flip 42 = .ok (.iadd, 1) := by decide +kernel
theorem dX9_flip_43 : decode cX9_flip 43 = .ok (.iload_n 3, 1) := by decide +kernel
theorem dX9_flip_44 : decode cX9_flip 44 = .ok (.iadd, 1) := by decide +kernel
theorem dX9_flip_45 : decode cX9_flip 45 = .ok (.istore 5, 2) := by decide +kernel
theorem dX9_flip_47 : decode cX9_flip 47 = .ok (.aload_n 0, 1) := by decide +kernel
theorem dX9_flip_48 : decode cX9_flip 48 = .ok (.getfield 29, 3) := by decide +kernel
theorem dX9_flip_51 : decode cX9_flip 51 = .ok (.iload 5, 2) := by decide +kernel
theorem dX9_flip_53 : decode cX9_flip 53 = .ok (.dup2, 1) := by decide +kernel
theorem dX9_flip_54 : decode cX9_flip 54 = .ok (.iaload, 1) := by decide +kernel
theorem dX9_flip_55 : decode cX9_flip 55 = .ok (.iconst 1, 1) := by decide +kernel
theorem dX9_flip_56 : decode cX9_flip 56 = .ok (.iload 4, 2) := by decide +kernel
theorem dX9_flip_58 : decode cX9_flip 58 = .ok (.ishl, 1) := by decide +kernel
theorem dX9_flip_59 : decode cX9_flip 59 = .ok (.ixor, 1) := by decide +kernel
theorem dX9_flip_60 : decode cX9_flip 60 = .ok (.iastore, 1) := by decide +kernel
theorem dX9_flip_61 : decode cX9_flip 61 = .ok (.aload_n 0, 1) := by decide +kernel
theorem dX9_flip_62 : decode cX9_flip 62 = .ok (.getfield 29, 3) := by decide +kernel
theorem dX9_flip_65 : decode cX9_flip 65 = .ok (.iload 5, 2) := by decide +kernel
theorem dX9_flip_67 : decode cX9_flip 67 = .ok (.iaload, 1) := by decide +kernel
theorem dX9_flip_68 : decode cX9_flip 68 = .ok (.invokestatic 178, 3) := by decide +kernel
theorem dX9_flip_71 : decode cX9_flip 71 = .ok (.ireturn, 1) := by decide +kernel
set_option maxRecDepth 20000 in
theorem ggX9_stick_X9_isThree : GoodIn wsX9_stick wsX9_isThree := goodIn_r _ [8, 9, 10, 7, 11] (by decide +kernel) (by decide +kernel)
set_option maxRecDepth 20000 in
theorem gX9_stick_X9_isThree : GoodIn wsX9_stick (va_wsS RX9 155 yX9_isThree wsX9_isThree) := goodIn_app (goodIn_of _ (by decide +kernel)) ggX9_stick_X9_isThree
set_option maxRecDepth 20000 in
theorem ggX9_stick_X9_isFour : GoodIn wsX9_stick wsX9_isFour := goodIn_r _ [14, 9, 10, 7, 11] (by decide +kernel) (by decide +kernel)
set_option maxRecDepth 20000 in
theorem gX9_stick_X9_isFour : GoodIn wsX9_stick (va_wsS RX9 167 yX9_isFour wsX9_isFour) := goodIn_app (goodIn_of _ (by decide +kernel)) ggX9_stick_X9_isFour
set_option maxRecDepth 20000 in
theorem ggX9_stick_X9_in : GoodIn wsX9_stick wsX9_in := goodIn_r _ [11] (by decide +kernel) (by decide +kernel)
set_option maxRecDepth 20000 in
theorem gX9_stick_X9_in : GoodIn wsX9_stick (va_wsS RX9 141 yX9_in wsX9_in) := goodIn_app (goodIn_of _ (by decide +kernel)) ggX9_stick_X9_in
set_option maxRecDepth 20000 in
theorem ggX9_stick_X9_isOut : GoodIn wsX9_stick wsX9_isOut := goodIn_r _ [18, 19, 20, 21, 22, 23, 24, 25, 26, 27, 28, 29, 30, 31, 32, 33, 34, 35, 36, 37, 38, 39, 40, 41, 42, 43, 44, 45, 46, 47, 48, 49, 50, 51, 52, 53, 54, 55, 56, 57, 58, 59, 60, 61, 62, 63] (by decide +kernel) (by decide +kernel)
set_option maxRecDepth 20000 in
theorem gX9_stick_X9_isOut : GoodIn wsX9_stick (wsV RX9 159 RX9 yX9_isOut wsX9_isOut) := goodIn_app (goodIn_of _ (by decide +kernel)) ggX9_stick_X9_isOut
theorem dX9_stick_0 : decode cX9_stick 0 = .ok (.aload_n 0, 1) := by decide +kernel
theorem dX9_stick_1 : decode cX9_stick 1 = .ok (.iload_n 1, 1) := by decide +kernel
theorem dX9_stick_2 : decode cX9_stick 2 = .ok (.invokestatic 155, 3) := by decide +kernel
theorem dX9_stick_5 : decode cX9_stick 5 = .ok (.ifCond .eq 24, 3) := by decide +kernel
theorem dX9_stick_8 : decode cX9_stick 8 = .ok (.iload_n 2, 1) := by decide +kernel
theorem dX9_stick_9 : decode cX9_stick 9 = .ok (.invokestatic 167, 3) := by decide +kernel
theorem dX9_stick_12 : decode cX9_stick 12 = .ok (.ifCond .eq 17, 3) := by decide +kernel
theorem dX9_stick_15 : decode cX9_stick 15 = .ok (.iload_n 3, 1) := by decide +kernel
theorem dX9_stick_16 : decode cX9_stick 16 = .ok (.iconst 0, 1) := by decide +kernel
theorem dX9_stick_17 : decode cX9_stick 17 = .ok (.bipush 15, 2) := by decide +kernel
theorem dX9_stick_19 : decode cX9_stick 19 = .ok (.invokestatic 141, 3) := by decide +kernel
theorem dX9_stick_22 : decode cX9_stick 22 = .ok (.ifCond .eq 7, 3) := by decide +kernel
theorem dX9_stick_25 : decode cX9_stick 25 = .ok (.iconst 1, 1) := by decide +kernel
theorem dX9_stick_26 : decode cX9_stick 26 = .ok (.goto 4, 3) := by decide +kernel
theorem dX9_stick_29 : decode cX9_stick 29 = .ok (.iconst 0, 1) := by decide +kernel
theorem dX9_stick_30 : decode cX9_stick 30 = .ok (.invokevirtual 159, 3) := by decide +kernel
theorem dX9_stick_33 : decode cX9_stick 33 = .ok (.ifCond .eq 5, 3) := by decide +kernel
theorem dX9_stick_36 : decode cX9_stick 36 = .ok (.iconst 0, 1) := by decide +kernel
theorem dX9_stick_37 : decode cX9_stick 37 = .ok (.ireturn, 1) := by decide +kernel
theorem dX9_stick_38 : decode cX9_stick 38 = .ok (.aload_n 0, 1) := by decide +kernel
theorem dX9_stick_39 : decode cX9_stick 39 = .ok (.getfield 60, 3) := by decide +kernel
theorem dX9_stick_42 : decode cX9_stick 42 = .ok (.iload_n 1, 1) := by decide +kernel
theorem dX9_stick_43 : decode cX9_stick 43 = .ok (.iaload, 1) := by decide +kernel
theorem dX9_stick_44 : decode cX9_stick 44 = .ok (.ifCond .le 7, 3) := by decide +kernel
theorem dX9_stick_47 : decode cX9_stick 47 = .ok (.iconst 1, 1) := by decide +kernel
theorem dX9_stick_48 : decode cX9_stick 48 = .ok (.goto 4, 3) := by decide +kernel
theorem dX9_stick_51 : decode cX9_stick 51 = .ok (.iconst 0, 1) := by decide +kernel
theorem dX9_stick_52 : decode cX9_stick 52 = .ok (.istore 5, 2) := by decide +kernel
theorem dX9_stick_54 : decode cX9_stick 54 = .ok (.aload_n 0, 1) := by decide +kernel
theorem dX9_stick_55 : decode cX9_stick 55 = .ok (.getfield 60, 3) := by decide +kernel
theorem dX9_stick_58 : decode cX9_stick 58 = .ok (.iload_n 1, 1) := by decide +kernel
theorem dX9_stick_59 : decode cX9_stick 59 = .ok (.iload_n 2, 1) := by decide +kernel
theorem dX9_stick_60 : decode cX9_stick 60 = .ok (.iconst 1, 1) := by decide +kernel
theorem dX9_stick_61 : decode cX9_stick 61 = .ok (.iadd, 1) := by decide +kernel
theorem dX9_stick_62 : decode cX9_stick 62 = .ok (.iastore, 1) := by decide +kernel
theorem dX9_stick_63 : decode cX9_stick 63 = .ok (.aload_n 0, 1) := by decide +kernel
theorem dX9_stick_64 : decode cX9_stick 64 = .ok (.getfield 63, 3) := by decide +kernel
theorem dX9_stick_67 : decode cX9_stick 67 = .ok (.iload_n 1, 1) := by decide +kernel
theorem dX9_stick_68 : decode cX9_stick 68 = .ok (.iload_n 3, 1) := by decide +kernel
theorem dX9_stick_69 : decode cX9_stick 69 = .ok (.iastore, 1) := by decide +kernel
theorem dX9_stick_70 : decode cX9_stick 70 = .ok (.aload_n 0, 1) := by decide +kernel
theorem dX9_stick_71 : decode cX9_stick 71 = .ok (.getfield 66, 3) := by decide +kernel
theorem dX9_stick_74 : decode cX9_stick 74 = .ok (.iload_n 1, 1) := by decide +kernel
theorem dX9_stick_75 : decode cX9_stick 75 = .ok (.iload 4, 2) := by decide +kernel
theorem dX9_stick_77 : decode cX9_stick 77 = .ok (.bastore, 1) := by decide +kernel
theorem dX9_stick_78 : decode cX9_stick 78 = .ok (.aload_n 0, 1) := by decide +kernel
theorem dX9_stick_79 : decode cX9_stick 79 = .ok (.getfield 42, 3) := by decide +kernel
theorem dX9_stick_82 : decode cX9_stick 82 = .ok (.iload_n 1, 1) := by decide +kernel
theorem dX9_stick_83 : decode cX9_stick 83 = .ok (.iconst 0, 1) := by decide +kernel
theorem dX9_stick_84 : decode cX9_stick 84 = .ok (.bastore, 1) := by decide +kernel
theorem dX9_stick_85 : decode cX9_stick 85 = .ok (.iload 5, 2) := by decide +kernel
theorem dX9_stick_87 : decode cX9_stick 87 = .ok (.ireturn, 1) := by decide +kernel
set_option maxRecDepth 20000 in
theorem ggX9_fix_X9_isThree : GoodIn wsX9_fix wsX9_isThree := goodIn_r _ [5, 6, 7, 4, 8] (by decide +kernel) (by decide +kernel)
set_option maxRecDepth 20000 in
theorem gX9_fix_X9_isThree : GoodIn wsX9_fix (va_wsS RX9 155 yX9_isThree wsX9_isThree) := goodIn_app (goodIn_of _ (by decide +kernel)) ggX9_fix_X9_isThree
set_option maxRecDepth 20000 in
theorem ggX9_fix_X9_isOut : GoodIn wsX9_fix wsX9_isOut := goodIn_r _ [12, 13, 14, 15, 16, 17, 18, 19, 20, 21, 22, 23, 24, 25, 26, 27, 28, 29, 30, 31, 32, 33, 34, 35, 36, 37, 38, 39, 40, 41, 42, 43, 44, 45, 46, 47, 48, 49, 50, 51, 52, 53, 54, 55, 56, 57] (by decide +kernel) (by decide +kernel)
set_option maxRecDepth 20000 in
theorem gX9_fix_X9_isOut : GoodIn wsX9_fix (wsV RX9 159 RX9 yX9_isOut wsX9_isOut) := goodIn_app (goodIn_of _ (by decide +kernel)) ggX9_fix_X9_isOut
theorem dX9_fix_0 : decode cX9_fix 0 = .ok (.aload_n 0, 1) := by decide +kernel
theorem dX9_fix_1 : decode cX9_fix 1 = .ok (.iload_n 1, 1) := by decide +kernel
theorem dX9_fix_2 : decode cX9_fix 2 = .ok (.invokestatic 155, 3) := by decide +kernel
theorem dX9_fix_5 : decode cX9_fix 5 = .ok (.invokevirtual 159, 3) := by decide +kernel
theorem dX9_fix_8 : decode cX9_fix 8 = .ok (.ifCond .eq 5, 3) := by decide +kernel
theorem dX9_fix_11 : decode cX9_fix 11 = .ok (.iconst 0, 1) := by decide +kernel
theorem dX9_fix_12 : decode cX9_fix 12 = .ok (.ireturn, 1) := by decide +kernel
theorem dX9_fix_13 : decode cX9_fix 13 = .ok (.aload_n 0, 1) := by decide +kernel
theorem dX9_fix_14 : decode cX9_fix 14 = .ok (.getfield 60, 3) := by decide +kernel
theorem dX9_fix_17 : decode cX9_fix 17 = .ok (.iload_n 1, 1) := by decide +kernel
theorem dX9_fix_18 : decode cX9_fix 18 = .ok (.iaload, 1) := by decide +kernel
theorem dX9_fix_19 : decode cX9_fix 19 = .ok (.ifCond .le 7, 3) := by decide +kernel
theorem dX9_fix_22 : decode cX9_fix 22 = .ok (.iconst 1, 1) := by decide +kernel
theorem dX9_fix_23 : decode cX9_fix 23 = .ok (.goto 4, 3) := by decide +kernel
theorem dX9_fix_26 : decode cX9_fix 26 = .ok (.iconst 0, 1) := by decide +kernel
theorem dX9_fix_27 : decode cX9_fix 27 = .ok (.istore_n 2, 1) := by decide +kernel
theorem dX9_fix_28 : decode cX9_fix 28 = .ok (.aload_n 0, 1) := by decide +kernel
theorem dX9_fix_29 : decode cX9_fix 29 = .ok (.getfield 60, 3) := by decide +kernel
theorem dX9_fix_32 : decode cX9_fix 32 = .ok (.iload_n 1, 1) := by decide +kernel
theorem dX9_fix_33 : decode cX9_fix 33 = .ok (.iconst 0, 1) := by decide +kernel
theorem dX9_fix_34 : decode cX9_fix 34 = .ok (.iastore, 1) := by decide +kernel
theorem dX9_fix_35 : decode cX9_fix 35 = .ok (.iload_n 2, 1) := by decide +kernel
theorem dX9_fix_36 : decode cX9_fix 36 = .ok (.ireturn, 1) := by decide +kernel
set_option maxRecDepth 20000 in
theorem ggX9_isOn_X9_isThree : GoodIn wsX9_isOn wsX9_isThree := goodIn_r _ [5, 6, 7, 4, 8] (by decide +kernel) (by decide +kernel)
set_option maxRecDepth 20000 in
theorem gX9_isOn_X9_isThree : GoodIn wsX9_isOn (va_wsS RX9 155 yX9_isThree wsX9_isThree) := goodIn_app (goodIn_of _ (by decide +kernel)) ggX9_isOn_X9_isThree
set_option maxRecDepth 20000 in
theorem ggX9_isOn_X9_isOut : GoodIn wsX9_isOn wsX9_isOut := goodIn_r _ [12, 13, 14, 15, 16, 17, 18, 19, 20, 21, 22, 23, 24, 25, 26, 27, 28, 29, 30, 31, 32, 33, 34, 35, 36, 37, 38, 39, 40, 41, 42, 43, 44, 45, 46, 47, 48, 49, 50, 51, 52, 53, 54, 55, 56, 57] (by decide +kernel) (by decide +kernel)
set_option maxRecDepth 20000 in
theorem gX9_isOn_X9_isOut : GoodIn wsX9_isOn (wsV RX9 159 RX9 yX9_isOut wsX9_isOut) := goodIn_app (goodIn_of _ (by decide +kernel)) ggX9_isOn_X9_isOut
theorem dX9_isOn_0 : decode cX9_isOn 0 = .ok (.aload_n 0, 1) := by decide +kernel
theorem dX9_isOn_1 : decode cX9_isOn 1 = .ok (.iload_n 1, 1) := by decide +kernel
theorem dX9_isOn_2 : decode cX9_isOn 2 = .ok (.invokestatic 155, 3) := by decide +kernel
theorem dX9_isOn_5 : decode cX9_isOn 5 = .ok (.invokevirtual 159, 3) := by decide +kernel
theorem dX9_isOn_8 : decode cX9_isOn 8 = .ok (.ifCond .ne 16, 3) := by decide +kernel
theorem dX9_isOn_11 : decode cX9_isOn 11 = .ok (.aload_n 0, 1) := by decide +kernel
theorem dX9_isOn_12 : decode cX9_isOn 12 = .ok (.getfield 38, 3) := by decide +kernel
theorem dX9_isOn_15 : decode cX9_isOn 15 = .ok (.iload_n 1, 1) := by decide +kernel
theorem dX9_isOn_16 : decode cX9_isOn 16 = .ok (.baload, 1) := by decide +kernel
theorem dX9_isOn_17 : decode cX9_isOn 17 = .ok (.ifCond .ne 7, 3) := by decide +kernel
theorem dX9_isOn_20 : decode cX9_isOn 20 = .ok (.iconst 1, 1) := by decide +kernel
theorem dX9_isOn_21 : decode cX9_isOn 21 = .ok (.goto 4, 3) := by decide +kernel
theorem dX9_isOn_24 : decode cX9_isOn 24 = .ok (.iconst 0, 1) := by decide +kernel
theorem dX9_isOn_25 : decode cX9_isOn 25 = .ok (.ireturn, 1) := by decide +kernel
set_option maxRecDepth 20000 in
theorem ggX9_strikes_X9_isThree : GoodIn wsX9_strikes wsX9_isThree := goodIn_r _ [5, 6, 7, 4, 8] (by decide +kernel) (by decide +kernel)
set_option maxRecDepth 20000 in
theorem gX9_strikes_X9_isThree : GoodIn wsX9_strikes (va_wsS RX9 155 yX9_isThree wsX9_isThree) := goodIn_app (goodIn_of _ (by decide +kernel)) ggX9_strikes_X9_isThree
set_option maxRecDepth 20000 in
theorem ggX9_strikes_X9_isOut : GoodIn wsX9_strikes wsX9_isOut := goodIn_r _ [12, 13, 14, 15, 16, 17, 18, 19, 20, 21, 22, 23, 24, 25, 26, 27, 28, 29, 30, 31, 32, 33, 34, 35, 36, 37, 38, 39, 40, 41, 42, 43, 44, 45, 46, 47, 48, 49, 50, 51, 52, 53, 54, 55, 56, 57] (by decide +kernel) (by decide +kernel)
set_option maxRecDepth 20000 in
theorem gX9_strikes_X9_isOut : GoodIn wsX9_strikes (wsV RX9 159 RX9 yX9_isOut wsX9_isOut) := goodIn_app (goodIn_of _ (by decide +kernel)) ggX9_strikes_X9_isOut
theorem dX9_strikes_0 : decode cX9_strikes 0 = .ok (.aload_n 0, 1) := by decide +kernel
theorem dX9_strikes_1 : decode cX9_strikes 1 = .ok (.iload_n 1, 1) := by decide +kernel
theorem dX9_strikes_2 : decode cX9_strikes 2 = .ok (.invokestatic 155, 3) := by decide +kernel
theorem dX9_strikes_5 : decode cX9_strikes 5 = .ok (.invokevirtual 159, 3) := by decide +kernel
theorem dX9_strikes_8 : decode cX9_strikes 8 = .ok (.ifCond .eq 7, 3) := by decide +kernel
theorem dX9_strikes_11 : decode cX9_strikes 11 = .ok (.iconst 0, 1) := by decide +kernel
theorem dX9_strikes_12 : decode cX9_strikes 12 = .ok (.goto 9, 3) := by decide +kernel
theorem dX9_strikes_15 : decode cX9_strikes 15 = .ok (.aload_n 0, 1) := by decide +kernel
theorem dX9_strikes_16 : decode cX9_strikes 16 = .ok (.getfield 45, 3) := by decide +kernel
theorem dX9_strikes_19 : decode cX9_strikes 19 = .ok (.iload_n 1, 1) := by decide +kernel
theorem dX9_strikes_20 : decode cX9_strikes 20 = .ok (.iaload, 1) := by decide +kernel
theorem dX9_strikes_21 : decode cX9_strikes 21 = .ok (.ireturn, 1) := by decide +kernel
set_option maxRecDepth 20000 in
theorem ggX9_shut_X9_isThree : GoodIn wsX9_shut wsX9_isThree := goodIn_r _ [6, 7, 8, 5, 9] (by decide +kernel) (by decide +kernel)
set_option maxRecDepth 20000 in
theorem gX9_shut_X9_isThree : GoodIn wsX9_shut (va_wsS RX9 155 yX9_isThree wsX9_isThree) := goodIn_app (goodIn_of _ (by decide +kernel)) ggX9_shut_X9_isThree
set_option maxRecDepth 20000 in
theorem ggX9_shut_X9_isOut : GoodIn wsX9_shut wsX9_isOut := goodIn_r _ [13, 2, 32, 33, 34, 35, 36, 37, 38, 39, 40, 41, 42, 43, 44, 45, 46, 47, 48, 49, 50, 51, 52, 53, 54, 55, 56, 57, 58, 59, 60, 61, 62, 63, 64, 65, 66, 67, 68, 69, 70, 71, 72, 73, 74, 75] (by decide +kernel) (by decide +kernel)
set_option maxRecDepth 20000 in
theorem gX9_shut_X9_isOut : GoodIn wsX9_shut (wsV RX9 159 RX9 yX9_isOut wsX9_isOut) := goodIn_app (goodIn_of _ (by decide +kernel)) ggX9_shut_X9_isOut
set_option maxRecDepth 20000 in
theorem ggX9_shut_X9_off : GoodIn wsX9_shut wsX9_off := goodIn_r _ [17, 1, 18, 19, 20, 21, 5, 22, 23, 24, 25, 26, 27, 32, 33, 34, 35, 36, 37, 38, 39, 40, 41, 42, 43, 44, 45, 46, 47, 48, 49, 50, 51, 52, 53, 54, 55, 56, 57, 58, 59, 60, 61, 62, 63, 64, 65, 66, 67, 68, 69, 70, 71, 72, 73, 74, 75] (by decide +kernel) (by decide +kernel)
set_option maxRecDepth 20000 in
theorem gX9_shut_X9_off : GoodIn wsX9_shut (wsV RX9 181 RX9 yX9_off wsX9_off) := goodIn_app (goodIn_of _ (by decide +kernel)) ggX9_shut_X9_off
set_option maxRecDepth 20000 in
theorem ggX9_shut_X9_on : GoodIn wsX9_shut wsX9_on := goodIn_r _ [31, 1, 32, 33, 34, 35, 36, 37, 38, 39, 40, 41, 42, 43, 44, 45, 46, 47, 48, 49, 50, 51, 52, 53, 54, 55, 56, 57, 58, 59, 60, 61, 62, 63, 64, 65, 66, 67, 68, 69, 70, 71, 72, 73, 74, 75] (by decide +kernel) (by decide +kernel)
set_option maxRecDepth 20000 in
theorem gX9_shut_X9_on : GoodIn wsX9_shut (wsV RX9 191 RX9 yX9_on wsX9_on) := goodIn_app (goodIn_of _ (by decide +kernel)) ggX9_shut_X9_on
theorem dX9_shut_0 : decode cX9_shut 0 = .ok (.aload_n 0, 1) := by decide +kernel
theorem dX9_shut_1 : decode cX9_shut 1 = .ok (.iload_n 1, 1) := by decide +kernel
theorem dX9_shut_2 : decode cX9_shut 2 = .ok (.invokestatic 155, 3) := by decide +kernel
theorem dX9_shut_5 : decode cX9_shut 5 = .ok (.invokevirtual 159, 3) := by decide +kernel
theorem dX9_shut_8 : decode cX9_shut 8 = .ok (.ifCond .eq 5, 3) := by decide +kernel
theorem dX9_shut_11 : decode cX9_shut 11 = .ok (.iconst 0, 1) := by decide +kernel
theorem dX9_shut_12 : decode cX9_shut 12 = .ok (.ireturn, 1) := by decide +kernel
theorem dX9_shut_13 : decode cX9_shut 13 = .ok (.aload_n 0, 1) := by decide +kernel
theorem dX9_shut_14 : decode cX9_shut 14 = .ok (.aload_n 0, 1) := by decide +kernel
theorem dX9_shut_15 : decode cX9_shut 15 = .ok (.getfield 38, 3) := by decide +kernel
theorem dX9_shut_18 : decode cX9_shut 18 = .ok (.iload_n 1, 1) := by decide +kernel
theorem dX9_shut_19 : decode cX9_shut 19 = .ok (.baload, 1) := by decide +kernel
theorem dX9_shut_20 : decode cX9_shut 20 = .ok (.ifCond .eq 7, 3) := by decide +kernel
theorem dX9_shut_23 : decode cX9_shut 23 = .ok (.iconst 2, 1) := by decide +kernel
theorem dX9_shut_24 : decode cX9_shut 24 = .ok (.goto 4, 3) := by decide +kernel
theorem dX9_shut_27 : decode cX9_shut 27 = .ok (.iconst 0, 1) := by decide +kernel
theorem dX9_shut_28 : decode cX9_shut 28 = .ok (.putfield 130, 3) := by decide +kernel
theorem dX9_shut_31 : decode cX9_shut 31 = .ok (.aload_n 0, 1) := by decide +kernel
theorem dX9_shut_32 : decode cX9_shut 32 = .ok (.getfield 130, 3) := by decide +kernel
theorem dX9_shut_35 : decode cX9_shut 35 = .ok (.ifCond .le 5, 3) := by decide +kernel
theorem dX9_shut_38 : decode cX9_shut 38 = .ok (.iconst 0, 1) := by decide +kernel
theorem dX9_shut_39 : decode cX9_shut 39 = .ok (.ireturn, 1) := by decide +kernel
theorem dX9_shut_40 : decode cX9_shut 40 = .ok (.aload_n 0, 1) := by decide +kernel
theorem dX9_shut_41 : decode cX9_shut 41 = .ok (.iload_n 1, 1) := by decide +kernel
theorem dX9_shut_42 : decode cX9_shut 42 = .ok (.bipush 104, 2) := by decide +kernel
theorem dX9_shut_44 : decode cX9_shut 44 = .ok (.invokevirtual 181, 3) := by decide +kernel
theorem dX9_shut_47 : decode cX9_shut 47 = .ok (.aload_n 0, 1) := by decide +kernel
theorem dX9_shut_48 : decode cX9_shut 48 = .ok (.invokevirtual 191, 3) := by decide +kernel
theorem dX9_shut_51 : decode cX9_shut 51 = .ok (.ireturn, 1) := by decide +kernel
set_option maxRecDepth 20000 in
theorem ggX9_test_X9_isThree : GoodIn wsX9_test wsX9_isThree := goodIn_r _ [8, 9, 10, 7, 11] (by decide +kernel) (by decide +kernel)
set_option maxRecDepth 20000 in
theorem gX9_test_X9_isThree : GoodIn wsX9_test (va_wsS RX9 155 yX9_isThree wsX9_isThree) := goodIn_app (goodIn_of _ (by decide +kernel)) ggX9_test_X9_isThree
set_option maxRecDepth 20000 in
theorem ggX9_test_X9_isOut : GoodIn wsX9_test wsX9_isOut := goodIn_r _ [15, 2, 16, 17, 18, 19, 20, 21, 22, 23, 24, 25, 26, 27, 28, 29, 30, 31, 32, 33, 34, 35, 36, 37, 38, 39, 40, 41, 42, 43, 44, 45, 46, 47, 48, 49, 50, 51, 52, 53, 54, 55, 56, 57, 58, 59] (by decide +kernel) (by decide +kernel)
set_option maxRecDepth 20000 in
theorem gX9_test_X9_isOut : GoodIn wsX9_test (wsV RX9 159 RX9 yX9_isOut wsX9_isOut) := goodIn_app (goodIn_of _ (by decide +kernel)) ggX9_test_X9_isOut
theorem dX9_test_0 : decode cX9_test 0 = .ok (.aload_n 0, 1) := by decide +kernel
theorem dX9_test_1 : decode cX9_test 1 = .ok (.iload_n 1, 1) := by decide +kernel
theorem dX9_test_2 : decode cX9_test 2 = .ok (.invokestatic 155, 3) := by decide +kernel
theorem dX9_test_5 : decode cX9_test 5 = .ok (.invokevirtual 159, 3) := by decide +kernel
theorem dX9_test_8 : decode cX9_test 8 = .ok (.ifCond .eq 5, 3) := by decide +kernel
theorem dX9_test_11 : decode cX9_test 11 = .ok (.iconst 0, 1) := by decide +kernel
theorem dX9_test_12 : decode cX9_test 12 = .ok (.ireturn, 1) := by decide +kernel
theorem dX9_test_13 : decode cX9_test 13 = .ok (.aload_n 0, 1) := by decide +kernel
theorem dX9_test_14 : decode cX9_test 14 = .ok (.aload_n 0, 1) := by decide +kernel
theorem dX9_test_15 : decode cX9_test 15 = .ok (.getfield 38, 3) := by decide +kernel
theorem dX9_test_18 : decode cX9_test 18 = .ok (.iload_n 1, 1) := by decide +kernel
theorem dX9_test_19 : decode cX9_test 19 = .ok (.baload, 1) := by decide +kernel
theorem dX9_test_20 : decode cX9_test 20 = .ok (.ifCond .eq 7, 3) := by decide +kernel
theorem dX9_test_23 : decode cX9_test 23 = .ok (.iconst 0, 1) := by decide +kernel
theorem dX9_test_24 : decode cX9_test 24 = .ok (.goto 4, 3) := by decide +kernel
theorem dX9_test_27 : decode cX9_test 27 = .ok (.iconst 2, 1) := by decide +kernel
theorem dX9_test_28 : decode cX9_test 28 = .ok (.putfield 130, 3) := by decide +kernel
theorem dX9_test_31 : decode cX9_test 31 = .ok (.aload_n 0, 1) := by decide +kernel
theorem dX9_test_32 : decode cX9_test 32 = .ok (.getfield 130, 3) := by decide +kernel
theorem dX9_test_35 : decode cX9_test 35 = .ok (.ifCond .le 5, 3) := by decide +kernel
theorem dX9_test_38 : decode cX9_test 38 = .ok (.iconst 0, 1) := by decide +kernel
theorem dX9_test_39 : decode cX9_test 39 = .ok (.ireturn, 1) := by decide +kernel
theorem dX9_test_40 : decode cX9_test 40 = .ok (.aload_n 0, 1) := by decide +kernel
theorem dX9_test_41 : decode cX9_test 41 = .ok (.getfield 42, 3) := by decide +kernel
theorem dX9_test_44 : decode cX9_test 44 = .ok (.iload_n 1, 1) := by decide +kernel
theorem dX9_test_45 : decode cX9_test 45 = .ok (.aload_n 0, 1) := by decide +kernel
theorem dX9_test_46 : decode cX9_test 46 = .ok (.getfield 60, 3) := by decide +kernel
theorem dX9_test_49 : decode cX9_test 49 = .ok (.iload_n 1, 1) := by decide +kernel
theorem dX9_test_50 : decode cX9_test 50 = .ok (.iaload, 1) := by decide +kernel
theorem dX9_test_51 : decode cX9_test 51 = .ok (.ifCond .ne 7, 3) := by decide +kernel
theorem dX9_test_54 : decode cX9_test 54 = .ok (.iconst 1, 1) := by decide +kernel
theorem dX9_test_55 : decode cX9_test 55 = .ok (.goto 4, 3) := by decide +kernel
theorem dX9_test_58 : decode cX9_test 58 = .ok (.iconst 0, 1) := by decide +kernel
theorem dX9_test_59 : decode cX9_test 59 = .ok (.bastore, 1) := by decide +kernel
theorem dX9_test_60 : decode cX9_test 60 = .ok (.aload_n 0, 1) := by decide +kernel
theorem dX9_test_61 : decode cX9_test 61 = .ok (.getfield 42, 3) := by decide +kernel
theorem dX9_test_64 : decode cX9_test 64 = .ok (.iload_n 1, 1) := by decide +kernel
theorem dX9_test_65 : decode cX9_test 65 = .ok (.baload, 1) := by decide +kernel
theorem dX9_test_66 : decode cX9_test 66 = .ok (.ireturn, 1) := by decide +kernel
set_option maxRecDepth 20000 in
theorem ggX9_back_X9_isThree : GoodIn wsX9_back wsX9_isThree := goodIn_r _ [11, 12, 13, 10, 14] (by decide +kernel) (by decide +kernel)
set_option maxRecDepth 20000 in
theorem gX9_back_X9_isThree : GoodIn wsX9_back (va_wsS RX9 155 yX9_isThree wsX9_isThree) := goodIn_app (goodIn_of _ (by decide +kernel)) ggX9_back_X9_isThree
set_option maxRecDepth 20000 in
theorem ggX9_back_X9_isOut : GoodIn wsX9_back wsX9_isOut := goodIn_r _ [18, 3, 36, 37, 38, 39, 40, 41, 42, 43, 44, 45, 46, 47, 48, 49, 50, 51, 52, 53, 54, 55, 56, 57, 58, 59, 60, 61, 62, 63, 64, 65, 66, 67, 68, 69, 70, 71, 72, 73, 74, 75, 76, 77, 78, 79] (by decide +kernel) (by decide +kernel)
set_option maxRecDepth 20000 in
theorem gX9_back_X9_isOut : GoodIn wsX9_back (wsV RX9 159 RX9 yX9_isOut wsX9_isOut) := goodIn_app (goodIn_of _ (by decide +kernel)) ggX9_back_X9_isOut
set_option maxRecDepth 20000 in
theorem ggX9_back_X9_lowest : GoodIn wsX9_back wsX9_lowest := goodIn_r _ [22, 1, 36, 37, 38, 39, 40, 41, 42, 43, 44, 45, 46, 47, 48, 49, 50, 51, 52, 53, 54, 55, 56, 57, 58, 59, 60, 61, 62, 63, 64, 65, 66, 67, 68, 69, 70, 71, 72, 73, 74, 75, 76, 77, 78, 79] (by decide +kernel) (by decide +kernel)
set_option maxRecDepth 20000 in
theorem gX9_back_X9_lowest : GoodIn wsX9_back (wsV RX9 195 RX9 yX9_lowest wsX9_lowest) := goodIn_app (goodIn_of _ (by decide +kernel)) ggX9_back_X9_lowest
set_option maxRecDepth 20000 in
theorem ggX9_back_X9_logs : GoodIn wsX9_back wsX9_logs := goodIn_r _ [26, 27, 28, 29, 30, 31, 36, 37, 38, 39, 40, 41, 42, 43, 44, 45, 46, 47, 48, 49, 50, 51, 52, 53, 54, 55, 56, 57, 58, 59, 60, 61, 62, 63, 64, 65, 66, 67, 68, 69, 70, 71, 72, 73, 74, 75, 76, 77, 78, 79] (by decide +kernel) (by decide +kernel)
set_option maxRecDepth 20000 in
theorem gX9_back_X9_logs : GoodIn wsX9_back (wsV RX9 151 RX9 yX9_logs wsX9_logs) := goodIn_app (goodIn_of _ (by decide +kernel)) ggX9_back_X9_logs
set_option maxRecDepth 20000 in
theorem ggX9_back_X9_on : GoodIn wsX9_back wsX9_on := goodIn_r _ [35, 1, 36, 37, 38, 39, 40, 41, 42, 43, 44, 45, 46, 47, 48, 49, 50, 51, 52, 53, 54, 55, 56, 57, 58, 59, 60, 61, 62, 63, 64, 65, 66, 67, 68, 69, 70, 71, 72, 73, 74, 75, 76, 77, 78, 79] (by decide +kernel) (by decide +kernel)
set_option maxRecDepth 20000 in
theorem gX9_back_X9_on : GoodIn wsX9_back (wsV RX9 191 RX9 yX9_on wsX9_on) := goodIn_app (goodIn_of _ (by decide +kernel)) ggX9_back_X9_on
theorem dX9_back_0 : decode cX9_back 0 = .ok (.aload_n 0, 1) := by decide +kernel
theorem dX9_back_1 : decode cX9_back 1 = .ok (.iload_n 1, 1) := by decide +kernel
theorem dX9_back_2 : decode cX9_back 2 = .ok (.invokestatic 155, 3) := by decide +kernel
theorem dX9_back_5 : decode cX9_back 5 = .ok (.invokevirtual 159, 3) := by decide +kernel
theorem dX9_back_8 : decode cX9_back 8 = .ok (.ifCond .eq 5, 3) := by decide +kernel
theorem dX9_back_11 : decode cX9_back 11 = .ok (.iconst 0, 1) := by decide +kernel
theorem dX9_back_12 : decode cX9_back 12 = .ok (.ireturn, 1) := by decide +kernel
theorem dX9_back_13 : decode cX9_back 13 = .ok (.aload_n 0, 1) := by decide +kernel
theorem dX9_back_14 : decode cX9_back 14 = .ok (.invokevirtual 195, 3) := by decide +kernel
theorem dX9_back_17 : decode cX9_back 17 = .ok (.istore_n 2, 1) := by decide +kernel
theorem dX9_back_18 : decode cX9_back 18 = .ok (.aload_n 0, 1) := by decide +kernel
theorem dX9_back_19 : decode cX9_back 19 = .ok (.aload_n 0, 1) := by decide +kernel
theorem dX9_back_20 : decode cX9_back 20 = .ok (.getfield 38, 3) := by decide +kernel
theorem dX9_back_23 : decode cX9_back 23 = .ok (.iload_n 1, 1) := by decide +kernel
theorem dX9_back_24 : decode cX9_back 24 = .ok (.baload, 1) := by decide +kernel
theorem dX9_back_25 : decode cX9_back 25 = .ok (.ifCond .eq 17, 3) := by decide +kernel
theorem dX9_back_28 : decode cX9_back 28 = .ok (.aload_n 0, 1) := by decide +kernel
theorem dX9_back_29 : decode cX9_back 29 = .ok (.getfield 42, 3) := by decide +kernel
theorem dX9_back_32 : decode cX9_back 32 = .ok (.iload_n 1, 1) := by decide +kernel
theorem dX9_back_33 : decode cX9_back 33 = .ok (.baload, 1) := by decide +kernel
theorem dX9_back_34 : decode cX9_back 34 = .ok (.ifCond .eq 8, 3) := by decide +kernel
theorem dX9_back_37 : decode cX9_back 37 = .ok (.iload_n 2, 1) := by decide +kernel
theorem dX9_back_38 : decode cX9_back 38 = .ok (.iconst (-1), 1) := by decide +kernel
theorem dX9_back_39 : decode cX9_back 39 = .ok (.if_icmp .ne 7, 3) := by decide +kernel
theorem dX9_back_42 : decode cX9_back 42 = .ok (.iconst 2, 1) := by decide +kernel
theorem dX9_back_43 : decode cX9_back 43 = .ok (.goto 4, 3) := by decide +kernel
theorem dX9_back_46 : decode cX9_back 46 = .ok (.iconst 0, 1) := by decide +kernel
theorem dX9_back_47 : decode cX9_back 47 = .ok (.putfield 130, 3) := by decide +kernel
theorem dX9_back_50 : decode cX9_back 50 = .ok (.aload_n 0, 1) := by decide +kernel
theorem dX9_back_51 : decode cX9_back 51 = .ok (.getfield 130, 3) := by decide +kernel
theorem dX9_back_54 : decode cX9_back 54 = .ok (.ifCond .le 5, 3) := by decide +kernel
theorem dX9_back_57 : decode cX9_back 57 = .ok (.iconst 0, 1) := by decide +kernel
theorem dX9_back_58 : decode cX9_back 58 = .ok (.ireturn, 1) := by decide +kernel
theorem dX9_back_59 : decode cX9_back 59 = .ok (.iconst 0, 1) := by decide +kernel
theorem dX9_back_60 : decode cX9_back 60 = .ok (.istore_n 3, 1) := by decide +kernel
theorem dX9_back_61 : decode cX9_back 61 = .ok (.iload_n 3, 1) := by decide +kernel
theorem dX9_back_62 : decode cX9_back 62 = .ok (.bipush 18, 2) := by decide +kernel
theorem dX9_back_64 : decode cX9_back 64 = .ok (.if_icmp .ge 43, 3) := by decide +kernel
theorem dX9_back_67 : decode cX9_back 67 = .ok (.aload_n 0, 1) := by decide +kernel
theorem dX9_back_68 : decode cX9_back 68 = .ok (.getfield 26, 3) := by decide +kernel
theorem dX9_back_71 : decode cX9_back 71 = .ok (.iload_n 1, 1) := by decide +kernel
theorem dX9_back_72 : decode cX9_back 72 = .ok (.bipush 18, 2) := by decide +kernel
theorem dX9_back_74 : decode cX9_back 74 = .ok (.imul, 1) := by decide +kernel
theorem dX9_back_75 : decode cX9_back 75 = .ok (.iload_n 3, 1) := by decide +kernel
theorem dX9_back_76 : decode cX9_back 76 = .ok (.iadd, 1) := by decide +kernel
theorem dX9_back_77 : decode cX9_back 77 = .ok (.aload_n 0, 1) := by decide +kernel
theorem dX9_back_78 : decode cX9_back 78 = .ok (.getfield 26, 3) := by decide +kernel
theorem dX9_back_81 : decode cX9_back 81 = .ok (.iload_n 2, 1) := by decide +kernel
theorem dX9_back_82 : decode cX9_back 82 = .ok (.bipush 18, 2) := by decide +kernel
theorem dX9_back_84 : decode cX9_back 84 = .ok (.imul, 1) := by decide +kernel
theorem dX9_back_85 : decode cX9_back 85 = .ok (.iload_n 3, 1) := by decide +kernel
theorem dX9_back_86 : decode cX9_back 86 = .ok (.iadd, 1) := by decide +kernel
theorem dX9_back_87 : decode cX9_back 87 = .ok (.iaload, 1) := by decide +kernel
theorem dX9_back_88 : decode cX9_back 88 = .ok (.iastore, 1) := by decide +kernel
theorem dX9_back_89 : decode cX9_back 89 = .ok (.aload_n 0, 1) := by decide +kernel
theorem dX9_back_90 : decode cX9_back 90 = .ok (.getfield 29, 3) := by decide +kernel
theorem dX9_back_93 : decode cX9_back 93 = .ok (.iload_n 1, 1) := by decide +kernel
theorem dX9_back_94 : decode cX9_back 94 = .ok (.bipush 18, 2) := by decide +kernel
theorem dX9_back_96 : decode cX9_back 96 = .ok (.imul, 1) := by decide +kernel
theorem dX9_back_97 : decode cX9_back 97 = .ok (.iload_n 3, 1) := by decide +kernel
theorem dX9_back_98 : decode cX9_back 98 = .ok (.iadd, 1) := by decide +kernel
theorem dX9_back_99 : decode cX9_back 99 = .ok (.iconst 0, 1) := by decide +kernel
theorem dX9_back_100 : decode cX9_back 100 = .ok (.iastore, 1) := by decide +kernel
theorem dX9_back_101 : decode cX9_back 101 = .ok (.iinc 3 1, 3) := by decide +kernel
theorem dX9_back_104 : decode cX9_back 104 = .ok (.goto (-43), 3) := by decide +kernel
theorem dX9_back_107 : decode cX9_back 107 = .ok (.aload_n 0, 1) := by decide +kernel
theorem dX9_back_108 : decode cX9_back 108 = .ok (.getfield 45, 3) := by decide +kernel
theorem dX9_back_111 : decode cX9_back 111 = .ok (.iload_n 1, 1) := by decide +kernel
theorem dX9_back_112 : decode cX9_back 112 = .ok (.iconst 0, 1) := by decide +kernel
theorem dX9_back_113 : decode cX9_back 113 = .ok (.iastore, 1) := by decide +kernel
theorem dX9_back_114 : decode cX9_back 114 = .ok (.aload_n 0, 1) := by decide +kernel
theorem dX9_back_115 : decode cX9_back 115 = .ok (.getfield 48, 3) := by decide +kernel
theorem dX9_back_118 : decode cX9_back 118 = .ok (.iload_n 1, 1) := by decide +kernel
theorem dX9_back_119 : decode cX9_back 119 = .ok (.aload_n 0, 1) := by decide +kernel
theorem dX9_back_120 : decode cX9_back 120 = .ok (.getfield 48, 3) := by decide +kernel
theorem dX9_back_123 : decode cX9_back 123 = .ok (.iload_n 2, 1) := by decide +kernel
theorem dX9_back_124 : decode cX9_back 124 = .ok (.iaload, 1) := by decide +kernel
theorem dX9_back_125 : decode cX9_back 125 = .ok (.iastore, 1) := by decide +kernel
theorem dX9_back_126 : decode cX9_back 126 = .ok (.aload_n 0, 1) := by decide +kernel
theorem dX9_back_127 : decode cX9_back 127 = .ok (.getfield 38, 3) := by decide +kernel
theorem dX9_back_130 : decode cX9_back 130 = .ok (.iload_n 1, 1) := by decide +kernel
theorem dX9_back_131 : decode cX9_back 131 = .ok (.iconst 0, 1) := by decide +kernel
theorem dX9_back_132 : decode cX9_back 132 = .ok (.bastore, 1) := by decide +kernel
theorem dX9_back_133 : decode cX9_back 133 = .ok (.aload_n 0, 1) := by decide +kernel
theorem dX9_back_134 : decode cX9_back 134 = .ok (.getfield 42, 3) := by decide +kernel
theorem dX9_back_137 : decode cX9_back 137 = .ok (.iload_n 1, 1) := by decide +kernel
theorem dX9_back_138 : decode cX9_back 138 = .ok (.iconst 0, 1) := by decide +kernel
theorem dX9_back_139 : decode cX9_back 139 = .ok (.bastore, 1) := by decide +kernel
theorem dX9_back_140 : decode cX9_back 140 = .ok (.aload_n 0, 1) := by decide +kernel
theorem dX9_back_141 : decode cX9_back 141 = .ok (.iload_n 1, 1) := by decide +kernel
theorem dX9_back_142 : decode cX9_back 142 = .ok (.bipush 98, 2) := by decide +kernel
theorem dX9_back_144 : decode cX9_back 144 = .ok (.invokevirtual 151, 3) := by decide +kernel
theorem dX9_back_147 : decode cX9_back 147 = .ok (.aload_n 0, 1) := by decide +kernel
theorem dX9_back_148 : decode cX9_back 148 = .ok (.invokevirtual 191, 3) := by decide +kernel
theorem dX9_back_151 : decode cX9_back 151 = .ok (.ireturn, 1) := by decide +kernel
set_option maxRecDepth 20000 in
theorem ggX9_mended_X9_isThree : GoodIn wsX9_mended wsX9_isThree := goodIn_r _ [5, 6, 7, 4, 8] (by decide +kernel) (by decide +kernel)
set_option maxRecDepth 20000 in
theorem gX9_mended_X9_isThree : GoodIn wsX9_mended (va_wsS RX9 155 yX9_isThree wsX9_isThree) := goodIn_app (goodIn_of _ (by decide +kernel)) ggX9_mended_X9_isThree
set_option maxRecDepth 20000 in
theorem ggX9_mended_X9_isOut : GoodIn wsX9_mended wsX9_isOut := goodIn_r _ [12, 13, 14, 15, 16, 17, 18, 19, 20, 21, 22, 23, 24, 25, 26, 27, 28, 29, 30, 31, 32, 33, 34, 35, 36, 37, 38, 39, 40, 41, 42, 43, 44, 45, 46, 47, 48, 49, 50, 51, 52, 53, 54, 55, 56, 57] (by decide +kernel) (by decide +kernel)
set_option maxRecDepth 20000 in
theorem gX9_mended_X9_isOut : GoodIn wsX9_mended (wsV RX9 159 RX9 yX9_isOut wsX9_isOut) := goodIn_app (goodIn_of _ (by decide +kernel)) ggX9_mended_X9_isOut
theorem dX9_mended_0 : decode cX9_mended 0 = .ok (.aload_n 0, 1) := by decide +kernel
theorem dX9_mended_1 : decode cX9_mended 1 = .ok (.iload_n 1, 1) := by decide +kernel
theorem dX9_mended_2 : decode cX9_mended 2 = .ok (.invokestatic 155, 3) := by decide +kernel
theorem dX9_mended_5 : decode cX9_mended 5 = .ok (.invokevirtual 159, 3) := by decide +kernel
theorem dX9_mended_8 : decode cX9_mended 8 = .ok (.ifCond .eq 7, 3) := by decide +kernel
theorem dX9_mended_11 : decode cX9_mended 11 = .ok (.iconst 0, 1) := by decide +kernel
theorem dX9_mended_12 : decode cX9_mended 12 = .ok (.goto 9, 3) := by decide +kernel
theorem dX9_mended_15 : decode cX9_mended 15 = .ok (.aload_n 0, 1) := by decide +kernel
theorem dX9_mended_16 : decode cX9_mended 16 = .ok (.getfield 57, 3) := by decide +kernel
theorem dX9_mended_19 : decode cX9_mended 19 = .ok (.iload_n 1, 1) := by decide +kernel
theorem dX9_mended_20 : decode cX9_mended 20 = .ok (.iaload, 1) := by decide +kernel
theorem dX9_mended_21 : decode cX9_mended 21 = .ok (.ireturn, 1) := by decide +kernel
set_option maxRecDepth 20000 in
theorem ggX9_overruns_X9_isThree : GoodIn wsX9_overruns wsX9_isThree := goodIn_r _ [5, 6, 7, 4, 8] (by decide +kernel) (by decide +kernel)
set_option maxRecDepth 20000 in
theorem gX9_overruns_X9_isThree : GoodIn wsX9_overruns (va_wsS RX9 155 yX9_isThree wsX9_isThree) := goodIn_app (goodIn_of _ (by decide +kernel)) ggX9_overruns_X9_isThree
set_option maxRecDepth 20000 in
theorem ggX9_overruns_X9_isOut : GoodIn wsX9_overruns wsX9_isOut := goodIn_r _ [12, 13, 14, 15, 16, 17, 18, 19, 20, 21, 22, 23, 24, 25, 26, 27, 28, 29, 30, 31, 32, 33, 34, 35, 36, 37, 38, 39, 40, 41, 42, 43, 44, 45, 46, 47, 48, 49, 50, 51, 52, 53, 54, 55, 56, 57] (by decide +kernel) (by decide +kernel)
set_option maxRecDepth 20000 in
theorem gX9_overruns_X9_isOut : GoodIn wsX9_overruns (wsV RX9 159 RX9 yX9_isOut wsX9_isOut) := goodIn_app (goodIn_of _ (by decide +kernel)) ggX9_overruns_X9_isOut
theorem dX9_overruns_0 : decode cX9_overruns 0 = .ok (.aload_n 0, 1) := by decide +kernel
theorem dX9_overruns_1 : decode cX9_overruns 1 = .ok (.iload_n 1, 1) := by decide +kernel
theorem dX9_overruns_2 : decode cX9_overruns 2 = .ok (.invokestatic 155, 3) := by decide +kernel
theorem dX9_overruns_5 : decode cX9_overruns 5 = .ok (.invokevirtual 159, 3) := by decide +kernel
theorem dX9_overruns_8 : decode cX9_overruns 8 = .ok (.ifCond .eq 7, 3) := by decide +kernel
theorem dX9_overruns_11 : decode cX9_overruns 11 = .ok (.iconst 0, 1) := by decide +kernel
theorem dX9_overruns_12 : decode cX9_overruns 12 = .ok (.goto 9, 3) := by decide +kernel
theorem dX9_overruns_15 : decode cX9_overruns 15 = .ok (.aload_n 0, 1) := by decide +kernel
theorem dX9_overruns_16 : decode cX9_overruns 16 = .ok (.getfield 81, 3) := by decide +kernel
theorem dX9_overruns_19 : decode cX9_overruns 19 = .ok (.iload_n 1, 1) := by decide +kernel
theorem dX9_overruns_20 : decode cX9_overruns 20 = .ok (.iaload, 1) := by decide +kernel
theorem dX9_overruns_21 : decode cX9_overruns 21 = .ok (.ireturn, 1) := by decide +kernel
set_option maxRecDepth 20000 in
theorem ggX9_isNumber_X9_in : GoodIn wsX9_isNumber wsX9_in := goodIn_r _ [4] (by decide +kernel) (by decide +kernel)
set_option maxRecDepth 20000 in
theorem gX9_isNumber_X9_in : GoodIn wsX9_isNumber (va_wsS RX9 141 yX9_in wsX9_in) := goodIn_app (goodIn_of _ (by decide +kernel)) ggX9_isNumber_X9_in
theorem dX9_isNumber_0 : decode cX9_isNumber 0 = .ok (.iload_n 0, 1) := by decide +kernel
theorem dX9_isNumber_1 : decode cX9_isNumber 1 = .ok (.sipush (-32768), 3) := by decide +kernel
theorem dX9_isNumber_4 : decode cX9_isNumber 4 = .ok (.sipush 32767, 3) := by decide +kernel
theorem dX9_isNumber_7 : decode cX9_isNumber 7 = .ok (.invokestatic 141, 3) := by decide +kernel
theorem dX9_isNumber_10 : decode cX9_isNumber 10 = .ok (.ireturn, 1) := by decide +kernel
set_option maxRecDepth 20000 in
theorem ggX9_read_X9_isFour : GoodIn wsX9_read wsX9_isFour := goodIn_r _ [6, 7, 8, 5, 9] (by decide +kernel) (by decide +kernel)
set_option maxRecDepth 20000 in
theorem gX9_read_X9_isFour : GoodIn wsX9_read (va_wsS RX9 167 yX9_isFour wsX9_isFour) := goodIn_app (goodIn_of _ (by decide +kernel)) ggX9_read_X9_isFour
set_option maxRecDepth 20000 in
theorem ggX9_read_X9_isOut : GoodIn wsX9_read wsX9_isOut := goodIn_r _ [13, 1, 26, 27, 28, 29, 30, 31, 32, 33, 34, 35, 36, 37, 38, 39, 40, 41, 42, 43, 44, 45, 46, 47, 48, 49, 50, 51, 52, 53, 54, 55, 56, 57, 58, 59, 60, 61, 62, 63, 64, 65, 66, 67, 68, 69] (by decide +kernel) (by decide +kernel)
set_option maxRecDepth 20000 in
theorem gX9_read_X9_isOut : GoodIn wsX9_read (wsV RX9 159 RX9 yX9_isOut wsX9_isOut) := goodIn_app (goodIn_of _ (by decide +kernel)) ggX9_read_X9_isOut
set_option maxRecDepth 20000 in
theorem ggX9_read_X9_isNumber : GoodIn wsX9_read wsX9_isNumber := goodIn_r _ [16, 7, 8, 5, 9] (by decide +kernel) (by decide +kernel)
set_option maxRecDepth 20000 in
theorem gX9_read_X9_isNumber : GoodIn wsX9_read (va_wsS RX9 237 yX9_isNumber wsX9_isNumber) := goodIn_app (goodIn_of _ (by decide +kernel)) ggX9_read_X9_isNumber
set_option maxRecDepth 20000 in
theorem ggX9_read_X9_middle : GoodIn wsX9_read wsX9_middle := goodIn_r _ [19, 20, 21, 5, 22, 23, 24, 25] (by decide +kernel) (by decide +kernel)
set_option maxRecDepth 20000 in
theorem gX9_read_X9_middle : GoodIn wsX9_read (va_wsS RX9 215 yX9_middle wsX9_middle) := goodIn_app (goodIn_of _ (by decide +kernel)) ggX9_read_X9_middle
theorem dX9_read_0 : decode cX9_read 0 = .ok (.aload_n 0, 1) := by decide +kernel
theorem dX9_read_1 : decode cX9_read 1 = .ok (.iload_n 1, 1) := by decide +kernel
theorem dX9_read_2 : decode cX9_read 2 = .ok (.invokestatic 167, 3) := by decide +kernel
theorem dX9_read_5 : decode cX9_read 5 = .ok (.invokevirtual 159, 3) := by decide +kernel
theorem dX9_read_8 : decode cX9_read 8 = .ok (.ifCond .eq 5, 3) := by decide +kernel
theorem dX9_read_11 : decode cX9_read 11 = .ok (.iconst 0, 1) := by decide +kernel
theorem dX9_read_12 : decode cX9_read 12 = .ok (.ireturn, 1) := by decide +kernel
theorem dX9_read_13 : decode cX9_read 13 = .ok (.aload_n 0, 1) := by decide +kernel
theorem dX9_read_14 : decode cX9_read 14 = .ok (.iload_n 2, 1) := by decide +kernel
theorem dX9_read_15 : decode cX9_read 15 = .ok (.invokestatic 237, 3) := by decide +kernel
theorem dX9_read_18 : decode cX9_read 18 = .ok (.ifCond .eq 22, 3) := by decide +kernel
theorem dX9_read_21 : decode cX9_read 21 = .ok (.iload_n 3, 1) := by decide +kernel
theorem dX9_read_22 : decode cX9_read 22 = .ok (.invokestatic 237, 3) := by decide +kernel
theorem dX9_read_25 : decode cX9_read 25 = .ok (.ifCond .eq 15, 3) := by decide +kernel
theorem dX9_read_28 : decode cX9_read 28 = .ok (.iload 4, 2) := by decide +kernel
theorem dX9_read_30 : decode cX9_read 30 = .ok (.invokestatic 237, 3) := by decide +kernel
theorem dX9_read_33 : decode cX9_read 33 = .ok (.ifCond .eq 7, 3) := by decide +kernel
theorem dX9_read_36 : decode cX9_read 36 = .ok (.iconst 0, 1) := by decide +kernel
theorem dX9_read_37 : decode cX9_read 37 = .ok (.goto 4, 3) := by decide +kernel
theorem dX9_read_40 : decode cX9_read 40 = .ok (.iconst 2, 1) := by decide +kernel
theorem dX9_read_41 : decode cX9_read 41 = .ok (.putfield 130, 3) := by decide +kernel
theorem dX9_read_44 : decode cX9_read 44 = .ok (.aload_n 0, 1) := by decide +kernel
theorem dX9_read_45 : decode cX9_read 45 = .ok (.getfield 130, 3) := by decide +kernel
theorem dX9_read_48 : decode cX9_read 48 = .ok (.ifCond .le 5, 3) := by decide +kernel
theorem dX9_read_51 : decode cX9_read 51 = .ok (.iconst 0, 1) := by decide +kernel
theorem dX9_read_52 : decode cX9_read 52 = .ok (.ireturn, 1) := by decide +kernel
theorem dX9_read_53 : decode cX9_read 53 = .ok (.aload_n 0, 1) := by decide +kernel
theorem dX9_read_54 : decode cX9_read 54 = .ok (.getfield 84, 3) := by decide +kernel
theorem dX9_read_57 : decode cX9_read 57 = .ok (.iload_n 1, 1) := by decide +kernel
theorem dX9_read_58 : decode cX9_read 58 = .ok (.iconst 3, 1) := by decide +kernel
theorem dX9_read_59 : decode cX9_read 59 = .ok (.imul, 1) := by decide +kernel
theorem dX9_read_60 : decode cX9_read 60 = .ok (.iload_n 2, 1) := by decide +kernel
theorem dX9_read_61 : decode cX9_read 61 = .ok (.iastore, 1) := by decide +kernel
theorem dX9_read_62 : decode cX9_read 62 = .ok (.aload_n 0, 1) := by decide +kernel
theorem dX9_read_63 : decode cX9_read 63 = .ok (.getfield 84, 3) := by decide +kernel
theorem dX9_read_66 : decode cX9_read 66 = .ok (.iload_n 1, 1) := by decide +kernel
theorem dX9_read_67 : decode cX9_read 67 = .ok (.iconst 3, 1) := by decide +kernel
theorem dX9_read_68 : decode cX9_read 68 = .ok (.imul, 1) := by decide +kernel
theorem dX9_read_69 : decode cX9_read 69 = .ok (.iconst 1, 1) := by decide +kernel
theorem dX9_read_70 : decode cX9_read 70 = .ok (.iadd, 1) := by decide +kernel
theorem dX9_read_71 : decode cX9_read 71 = .ok (.iload_n 3, 1) := by decide +kernel
theorem dX9_read_72 : decode cX9_read 72 = .ok (.iastore, 1) := by decide +kernel
theorem dX9_read_73 : decode cX9_read 73 = .ok (.aload_n 0, 1) := by decide +kernel
theorem dX9_read_74 : decode cX9_read 74 = .ok (.getfield 84, 3) := by decide +kernel
theorem dX9_read_77 : decode cX9_read 77 = .ok (.iload_n 1, 1) := by decide +kernel
theorem dX9_read_78 : decode cX9_read 78 = .ok (.iconst 3, 1) := by decide +kernel
theorem dX9_read_79 : decode cX9_read 79 = .ok (.imul, 1) := by decide +kernel
theorem dX9_read_80 : decode cX9_read 80 = .ok (.iconst 2, 1) := by decide +kernel
theorem dX9_read_81 : decode cX9_read 81 = .ok (.iadd, 1) := by decide +kernel
theorem dX9_read_82 : decode cX9_read 82 = .ok (.iload 4, 2) := by decide +kernel
theorem dX9_read_84 : decode cX9_read 84 = .ok (.iastore, 1) := by decide +kernel
theorem dX9_read_85 : decode cX9_read 85 = .ok (.iload_n 2, 1) := by decide +kernel
theorem dX9_read_86 : decode cX9_read 86 = .ok (.iload_n 3, 1) := by decide +kernel
theorem dX9_read_87 : decode cX9_read 87 = .ok (.iload 4, 2) := by decide +kernel
theorem dX9_read_89 : decode cX9_read 89 = .ok (.invokestatic 215, 3) := by decide +kernel
theorem dX9_read_92 : decode cX9_read 92 = .ok (.ireturn, 1) := by decide +kernel
set_option maxRecDepth 20000 in
theorem ggX9_limit_X9_isFour : GoodIn wsX9_limit wsX9_isFour := goodIn_r _ [6, 7, 8, 5, 9] (by decide +kernel) (by decide +kernel)
set_option maxRecDepth 20000 in
theorem gX9_limit_X9_isFour : GoodIn wsX9_limit (va_wsS RX9 167 yX9_isFour wsX9_isFour) := goodIn_app (goodIn_of _ (by decide +kernel)) ggX9_limit_X9_isFour
set_option maxRecDepth 20000 in
theorem ggX9_limit_X9_isOut : GoodIn wsX9_limit wsX9_isOut := goodIn_r _ [13, 1, 14, 15, 16, 17, 18, 19, 20, 21, 22, 23, 24, 25, 26, 27, 28, 29, 30, 31, 32, 33, 34, 35, 36, 37, 38, 39, 40, 41, 42, 43, 44, 45, 46, 47, 48, 49, 50, 51, 52, 53, 54, 55, 56, 57] (by decide +kernel) (by decide +kernel)
set_option maxRecDepth 20000 in
theorem gX9_limit_X9_isOut : GoodIn wsX9_limit (wsV RX9 159 RX9 yX9_isOut wsX9_isOut) := goodIn_app (goodIn_of _ (by decide +kernel)) ggX9_limit_X9_isOut
set_option maxRecDepth 20000 in
theorem ggX9_limit_X9_in : GoodIn wsX9_limit wsX9_in := goodIn_r _ [9] (by decide +kernel) (by decide +kernel)
set_option maxRecDepth 20000 in
theorem gX9_limit_X9_in : GoodIn wsX9_limit (va_wsS RX9 141 yX9_in wsX9_in) := goodIn_app (goodIn_of _ (by decide +kernel)) ggX9_limit_X9_in
theorem dX9_limit_0 : decode cX9_limit 0 = .ok (.aload_n 0, 1) := by decide +kernel
theorem dX9_limit_1 : decode cX9_limit 1 = .ok (.iload_n 1, 1) := by decide +kernel
theorem dX9_limit_2 : decode cX9_limit 2 = .ok (.invokestatic 167, 3) := by decide +kernel
theorem dX9_limit_5 : decode cX9_limit 5 = .ok (.invokevirtual 159, 3) := by decide +kernel
theorem dX9_limit_8 : decode cX9_limit 8 = .ok (.ifCond .eq 5, 3) := by decide +kernel
theorem dX9_limit_11 : decode cX9_limit 11 = .ok (.iconst 0, 1) := by decide +kernel
theorem dX9_limit_12 : decode cX9_limit 12 = .ok (.ireturn, 1) := by decide +kernel
theorem dX9_limit_13 : decode cX9_limit 13 = .ok (.aload_n 0, 1) := by decide +kernel
theorem dX9_limit_14 : decode cX9_limit 14 = .ok (.iload_n 2, 1) := by decide +kernel
theorem dX9_limit_15 : decode cX9_limit 15 = .ok (.iconst 0, 1) := by decide +kernel
theorem dX9_limit_16 : decode cX9_limit 16 = .ok (.sipush 32767, 3) := by decide +kernel
theorem dX9_limit_19 : decode cX9_limit 19 = .ok (.invokestatic 141, 3) := by decide +kernel
theorem dX9_limit_22 : decode cX9_limit 22 = .ok (.ifCond .eq 7, 3) := by decide +kernel
theorem dX9_limit_25 : decode cX9_limit 25 = .ok (.iconst 0, 1) := by decide +kernel
theorem dX9_limit_26 : decode cX9_limit 26 = .ok (.goto 4, 3) := by decide +kernel
theorem dX9_limit_29 : decode cX9_limit 29 = .ok (.iconst 2, 1) := by decide +kernel
theorem dX9_limit_30 : decode cX9_limit 30 = .ok (.putfield 130, 3) := by decide +kernel
theorem dX9_limit_33 : decode cX9_limit 33 = .ok (.aload_n 0, 1) := by decide +kernel
theorem dX9_limit_34 : decode cX9_limit 34 = .ok (.getfield 130, 3) := by decide +kernel
theorem dX9_limit_37 : decode cX9_limit 37 = .ok (.ifCond .le 5, 3) := by decide +kernel
theorem dX9_limit_40 : decode cX9_limit 40 = .ok (.iconst 0, 1) := by decide +kernel
theorem dX9_limit_41 : decode cX9_limit 41 = .ok (.ireturn, 1) := by decide +kernel
theorem dX9_limit_42 : decode cX9_limit 42 = .ok (.sipush 32767, 3) := by decide +kernel
theorem dX9_limit_45 : decode cX9_limit 45 = .ok (.aload_n 0, 1) := by decide +kernel
theorem dX9_limit_46 : decode cX9_limit 46 = .ok (.getfield 87, 3) := by decide +kernel
theorem dX9_limit_49 : decode cX9_limit 49 = .ok (.iload_n 1, 1) := by decide +kernel
theorem dX9_limit_50 : decode cX9_limit 50 = .ok (.iaload, 1) := by decide +kernel
theorem dX9_limit_51 : decode cX9_limit 51 = .ok (.isub, 1) := by decide +kernel
theorem dX9_limit_52 : decode cX9_limit 52 = .ok (.istore_n 3, 1) := by decide +kernel
theorem dX9_limit_53 : decode cX9_limit 53 = .ok (.aload_n 0, 1) := by decide +kernel
theorem dX9_limit_54 : decode cX9_limit 54 = .ok (.getfield 87, 3) := by decide +kernel
theorem dX9_limit_57 : decode cX9_limit 57 = .ok (.iload_n 1, 1) := by decide +kernel
theorem dX9_limit_58 : decode cX9_limit 58 = .ok (.sipush 32767, 3) := by decide +kernel
theorem dX9_limit_61 : decode cX9_limit 61 = .ok (.iload_n 2, 1) := by decide +kernel
theorem dX9_limit_62 : decode cX9_limit 62 = .ok (.isub, 1) := by decide +kernel
theorem dX9_limit_63 : decode cX9_limit 63 = .ok (.iastore, 1) := by decide +kernel
theorem dX9_limit_64 : decode cX9_limit 64 = .ok (.iload_n 3, 1) := by decide +kernel
theorem dX9_limit_65 : decode cX9_limit 65 = .ok (.ireturn, 1) := by decide +kernel
set_option maxRecDepth 20000 in
theorem ggX9_agreed_X9_isFour : GoodIn wsX9_agreed wsX9_isFour := goodIn_r _ [5, 6, 7, 4, 8] (by decide +kernel) (by decide +kernel)
set_option maxRecDepth 20000 in
theorem gX9_agreed_X9_isFour : GoodIn wsX9_agreed (va_wsS RX9 167 yX9_isFour wsX9_isFour) := goodIn_app (goodIn_of _ (by decide +kernel)) ggX9_agreed_X9_isFour
set_option maxRecDepth 20000 in
theorem ggX9_agreed_X9_isOut : GoodIn wsX9_agreed wsX9_isOut := goodIn_r _ [12, 13, 14, 15, 16, 17, 18, 19, 20, 21, 22, 23, 24, 25, 26, 27, 28, 29, 30, 31, 32, 33, 34, 35, 36, 37, 38, 39, 40, 41, 42, 43, 44, 45, 46, 47, 48, 49, 50, 51, 52, 53, 54, 55, 56, 57] (by decide +kernel) (by decide +kernel)
set_option maxRecDepth 20000 in
theorem gX9_agreed_X9_isOut : GoodIn wsX9_agreed (wsV RX9 159 RX9 yX9_isOut wsX9_isOut) := goodIn_app (goodIn_of _ (by decide +kernel)) ggX9_agreed_X9_isOut
theorem dX9_agreed_0 : decode cX9_agreed 0 = .ok (.aload_n 0, 1) := by decide +kernel
theorem dX9_agreed_1 : decode cX9_agreed 1 = .ok (.iload_n 1, 1) := by decide +kernel
theorem dX9_agreed_2 : decode cX9_agreed 2 = .ok (.invokestatic 167, 3) := by decide +kernel
theorem dX9_agreed_5 : decode cX9_agreed 5 = .ok (.invokevirtual 159, 3) := by decide +kernel
theorem dX9_agreed_8 : decode cX9_agreed 8 = .ok (.ifCond .eq 7, 3) := by decide +kernel
theorem dX9_agreed_11 : decode cX9_agreed 11 = .ok (.iconst 0, 1) := by decide +kernel
theorem dX9_agreed_12 : decode cX9_agreed 12 = .ok (.goto 9, 3) := by decide +kernel
theorem dX9_agreed_15 : decode cX9_agreed 15 = .ok (.aload_n 0, 1) := by decide +kernel
theorem dX9_agreed_16 : decode cX9_agreed 16 = .ok (.getfield 90, 3) := by decide +kernel
theorem dX9_agreed_19 : decode cX9_agreed 19 = .ok (.iload_n 1, 1) := by decide +kernel
theorem dX9_agreed_20 : decode cX9_agreed 20 = .ok (.iaload, 1) := by decide +kernel
theorem dX9_agreed_21 : decode cX9_agreed 21 = .ok (.ireturn, 1) := by decide +kernel
set_option maxRecDepth 20000 in
theorem ggX9_drift_X9_isThree : GoodIn wsX9_drift wsX9_isThree := goodIn_r _ [6, 7, 8, 5, 9] (by decide +kernel) (by decide +kernel)
set_option maxRecDepth 20000 in
theorem gX9_drift_X9_isThree : GoodIn wsX9_drift (va_wsS RX9 155 yX9_isThree wsX9_isThree) := goodIn_app (goodIn_of _ (by decide +kernel)) ggX9_drift_X9_isThree
set_option maxRecDepth 20000 in
theorem ggX9_drift_X9_isOut : GoodIn wsX9_drift wsX9_isOut := goodIn_r _ [13, 1, 14, 15, 16, 17, 18, 19, 20, 21, 22, 23, 24, 25, 26, 27, 28, 29, 30, 31, 32, 33, 34, 35, 36, 37, 38, 39, 40, 41, 42, 43, 44, 45, 46, 47, 48, 49, 50, 51, 52, 53, 54, 55, 56, 57] (by decide +kernel) (by decide +kernel)
set_option maxRecDepth 20000 in
theorem gX9_drift_X9_isOut : GoodIn wsX9_drift (wsV RX9 159 RX9 yX9_isOut wsX9_isOut) := goodIn_app (goodIn_of _ (by decide +kernel)) ggX9_drift_X9_isOut
set_option maxRecDepth 20000 in
theorem ggX9_drift_X9_in : GoodIn wsX9_drift wsX9_in := goodIn_r _ [9] (by decide +kernel) (by decide +kernel)
set_option maxRecDepth 20000 in
theorem gX9_drift_X9_in : GoodIn wsX9_drift (va_wsS RX9 141 yX9_in wsX9_in) := goodIn_app (goodIn_of _ (by decide +kernel)) ggX9_drift_X9_in
theorem dX9_drift_0 : decode cX9_drift 0 = .ok (.aload_n 0, 1) := by decide +kernel
theorem dX9_drift_1 : decode cX9_drift 1 = .ok (.iload_n 1, 1) := by decide +kernel
theorem dX9_drift_2 : decode cX9_drift 2 = .ok (.invokestatic 155, 3) := by decide +kernel
theorem dX9_drift_5 : decode cX9_drift 5 = .ok (.invokevirtual 159, 3) := by decide +kernel
theorem dX9_drift_8 : decode cX9_drift 8 = .ok (.ifCond .eq 5, 3) := by decide +kernel
theorem dX9_drift_11 : decode cX9_drift 11 = .ok (.iconst 0, 1) := by decide +kernel
theorem dX9_drift_12 : decode cX9_drift 12 = .ok (.ireturn, 1) := by decide +kernel
theorem dX9_drift_13 : decode cX9_drift 13 = .ok (.aload_n 0, 1) := by decide +kernel
theorem dX9_drift_14 : decode cX9_drift 14 = .ok (.iload_n 2, 1) := by decide +kernel
theorem dX9_drift_15 : decode cX9_drift 15 = .ok (.bipush (-9), 2) := by decide +kernel
theorem dX9_drift_17 : decode cX9_drift 17 = .ok (.bipush 9, 2) := by decide +kernel
theorem dX9_drift_19 : decode cX9_drift 19 = .ok (.invokestatic 141, 3) := by decide +kernel
theorem dX9_drift_22 : decode cX9_drift 22 = .ok (.ifCond .eq 7, 3) := by decide +kernel
theorem dX9_drift_25 : decode cX9_drift 25 = .ok (.iconst 0, 1) := by decide +kernel
theorem dX9_drift_26 : decode cX9_drift 26 = .ok (.goto 4, 3) := by decide +kernel
theorem dX9_drift_29 : decode cX9_drift 29 = .ok (.iconst 2, 1) := by decide +kernel
theorem dX9_drift_30 : decode cX9_drift 30 = .ok (.putfield 130, 3) := by decide +kernel
theorem dX9_drift_33 : decode cX9_drift 33 = .ok (.aload_n 0, 1) := by decide +kernel
theorem dX9_drift_34 : decode cX9_drift 34 = .ok (.getfield 130, 3) := by decide +kernel
theorem dX9_drift_37 : decode cX9_drift 37 = .ok (.ifCond .le 5, 3) := by decide +kernel
theorem dX9_drift_40 : decode cX9_drift 40 = .ok (.iconst 0, 1) := by decide +kernel
theorem dX9_drift_41 : decode cX9_drift 41 = .ok (.ireturn, 1) := by decide +kernel
theorem dX9_drift_42 : decode cX9_drift 42 = .ok (.aload_n 0, 1) := by decide +kernel
theorem dX9_drift_43 : decode cX9_drift 43 = .ok (.getfield 54, 3) := by decide +kernel
theorem dX9_drift_46 : decode cX9_drift 46 = .ok (.iload_n 1, 1) := by decide +kernel
theorem dX9_drift_47 : decode cX9_drift 47 = .ok (.iaload, 1) := by decide +kernel
theorem dX9_drift_48 : decode cX9_drift 48 = .ok (.istore_n 3, 1) := by decide +kernel
theorem dX9_drift_49 : decode cX9_drift 49 = .ok (.aload_n 0, 1) := by decide +kernel
theorem dX9_drift_50 : decode cX9_drift 50 = .ok (.getfield 54, 3) := by decide +kernel
theorem dX9_drift_53 : decode cX9_drift 53 = .ok (.iload_n 1, 1) := by decide +kernel
theorem dX9_drift_54 : decode cX9_drift 54 = .ok (.iload_n 2, 1) := by decide +kernel
theorem dX9_drift_55 : decode cX9_drift 55 = .ok (.iastore, 1) := by decide +kernel
theorem dX9_drift_56 : decode cX9_drift 56 = .ok (.iload_n 3, 1) := by decide +kernel
theorem dX9_drift_57 : decode cX9_drift 57 = .ok (.ireturn, 1) := by decide +kernel
set_option maxRecDepth 20000 in
theorem ggX9_lie_X9_isThree : GoodIn wsX9_lie wsX9_isThree := goodIn_r _ [6, 7, 8, 5, 9] (by decide +kernel) (by decide +kernel)
set_option maxRecDepth 20000 in
theorem gX9_lie_X9_isThree : GoodIn wsX9_lie (va_wsS RX9 155 yX9_isThree wsX9_isThree) := goodIn_app (goodIn_of _ (by decide +kernel)) ggX9_lie_X9_isThree
set_option maxRecDepth 20000 in
theorem ggX9_lie_X9_isOut : GoodIn wsX9_lie wsX9_isOut := goodIn_r _ [13, 1, 14, 15, 16, 17, 18, 19, 20, 21, 22, 23, 24, 25, 26, 27, 28, 29, 30, 31, 32, 33, 34, 35, 36, 37, 38, 39, 40, 41, 42, 43, 44, 45, 46, 47, 48, 49, 50, 51, 52, 53, 54, 55, 56, 57] (by decide +kernel) (by decide +kernel)
set_option maxRecDepth 20000 in
theorem gX9_lie_X9_isOut : GoodIn wsX9_lie (wsV RX9 159 RX9 yX9_isOut wsX9_isOut) := goodIn_app (goodIn_of _ (by decide +kernel)) ggX9_lie_X9_isOut
set_option maxRecDepth 20000 in
theorem ggX9_lie_X9_in : GoodIn wsX9_lie wsX9_in := goodIn_r _ [9] (by decide +kernel) (by decide +kernel)
set_option maxRecDepth 20000 in
theorem gX9_lie_X9_in : GoodIn wsX9_lie (va_wsS RX9 141 yX9_in wsX9_in) := goodIn_app (goodIn_of _ (by decide +kernel)) ggX9_lie_X9_in
theorem dX9_lie_0 : decode cX9_lie 0 = .ok (.aload_n 0, 1) := by decide +kernel
theorem dX9_lie_1 : decode cX9_lie 1 = .ok (.iload_n 1, 1) := by decide +kernel
theorem dX9_lie_2 : decode cX9_lie 2 = .ok (.invokestatic 155, 3) := by decide +kernel
theorem dX9_lie_5 : decode cX9_lie 5 = .ok (.ifCond .eq 14, 3) := by decide +kernel
theorem dX9_lie_8 : decode cX9_lie 8 = .ok (.iload_n 2, 1) := by decide +kernel
theorem dX9_lie_9 : decode cX9_lie 9 = .ok (.invokestatic 155, 3) := by decide +kernel
theorem dX9_lie_12 : decode cX9_lie 12 = .ok (.ifCond .eq 7, 3) := by decide +kernel
theorem dX9_lie_15 : decode cX9_lie 15 = .ok (.iconst 1, 1) := by decide +kernel
theorem dX9_lie_16 : decode cX9_lie 16 = .ok (.goto 4, 3) := by decide +kernel
theorem dX9_lie_19 : decode cX9_lie 19 = .ok (.iconst 0, 1) := by decide +kernel
theorem dX9_lie_20 : decode cX9_lie 20 = .ok (.invokevirtual 159, 3) := by decide +kernel
theorem dX9_lie_23 : decode cX9_lie 23 = .ok (.ifCond .eq 5, 3) := by decide +kernel
theorem dX9_lie_26 : decode cX9_lie 26 = .ok (.iconst 0, 1) := by decide +kernel
theorem dX9_lie_27 : decode cX9_lie 27 = .ok (.ireturn, 1) := by decide +kernel
theorem dX9_lie_28 : decode cX9_lie 28 = .ok (.aload_n 0, 1) := by decide +kernel
theorem dX9_lie_29 : decode cX9_lie 29 = .ok (.iload_n 1, 1) := by decide +kernel
theorem dX9_lie_30 : decode cX9_lie 30 = .ok (.iload_n 2, 1) := by decide +kernel
theorem dX9_lie_31 : decode cX9_lie 31 = .ok (.if_icmp .eq 20, 3) := by decide +kernel
theorem dX9_lie_34 : decode cX9_lie 34 = .ok (.iload_n 3, 1) := by decide +kernel
theorem dX9_lie_35 : decode cX9_lie 35 = .ok (.sipush (-999), 3) := by decide +kernel
theorem dX9_lie_38 : decode cX9_lie 38 = .ok (.sipush 999, 3) := by decide +kernel
theorem dX9_lie_41 : decode cX9_lie 41 = .ok (.invokestatic 141, 3) := by decide +kernel
theorem dX9_lie_44 : decode cX9_lie 44 = .ok (.ifCond .eq 7, 3) := by decide +kernel
theorem dX9_lie_47 : decode cX9_lie 47 = .ok (.iconst 0, 1) := by decide +kernel
theorem dX9_lie_48 : decode cX9_lie 48 = .ok (.goto 4, 3) := by decide +kernel
theorem dX9_lie_51 : decode cX9_lie 51 = .ok (.iconst 2, 1) := by decide +kernel
theorem dX9_lie_52 : decode cX9_lie 52 = .ok (.putfield 130, 3) := by decide +kernel
theorem dX9_lie_55 : decode cX9_lie 55 = .ok (.aload_n 0, 1) := by decide +kernel
theorem dX9_lie_56 : decode cX9_lie 56 = .ok (.getfield 130, 3) := by decide +kernel
theorem dX9_lie_59 : decode cX9_lie 59 = .ok (.ifCond .le 5, 3) := by decide +kernel
theorem dX9_lie_62 : decode cX9_lie 62 = .ok (.iconst 0, 1) := by decide +kernel
theorem dX9_lie_63 : decode cX9_lie 63 = .ok (.ireturn, 1) := by decide +kernel
theorem dX9_lie_64 : decode cX9_lie 64 = .ok (.aload_n 0, 1) := by decide +kernel
theorem dX9_lie_65 : decode cX9_lie 65 = .ok (.getfield 96, 3) := by decide +kernel
theorem dX9_lie_68 : decode cX9_lie 68 = .ok (.iload_n 1, 1) := by decide +kernel
theorem dX9_lie_69 : decode cX9_lie 69 = .ok (.iconst 3, 1) := by decide +kernel
theorem dX9_lie_70 : decode cX9_lie 70 = .ok (.imul, 1) := by decide +kernel
theorem dX9_lie_71 : decode cX9_lie 71 = .ok (.iload_n 2, 1) := by decide +kernel
theorem dX9_lie_72 : decode cX9_lie 72 = .ok (.iadd, 1) := by decide +kernel
theorem dX9_lie_73 : decode cX9_lie 73 = .ok (.iaload, 1) := by decide +kernel
theorem dX9_lie_74 : decode cX9_lie 74 = .ok (.istore 4, 2) := by decide +kernel
theorem dX9_lie_76 : decode cX9_lie 76 = .ok (.aload_n 0, 1) := by decide +kernel
theorem dX9_lie_77 : decode cX9_lie 77 = .ok (.getfield 96, 3) := by decide +kernel
theorem dX9_lie_80 : decode cX9_lie 80 = .ok (.iload_n 1, 1) := by decide +kernel
theorem dX9_lie_81 : decode cX9_lie 81 = .ok (.iconst 3, 1) := by decide +kernel
theorem dX9_lie_82 : decode cX9_lie 82 = .ok (.imul, 1) := by decide +kernel
theorem dX9_lie_83 : decode cX9_lie 83 = .ok (.iload_n 2, 1) := by decide +kernel
theorem dX9_lie_84 : decode cX9_lie 84 = .ok (.iadd, 1) := by decide +kernel
theorem dX9_lie_85 : decode cX9_lie 85 = .ok (.iload_n 3, 1) := by decide +kernel
theorem dX9_lie_86 : decode cX9_lie 86 = .ok (.iastore, 1) := by decide +kernel
theorem dX9_lie_87 : decode cX9_lie 87 = .ok (.iload 4, 2) := by decide +kernel
theorem dX9_lie_89 : decode cX9_lie 89 = .ok (.ireturn, 1) := by decide +kernel
set_option maxRecDepth 20000 in
theorem ggX9_clock_X9_isThree : GoodIn wsX9_clock wsX9_isThree := goodIn_r _ [5, 6, 7, 4, 8] (by decide +kernel) (by decide +kernel)
set_option maxRecDepth 20000 in
theorem gX9_clock_X9_isThree : GoodIn wsX9_clock (va_wsS RX9 155 yX9_isThree wsX9_isThree) := goodIn_app (goodIn_of _ (by decide +kernel)) ggX9_clock_X9_isThree
set_option maxRecDepth 20000 in
theorem ggX9_clock_X9_isOut : GoodIn wsX9_clock wsX9_isOut := goodIn_r _ [12, 13, 14, 15, 16, 17, 18, 19, 20, 21, 22, 23, 24, 25, 26, 27, 28, 29, 30, 31, 32, 33, 34, 35, 36, 37, 38, 39, 40, 41, 42, 43, 44, 45, 46, 47, 48, 49, 50, 51, 52, 53, 54, 55, 56, 57] (by decide +kernel) (by decide +kernel)
set_option maxRecDepth 20000 in
theorem gX9_clock_X9_isOut : GoodIn wsX9_clock (wsV RX9 159 RX9 yX9_isOut wsX9_isOut) := goodIn_app (goodIn_of _ (by decide +kernel)) ggX9_clock_X9_isOut
theorem dX9_clock_0 : decode cX9_clock 0 = .ok (.aload_n 0, 1) := by decide +kernel
theorem dX9_clock_1 : decode cX9_clock 1 = .ok (.iload_n 1, 1) := by decide +kernel
theorem dX9_clock_2 : decode cX9_clock 2 = .ok (.invokestatic 155, 3) := by decide +kernel
theorem dX9_clock_5 : decode cX9_clock 5 = .ok (.invokevirtual 159, 3) := by decide +kernel
theorem dX9_clock_8 : decode cX9_clock 8 = .ok (.ifCond .eq 7, 3) := by decide +kernel
theorem dX9_clock_11 : decode cX9_clock 11 = .ok (.iconst 0, 1) := by decide +kernel
theorem dX9_clock_12 : decode cX9_clock 12 = .ok (.goto 9, 3) := by decide +kernel
theorem dX9_clock_15 : decode cX9_clock 15 = .ok (.aload_n 0, 1) := by decide +kernel
theorem dX9_clock_16 : decode cX9_clock 16 = .ok (.getfield 48, 3) := by decide +kernel
theorem dX9_clock_19 : decode cX9_clock 19 = .ok (.iload_n 1, 1) := by decide +kernel
theorem dX9_clock_20 : decode cX9_clock 20 = .ok (.iaload, 1) := by decide +kernel
theorem dX9_clock_21 : decode cX9_clock 21 = .ok (.ireturn, 1) := by decide +kernel
set_option maxRecDepth 20000 in
theorem ggX9_save_X9_isThree : GoodIn wsX9_save wsX9_isThree := goodIn_r _ [9, 10, 11, 8, 12] (by decide +kernel) (by decide +kernel)
set_option maxRecDepth 20000 in
theorem gX9_save_X9_isThree : GoodIn wsX9_save (va_wsS RX9 155 yX9_isThree wsX9_isThree) := goodIn_app (goodIn_of _ (by decide +kernel)) ggX9_save_X9_isThree
set_option maxRecDepth 20000 in
theorem ggX9_save_X9_isOut : GoodIn wsX9_save wsX9_isOut := goodIn_r _ [16, 1, 22, 23, 24, 25, 26, 27, 28, 29, 30, 31, 32, 33, 34, 35, 36, 37, 38, 39, 40, 41, 42, 43, 44, 45, 46, 47, 48, 49, 50, 51, 52, 53, 54, 55, 56, 57, 58, 59, 60, 61, 62, 63, 64, 65] (by decide +kernel) (by decide +kernel)
set_option maxRecDepth 20000 in
theorem gX9_save_X9_isOut : GoodIn wsX9_save (wsV RX9 159 RX9 yX9_isOut wsX9_isOut) := goodIn_app (goodIn_of _ (by decide +kernel)) ggX9_save_X9_isOut
set_option maxRecDepth 20000 in
theorem ggX9_save_X9_lowest : GoodIn wsX9_save wsX9_lowest := goodIn_r _ [20, 21, 22, 23, 24, 25, 26, 27, 28, 29, 30, 31, 32, 33, 34, 35, 36, 37, 38, 39, 40, 41, 42, 43, 44, 45, 46, 47, 48, 49, 50, 51, 52, 53, 54, 55, 56, 57, 58, 59, 60, 61, 62, 63, 64, 65] (by decide +kernel) (by decide +kernel)
set_option maxRecDepth 20000 in
theorem gX9_save_X9_lowest : GoodIn wsX9_save (wsV RX9 195 RX9 yX9_lowest wsX9_lowest) := goodIn_app (goodIn_of _ (by decide +kernel)) ggX9_save_X9_lowest
theorem dX9_save_0 : decode cX9_save 0 = .ok (.aload_n 0, 1) := by decide +kernel
theorem dX9_save_1 : decode cX9_save 1 = .ok (.iload_n 1, 1) := by decide +kernel
theorem dX9_save_2 : decode cX9_save 2 = .ok (.invokestatic 155, 3) := by decide +kernel
theorem dX9_save_5 : decode cX9_save 5 = .ok (.invokevirtual 159, 3) := by decide +kernel
theorem dX9_save_8 : decode cX9_save 8 = .ok (.ifCond .eq 5, 3) := by decide +kernel
theorem dX9_save_11 : decode cX9_save 11 = .ok (.iconst 0, 1) := by decide +kernel
theorem dX9_save_12 : decode cX9_save 12 = .ok (.ireturn, 1) := by decide +kernel
theorem dX9_save_13 : decode cX9_save 13 = .ok (.aload_n 0, 1) := by decide +kernel
theorem dX9_save_14 : decode cX9_save 14 = .ok (.invokevirtual 195, 3) := by decide +kernel
theorem dX9_save_17 : decode cX9_save 17 = .ok (.istore_n 3, 1) := by decide +kernel
theorem dX9_save_18 : decode cX9_save 18 = .ok (.aload_n 0, 1) := by decide +kernel
theorem dX9_save_19 : decode cX9_save 19 = .ok (.iload_n 3, 1) := by decide +kernel
theorem dX9_save_20 : decode cX9_save 20 = .ok (.iconst (-1), 1) := by decide +kernel
theorem dX9_save_21 : decode cX9_save 21 = .ok (.if_icmp .ne 7, 3) := by decide +kernel
theorem dX9_save_24 : decode cX9_save 24 = .ok (.iconst 2, 1) := by decide +kernel
theorem dX9_save_25 : decode cX9_save 25 = .ok (.goto 4, 3) := by decide +kernel
theorem dX9_save_28 : decode cX9_save 28 = .ok (.iconst 0, 1) := by decide +kernel
theorem dX9_save_29 : decode cX9_save 29 = .ok (.putfield 130, 3) := by decide +kernel
theorem dX9_save_32 : decode cX9_save 32 = .ok (.aload_n 0, 1) := by decide +kernel
theorem dX9_save_33 : decode cX9_save 33 = .ok (.getfield 130, 3) := by decide +kernel
theorem dX9_save_36 : decode cX9_save 36 = .ok (.ifCond .le 5, 3) := by decide +kernel
theorem dX9_save_39 : decode cX9_save 39 = .ok (.iconst 0, 1) := by decide +kernel
theorem dX9_save_40 : decode cX9_save 40 = .ok (.ireturn, 1) := by decide +kernel
theorem dX9_save_41 : decode cX9_save 41 = .ok (.aload_n 0, 1) := by decide +kernel
theorem dX9_save_42 : decode cX9_save 42 = .ok (.getfield 105, 3) := by decide +kernel
theorem dX9_save_45 : decode cX9_save 45 = .ok (.iload_n 1, 1) := by decide +kernel
theorem dX9_save_46 : decode cX9_save 46 = .ok (.iaload, 1) := by decide +kernel
theorem dX9_save_47 : decode cX9_save 47 = .ok (.iconst 1, 1) := by decide +kernel
theorem dX9_save_48 : decode cX9_save 48 = .ok (.if_icmp .ne 7, 3) := by decide +kernel
theorem dX9_save_51 : decode cX9_save 51 = .ok (.iconst 1, 1) := by decide +kernel
theorem dX9_save_52 : decode cX9_save 52 = .ok (.goto 4, 3) := by decide +kernel
theorem dX9_save_55 : decode cX9_save 55 = .ok (.iconst 0, 1) := by decide +kernel
theorem dX9_save_56 : decode cX9_save 56 = .ok (.istore 4, 2) := by decide +kernel
theorem dX9_save_58 : decode cX9_save 58 = .ok (.iconst 0, 1) := by decide +kernel
theorem dX9_save_59 : decode cX9_save 59 = .ok (.istore 5, 2) := by decide +kernel
theorem dX9_save_61 : decode cX9_save 61 = .ok (.iload 5, 2) := by decide +kernel
theorem dX9_save_63 : decode cX9_save 63 = .ok (.bipush 6, 2) := by decide +kernel
theorem dX9_save_65 : decode cX9_save 65 = .ok (.if_icmp .ge 44, 3) := by decide +kernel
theorem dX9_save_68 : decode cX9_save 68 = .ok (.aload_n 0, 1) := by decide +kernel
theorem dX9_save_69 : decode cX9_save 69 = .ok (.getfield 99, 3) := by decide +kernel
theorem dX9_save_72 : decode cX9_save 72 = .ok (.iload 4, 2) := by decide +kernel
theorem dX9_save_74 : decode cX9_save 74 = .ok (.bipush 18, 2) := by decide +kernel
theorem dX9_save_76 : decode cX9_save 76 = .ok (.imul, 1) := by decide +kernel
theorem dX9_save_77 : decode cX9_save 77 = .ok (.iload_n 1, 1) := by decide +kernel
theorem dX9_save_78 : decode cX9_save 78 = .ok (.bipush 6, 2) := by decide +kernel
theorem dX9_save_80 : decode cX9_save 80 = .ok (.imul, 1) := by decide +kernel
theorem dX9_save_81 : decode cX9_save 81 = .ok (.iadd, 1) := by decide +kernel
theorem dX9_save_82 : decode cX9_save 82 = .ok (.iload 5, 2) := by decide +kernel
theorem dX9_save_84 : decode cX9_save 84 = .ok (.iadd, 1) := by decide +kernel
theorem dX9_save_85 : decode cX9_save 85 = .ok (.aload_n 0, 1) := by decide +kernel
theorem dX9_save_86 : decode cX9_save 86 = .ok (.getfield 26, 3) := by decide +kernel
theorem dX9_save_89 : decode cX9_save 89 = .ok (.iload_n 3, 1) := by decide +kernel
theorem dX9_save_90 : decode cX9_save 90 = .ok (.bipush 18, 2) := by decide +kernel
theorem dX9_save_92 : decode cX9_save 92 = .ok (.imul, 1) := by decide +kernel
theorem dX9_save_93 : decode cX9_save 93 = .ok (.iload_n 1, 1) := by decide +kernel
theorem dX9_save_94 : decode cX9_save 94 = .ok (.bipush 6, 2) := by decide +kernel
theorem dX9_save_96 : decode cX9_save 96 = .ok (.imul, 1) := by decide +kernel
theorem dX9_save_97 : decode cX9_save 97 = .ok (.iadd, 1) := by decide +kernel
theorem dX9_save_98 : decode cX9_save 98 = .ok (.iload 5, 2) := by decide +kernel
theorem dX9_save_100 : decode cX9_save 100 = .ok (.iadd, 1) := by decide +kernel
theorem dX9_save_101 : decode cX9_save 101 = .ok (.iaload, 1) := by decide +kernel
theorem dX9_save_102 : decode cX9_save 102 = .ok (.iastore, 1) := by decide +kernel
theorem dX9_save_103 : decode cX9_save 103 = .ok (.iinc 5 1, 3) := by decide +kernel
theorem dX9_save_106 : decode cX9_save 106 = .ok (.goto (-45), 3) := by decide +kernel
theorem dX9_save_109 : decode cX9_save 109 = .ok (.aload_n 0, 1) := by decide +kernel
theorem dX9_save_110 : decode cX9_save 110 = .ok (.getfield 102, 3) := by decide +kernel
theorem dX9_save_113 : decode cX9_save 113 = .ok (.iload 4, 2) := by decide +kernel
theorem dX9_save_115 : decode cX9_save 115 = .ok (.iconst 3, 1) := by decide +kernel
theorem dX9_save_116 : decode cX9_save 116 = .ok (.imul, 1) := by decide +kernel
theorem dX9_save_117 : decode cX9_save 117 = .ok (.iload_n 1, 1) := by decide +kernel
theorem dX9_save_118 : decode cX9_save 118 = .ok (.iadd, 1) := by decide +kernel
theorem dX9_save_119 : decode cX9_save 119 = .ok (.iload_n 2, 1) := by decide +kernel
theorem dX9_save_120 : decode cX9_save 120 = .ok (.ifCond .ne 7, 3) := by decide +kernel
theorem dX9_save_123 : decode cX9_save 123 = .ok (.iconst 1, 1) := by decide +kernel
theorem dX9_save_124 : decode cX9_save 124 = .ok (.goto 4, 3) := by decide +kernel
theorem dX9_save_127 : decode cX9_save 127 = .ok (.iconst 0, 1) := by decide +kernel
theorem dX9_save_128 : decode cX9_save 128 = .ok (.bastore, 1) := by decide +kernel
theorem dX9_save_129 : decode cX9_save 129 = .ok (.aload_n 0, 1) := by decide +kernel
theorem dX9_save_130 : decode cX9_save 130 = .ok (.getfield 105, 3) := by decide +kernel
theorem dX9_save_133 : decode cX9_save 133 = .ok (.iload_n 1, 1) := by decide +kernel
theorem dX9_save_134 : decode cX9_save 134 = .ok (.iload_n 2, 1) := by decide +kernel
theorem dX9_save_135 : decode cX9_save 135 = .ok (.ifCond .eq 12, 3) := by decide +kernel
theorem dX9_save_138 : decode cX9_save 138 = .ok (.aload_n 0, 1) := by decide +kernel
theorem dX9_save_139 : decode cX9_save 139 = .ok (.getfield 105, 3) := by decide +kernel
theorem dX9_save_142 : decode cX9_save 142 = .ok (.iload_n 1, 1) := by decide +kernel
theorem dX9_save_143 : decode cX9_save 143 = .ok (.iaload, 1) := by decide +kernel
theorem dX9_save_144 : decode cX9_save 144 = .ok (.goto 7, 3) := by decide +kernel
theorem dX9_save_147 : decode cX9_save 147 = .ok (.iload 4, 2) := by decide +kernel
theorem dX9_save_149 : decode cX9_save 149 = .ok (.iconst 1, 1) := by decide +kernel
theorem dX9_save_150 : decode cX9_save 150 = .ok (.iadd, 1) := by decide +kernel
theorem dX9_save_151 : decode cX9_save 151 = .ok (.iastore, 1) := by decide +kernel
theorem dX9_save_152 : decode cX9_save 152 = .ok (.aload_n 0, 1) := by decide +kernel
theorem dX9_save_153 : decode cX9_save 153 = .ok (.getfield 102, 3) := by decide +kernel
theorem dX9_save_156 : decode cX9_save 156 = .ok (.iload_n 1, 1) := by decide +kernel
theorem dX9_save_157 : decode cX9_save 157 = .ok (.baload, 1) := by decide +kernel
theorem dX9_save_158 : decode cX9_save 158 = .ok (.ifCond .eq 7, 3) := by decide +kernel
theorem dX9_save_161 : decode cX9_save 161 = .ok (.iconst 1, 1) := by decide +kernel
theorem dX9_save_162 : decode cX9_save 162 = .ok (.goto 4, 3) := by decide +kernel
theorem dX9_save_165 : decode cX9_save 165 = .ok (.iconst 0, 1) := by decide +kernel
theorem dX9_save_166 : decode cX9_save 166 = .ok (.aload_n 0, 1) := by decide +kernel
theorem dX9_save_167 : decode cX9_save 167 = .ok (.getfield 102, 3) := by decide +kernel
theorem dX9_save_170 : decode cX9_save 170 = .ok (.iconst 3, 1) := by decide +kernel
theorem dX9_save_171 : decode cX9_save 171 = .ok (.iload_n 1, 1) := by decide +kernel
theorem dX9_save_172 : decode cX9_save 172 = .ok (.iadd, 1) := by decide +kernel
theorem dX9_save_173 : decode cX9_save 173 = .ok (.baload, 1) := by decide +kernel
theorem dX9_save_174 : decode cX9_save 174 = .ok (.ifCond .eq 7, 3) := by decide +kernel
theorem dX9_save_177 : decode cX9_save 177 = .ok (.iconst 1, 1) := by decide +kernel
theorem dX9_save_178 : decode cX9_save 178 = .ok (.goto 4, 3) := by decide +kernel
theorem dX9_save_181 : decode cX9_save 181 = .ok (.iconst 0, 1) := by decide +kernel
theorem dX9_save_182 : decode cX9_save 182 = .ok (.iadd, 1) := by decide +kernel
theorem dX9_save_183 : decode cX9_save 183 = .ok (.ireturn, 1) := by decide +kernel
set_option maxRecDepth 20000 in
theorem ggX9_load_X9_isThree : GoodIn wsX9_load wsX9_isThree := goodIn_r _ [10, 11, 12, 9, 13] (by decide +kernel) (by decide +kernel)
set_option maxRecDepth 20000 in
theorem gX9_load_X9_isThree : GoodIn wsX9_load (va_wsS RX9 155 yX9_isThree wsX9_isThree) := goodIn_app (goodIn_of _ (by decide +kernel)) ggX9_load_X9_isThree
set_option maxRecDepth 20000 in
theorem ggX9_load_X9_isOut : GoodIn wsX9_load wsX9_isOut := goodIn_r _ [17, 2, 18, 19, 20, 21, 22, 23, 24, 25, 26, 27, 28, 29, 30, 31, 32, 33, 34, 35, 36, 37, 38, 39, 40, 41, 42, 43, 44, 45, 46, 47, 48, 49, 50, 51, 52, 53, 54, 55, 56, 57, 58, 59, 60, 61] (by decide +kernel) (by decide +kernel)
set_option maxRecDepth 20000 in
theorem gX9_load_X9_isOut : GoodIn wsX9_load (wsV RX9 159 RX9 yX9_isOut wsX9_isOut) := goodIn_app (goodIn_of _ (by decide +kernel)) ggX9_load_X9_isOut
theorem dX9_load_0 : decode cX9_load 0 = .ok (.aload_n 0, 1) := by decide +kernel
theorem dX9_load_1 : decode cX9_load 1 = .ok (.iload_n 1, 1) := by decide +kernel
theorem dX9_load_2 : decode cX9_load 2 = .ok (.invokestatic 155, 3) := by decide +kernel
theorem dX9_load_5 : decode cX9_load 5 = .ok (.invokevirtual 159, 3) := by decide +kernel
theorem dX9_load_8 : decode cX9_load 8 = .ok (.ifCond .eq 5, 3) := by decide +kernel
theorem dX9_load_11 : decode cX9_load 11 = .ok (.iconst 0, 1) := by decide +kernel
theorem dX9_load_12 : decode cX9_load 12 = .ok (.ireturn, 1) := by decide +kernel
theorem dX9_load_13 : decode cX9_load 13 = .ok (.aload_n 0, 1) := by decide +kernel
theorem dX9_load_14 : decode cX9_load 14 = .ok (.aload_n 0, 1) := by decide +kernel
theorem dX9_load_15 : decode cX9_load 15 = .ok (.getfield 105, 3) := by decide +kernel
theorem dX9_load_18 : decode cX9_load 18 = .ok (.iload_n 1, 1) := by decide +kernel
theorem dX9_load_19 : decode cX9_load 19 = .ok (.iaload, 1) := by decide +kernel
theorem dX9_load_20 : decode cX9_load 20 = .ok (.ifCond .ne 7, 3) := by decide +kernel
theorem dX9_load_23 : decode cX9_load 23 = .ok (.iconst 2, 1) := by decide +kernel
theorem dX9_load_24 : decode cX9_load 24 = .ok (.goto 4, 3) := by decide +kernel
theorem dX9_load_27 : decode cX9_load 27 = .ok (.iconst 0, 1) := by decide +kernel
theorem dX9_load_28 : decode cX9_load 28 = .ok (.putfield 130, 3) := by decide +kernel
theorem dX9_load_31 : decode cX9_load 31 = .ok (.aload_n 0, 1) := by decide +kernel
theorem dX9_load_32 : decode cX9_load 32 = .ok (.getfield 130, 3) := by decide +kernel
theorem dX9_load_35 : decode cX9_load 35 = .ok (.ifCond .le 5, 3) := by decide +kernel
theorem dX9_load_38 : decode cX9_load 38 = .ok (.iconst 0, 1) := by decide +kernel
theorem dX9_load_39 : decode cX9_load 39 = .ok (.ireturn, 1) := by decide +kernel
theorem dX9_load_40 : decode cX9_load 40 = .ok (.aload_n 0, 1) := by decide +kernel
theorem dX9_load_41 : decode cX9_load 41 = .ok (.getfield 105, 3) := by decide +kernel
theorem dX9_load_44 : decode cX9_load 44 = .ok (.iload_n 1, 1) := by decide +kernel
theorem dX9_load_45 : decode cX9_load 45 = .ok (.iaload, 1) := by decide +kernel
theorem dX9_load_46 : decode cX9_load 46 = .ok (.iconst 1, 1) := by decide +kernel
theorem dX9_load_47 : decode cX9_load 47 = .ok (.isub, 1) := by decide +kernel
theorem dX9_load_48 : decode cX9_load 48 = .ok (.bipush 18, 2) := by decide +kernel
theorem dX9_load_50 : decode cX9_load 50 = .ok (.imul, 1) := by decide +kernel
theorem dX9_load_51 : decode cX9_load 51 = .ok (.iload_n 1, 1) := by decide +kernel
theorem dX9_load_52 : decode cX9_load 52 = .ok (.bipush 6, 2) := by decide +kernel
theorem dX9_load_54 : decode cX9_load 54 = .ok (.imul, 1) := by decide +kernel
theorem dX9_load_55 : decode cX9_load 55 = .ok (.iadd, 1) := by decide +kernel
theorem dX9_load_56 : decode cX9_load 56 = .ok (.istore_n 2, 1) := by decide +kernel
theorem dX9_load_57 : decode cX9_load 57 = .ok (.iconst 0, 1) := by decide +kernel
theorem dX9_load_58 : decode cX9_load 58 = .ok (.istore_n 3, 1) := by decide +kernel
theorem dX9_load_59 : decode cX9_load 59 = .ok (.iload_n 3, 1) := by decide +kernel
theorem dX9_load_60 : decode cX9_load 60 = .ok (.iconst 4, 1) := by decide +kernel
theorem dX9_load_61 : decode cX9_load 61 = .ok (.if_icmp .ge 78, 3) := by decide +kernel
theorem dX9_load_64 : decode cX9_load 64 = .ok (.iconst 0, 1) := by decide +kernel
theorem dX9_load_65 : decode cX9_load 65 = .ok (.istore 4, 2) := by decide +kernel
theorem dX9_load_67 : decode cX9_load 67 = .ok (.iload 4, 2) := by decide +kernel
theorem dX9_load_69 : decode cX9_load 69 = .ok (.bipush 6, 2) := by decide +kernel
theorem dX9_load_71 : decode cX9_load 71 = .ok (.if_icmp .ge 62, 3) := by decide +kernel
theorem dX9_load_74 : decode cX9_load 74 = .ok (.aload_n 0, 1) := by decide +kernel
theorem dX9_load_75 : decode cX9_load 75 = .ok (.getfield 38, 3) := by decide +kernel
theorem dX9_load_78 : decode cX9_load 78 = .ok (.iload_n 3, 1) := by decide +kernel
theorem dX9_load_79 : decode cX9_load 79 = .ok (.baload, 1) := by decide +kernel
theorem dX9_load_80 : decode cX9_load 80 = .ok (.ifCond .ne 53, 3) := by decide +kernel
theorem dX9_load_83 : decode cX9_load 83 = .ok (.aload_n 0, 1) := by decide +kernel
theorem dX9_load_84 : decode cX9_load 84 = .ok (.getfield 26, 3) := by decide +kernel
theorem dX9_load_87 : decode cX9_load 87 = .ok (.iload_n 3, 1) := by decide +kernel
theorem dX9_load_88 : decode cX9_load 88 = .ok (.bipush 18, 2) := by decide +kernel
theorem dX9_load_90 : decode cX9_load 90 = .ok (.imul, 1) := by decide +kernel
theorem dX9_load_91 : decode cX9_load 91 = .ok (.iload_n 1, 1) := by decide +kernel
theorem dX9_load_92 : decode cX9_load 92 = .ok (.bipush 6, 2) := by decide +kernel
theorem dX9_load_94 : decode cX9_load 94 = .ok (.imul, 1) := by decide +kernel
theorem dX9_load_95 : decode cX9_load 95 = .ok (.iadd, 1) := by decide +kernel
theorem dX9_load_96 : decode cX9_load 96 = .ok (.iload 4, 2) := by decide +kernel
theorem dX9_load_98 : decode cX9_load 98 = .ok (.iadd, 1) := by decide +kernel
theorem dX9_load_99 : decode cX9_load 99 = .ok (.aload_n 0, 1) := by decide +kernel
theorem dX9_load_100 : decode cX9_load 100 = .ok (.getfield 99, 3) := by decide +kernel
theorem dX9_load_103 : decode cX9_load 103 = .ok (.iload_n 2, 1) := by decide +kernel
theorem dX9_load_104 : decode cX9_load 104 = .ok (.iload 4, 2) := by decide +kernel
theorem dX9_load_106 : decode cX9_load 106 = .ok (.iadd, 1) := by decide +kernel
theorem dX9_load_107 : decode cX9_load 107 = .ok (.iaload, 1) := by decide +kernel
theorem dX9_load_108 : decode cX9_load 108 = .ok (.iastore, 1) := by decide +kernel
theorem dX9_load_109 : decode cX9_load 109 = .ok (.aload_n 0, 1) := by decide +kernel
theorem dX9_load_110 : decode cX9_load 110 = .ok (.getfield 29, 3) := by decide +kernel
theorem dX9_load_113 : decode cX9_load 113 = .ok (.iload_n 3, 1) := by decide +kernel
theorem dX9_load_114 : decode cX9_load 114 = .ok (.bipush 18, 2) := by decide +kernel
theorem dX9_load_116 : decode cX9_load 116 = .ok (.imul, 1) := by decide +kernel
theorem dX9_load_117 : decode cX9_load 117 = .ok (.iload_n 1, 1) := by decide +kernel
theorem dX9_load_118 : decode cX9_load 118 = .ok (.bipush 6, 2) := by decide +kernel
theorem dX9_load_120 : decode cX9_load 120 = .ok (.imul, 1) := by decide +kernel
theorem dX9_load_121 : decode cX9_load 121 = .ok (.iadd, 1) := by decide +kernel
theorem dX9_load_122 : decode cX9_load 122 = .ok (.iload 4, 2) := by decide +kernel
theorem dX9_load_124 : decode cX9_load 124 = .ok (.iadd, 1) := by decide +kernel
theorem dX9_load_125 : decode cX9_load 125 = .ok (.iconst 0, 1) := by decide +kernel
theorem dX9_load_126 : decode cX9_load 126 = .ok (.iastore, 1) := by decide +kernel
theorem dX9_load_127 : decode cX9_load 127 = .ok (.iinc 4 1, 3) := by decide +kernel
theorem dX9_load_130 : decode cX9_load 130 = .ok (.goto (-63), 3) := by decide +kernel
theorem dX9_load_133 : decode cX9_load 133 = .ok (.iinc 3 1, 3) := by decide +kernel
theorem dX9_load_136 : decode cX9_load 136 = .ok (.goto (-77), 3) := by decide +kernel
theorem dX9_load_139 : decode cX9_load 139 = .ok (.aload_n 0, 1) := by decide +kernel
theorem dX9_load_140 : decode cX9_load 140 = .ok (.getfield 99, 3) := by decide +kernel
theorem dX9_load_143 : decode cX9_load 143 = .ok (.iload_n 2, 1) := by decide +kernel
theorem dX9_load_144 : decode cX9_load 144 = .ok (.iaload, 1) := by decide +kernel
theorem dX9_load_145 : decode cX9_load 145 = .ok (.ireturn, 1) := by decide +kernel
set_option maxRecDepth 20000 in
theorem ggX9_fault_X9_isFour : GoodIn wsX9_fault wsX9_isFour := goodIn_r _ [6, 7, 8, 5, 9] (by decide +kernel) (by decide +kernel)
set_option maxRecDepth 20000 in
theorem gX9_fault_X9_isFour : GoodIn wsX9_fault (va_wsS RX9 167 yX9_isFour wsX9_isFour) := goodIn_app (goodIn_of _ (by decide +kernel)) ggX9_fault_X9_isFour
set_option maxRecDepth 20000 in
theorem ggX9_fault_X9_isThree : GoodIn wsX9_fault wsX9_isThree := goodIn_r _ [12, 7, 8, 5, 9] (by decide +kernel) (by decide +kernel)
set_option maxRecDepth 20000 in
theorem gX9_fault_X9_isThree : GoodIn wsX9_fault (va_wsS RX9 155 yX9_isThree wsX9_isThree) := goodIn_app (goodIn_of _ (by decide +kernel)) ggX9_fault_X9_isThree
set_option maxRecDepth 20000 in
theorem ggX9_fault_X9_isOut : GoodIn wsX9_fault wsX9_isOut := goodIn_r _ [16, 1, 17, 18, 19, 20, 21, 22, 23, 24, 25, 26, 27, 28, 29, 30, 31, 32, 33, 34, 35, 36, 37, 38, 39, 40, 41, 42, 43, 44, 45, 46, 47, 48, 49, 50, 51, 52, 53, 54, 55, 56, 57, 58, 59, 60] (by decide +kernel) (by decide +kernel)
set_option maxRecDepth 20000 in
theorem gX9_fault_X9_isOut : GoodIn wsX9_fault (wsV RX9 159 RX9 yX9_isOut wsX9_isOut) := goodIn_app (goodIn_of _ (by decide +kernel)) ggX9_fault_X9_isOut
set_option maxRecDepth 20000 in
theorem ggX9_fault_X9_in : GoodIn wsX9_fault wsX9_in := goodIn_r _ [9] (by decide +kernel) (by decide +kernel)
set_option maxRecDepth 20000 in
theorem gX9_fault_X9_in : GoodIn wsX9_fault (va_wsS RX9 141 yX9_in wsX9_in) := goodIn_app (goodIn_of _ (by decide +kernel)) ggX9_fault_X9_in
theorem dX9_fault_0 : decode cX9_fault 0 = .ok (.aload_n 0, 1) := by decide +kernel
theorem dX9_fault_1 : decode cX9_fault 1 = .ok (.iload_n 1, 1) := by decide +kernel
theorem dX9_fault_2 : decode cX9_fault 2 = .ok (.invokestatic 167, 3) := by decide +kernel
theorem dX9_fault_5 : decode cX9_fault 5 = .ok (.ifCond .eq 14, 3) := by decide +kernel
theorem dX9_fault_8 : decode cX9_fault 8 = .ok (.iload_n 2, 1) := by decide +kernel
theorem dX9_fault_9 : decode cX9_fault 9 = .ok (.invokestatic 155, 3) := by decide +kernel
theorem dX9_fault_12 : decode cX9_fault 12 = .ok (.ifCond .eq 7, 3) := by decide +kernel
theorem dX9_fault_15 : decode cX9_fault 15 = .ok (.iconst 1, 1) := by decide +kernel
theorem dX9_fault_16 : decode cX9_fault 16 = .ok (.goto 4, 3) := by decide +kernel
theorem dX9_fault_19 : decode cX9_fault 19 = .ok (.iconst 0, 1) := by decide +kernel
theorem dX9_fault_20 : decode cX9_fault 20 = .ok (.invokevirtual 159, 3) := by decide +kernel
theorem dX9_fault_23 : decode cX9_fault 23 = .ok (.ifCond .eq 5, 3) := by decide +kernel
theorem dX9_fault_26 : decode cX9_fault 26 = .ok (.iconst 0, 1) := by decide +kernel
theorem dX9_fault_27 : decode cX9_fault 27 = .ok (.ireturn, 1) := by decide +kernel
theorem dX9_fault_28 : decode cX9_fault 28 = .ok (.aload_n 0, 1) := by decide +kernel
theorem dX9_fault_29 : decode cX9_fault 29 = .ok (.iload_n 3, 1) := by decide +kernel
theorem dX9_fault_30 : decode cX9_fault 30 = .ok (.sipush (-999), 3) := by decide +kernel
theorem dX9_fault_33 : decode cX9_fault 33 = .ok (.sipush 999, 3) := by decide +kernel
theorem dX9_fault_36 : decode cX9_fault 36 = .ok (.invokestatic 141, 3) := by decide +kernel
theorem dX9_fault_39 : decode cX9_fault 39 = .ok (.ifCond .eq 7, 3) := by decide +kernel
theorem dX9_fault_42 : decode cX9_fault 42 = .ok (.iconst 0, 1) := by decide +kernel
theorem dX9_fault_43 : decode cX9_fault 43 = .ok (.goto 4, 3) := by decide +kernel
theorem dX9_fault_46 : decode cX9_fault 46 = .ok (.iconst 2, 1) := by decide +kernel
theorem dX9_fault_47 : decode cX9_fault 47 = .ok (.putfield 130, 3) := by decide +kernel
theorem dX9_fault_50 : decode cX9_fault 50 = .ok (.aload_n 0, 1) := by decide +kernel
theorem dX9_fault_51 : decode cX9_fault 51 = .ok (.getfield 130, 3) := by decide +kernel
theorem dX9_fault_54 : decode cX9_fault 54 = .ok (.ifCond .le 5, 3) := by decide +kernel
theorem dX9_fault_57 : decode cX9_fault 57 = .ok (.iconst 0, 1) := by decide +kernel
theorem dX9_fault_58 : decode cX9_fault 58 = .ok (.ireturn, 1) := by decide +kernel
theorem dX9_fault_59 : decode cX9_fault 59 = .ok (.aload_n 0, 1) := by decide +kernel
theorem dX9_fault_60 : decode cX9_fault 60 = .ok (.getfield 108, 3) := by decide +kernel
theorem dX9_fault_63 : decode cX9_fault 63 = .ok (.iload_n 1, 1) := by decide +kernel
theorem dX9_fault_64 : decode cX9_fault 64 = .ok (.iconst 3, 1) := by decide +kernel
theorem dX9_fault_65 : decode cX9_fault 65 = .ok (.imul, 1) := by decide +kernel
theorem dX9_fault_66 : decode cX9_fault 66 = .ok (.iload_n 2, 1) := by decide +kernel
theorem dX9_fault_67 : decode cX9_fault 67 = .ok (.iadd, 1) := by decide +kernel
theorem dX9_fault_68 : decode cX9_fault 68 = .ok (.iaload, 1) := by decide +kernel
theorem dX9_fault_69 : decode cX9_fault 69 = .ok (.istore 4, 2) := by decide +kernel
theorem dX9_fault_71 : decode cX9_fault 71 = .ok (.aload_n 0, 1) := by decide +kernel
theorem dX9_fault_72 : decode cX9_fault 72 = .ok (.getfield 108, 3) := by decide +kernel
theorem dX9_fault_75 : decode cX9_fault 75 = .ok (.iload_n 1, 1) := by decide +kernel
theorem dX9_fault_76 : decode cX9_fault 76 = .ok (.iconst 3, 1) := by decide +kernel
theorem dX9_fault_77 : decode cX9_fault 77 = .ok (.imul, 1) := by decide +kernel
theorem dX9_fault_78 : decode cX9_fault 78 = .ok (.iload_n 2, 1) := by decide +kernel
theorem dX9_fault_79 : decode cX9_fault 79 = .ok (.iadd, 1) := by decide +kernel
theorem dX9_fault_80 : decode cX9_fault 80 = .ok (.iload_n 3, 1) := by decide +kernel
theorem dX9_fault_81 : decode cX9_fault 81 = .ok (.iastore, 1) := by decide +kernel
theorem dX9_fault_82 : decode cX9_fault 82 = .ok (.iload 4, 2) := by decide +kernel
theorem dX9_fault_84 : decode cX9_fault 84 = .ok (.ireturn, 1) := by decide +kernel
set_option maxRecDepth 20000 in
theorem ggX9_position_X9_isFour : GoodIn wsX9_position wsX9_isFour := goodIn_r _ [5, 6, 7, 4, 8] (by decide +kernel) (by decide +kernel)
set_option maxRecDepth 20000 in
theorem gX9_position_X9_isFour : GoodIn wsX9_position (va_wsS RX9 167 yX9_isFour wsX9_isFour) := goodIn_app (goodIn_of _ (by decide +kernel)) ggX9_position_X9_isFour
set_option maxRecDepth 20000 in
theorem ggX9_position_X9_isOut : GoodIn wsX9_position wsX9_isOut := goodIn_r _ [12, 13, 14, 15, 16, 17, 18, 19, 20, 21, 22, 23, 24, 25, 26, 27, 28, 29, 30, 31, 32, 33, 34, 35, 36, 37, 38, 39, 40, 41, 42, 43, 44, 45, 46, 47, 48, 49, 50, 51, 52, 53, 54, 55, 56, 57] (by decide +kernel) (by decide +kernel)
set_option maxRecDepth 20000 in
theorem gX9_position_X9_isOut : GoodIn wsX9_position (wsV RX9 159 RX9 yX9_isOut wsX9_isOut) := goodIn_app (goodIn_of _ (by decide +kernel)) ggX9_position_X9_isOut
theorem dX9_position_0 : decode cX9_position 0 = .ok (.aload_n 0, 1) := by decide +kernel
theorem dX9_position_1 : decode cX9_position 1 = .ok (.iload_n 1, 1) := by decide +kernel
theorem dX9_position_2 : decode cX9_position 2 = .ok (.invokestatic 167, 3) := by decide +kernel
theorem dX9_position_5 : decode cX9_position 5 = .ok (.invokevirtual 159, 3) := by decide +kernel
theorem dX9_position_8 : decode cX9_position 8 = .ok (.ifCond .eq 7, 3) := by decide +kernel
theorem dX9_position_11 : decode cX9_position 11 = .ok (.iconst 0, 1) := by decide +kernel
theorem dX9_position_12 : decode cX9_position 12 = .ok (.goto 9, 3) := by decide +kernel
theorem dX9_position_15 : decode cX9_position 15 = .ok (.aload_n 0, 1) := by decide +kernel
theorem dX9_position_16 : decode cX9_position 16 = .ok (.getfield 111, 3) := by decide +kernel
theorem dX9_position_19 : decode cX9_position 19 = .ok (.iload_n 1, 1) := by decide +kernel
theorem dX9_position_20 : decode cX9_position 20 = .ok (.iaload, 1) := by decide +kernel
theorem dX9_position_21 : decode cX9_position 21 = .ok (.ireturn, 1) := by decide +kernel
set_option maxRecDepth 20000 in
theorem ggX9_hasLetGo_X9_isFour : GoodIn wsX9_hasLetGo wsX9_isFour := goodIn_r _ [5, 6, 7, 4, 8] (by decide +kernel) (by decide +kernel)
set_option maxRecDepth 20000 in
theorem gX9_hasLetGo_X9_isFour : GoodIn wsX9_hasLetGo (va_wsS RX9 167 yX9_isFour wsX9_isFour) := goodIn_app (goodIn_of _ (by decide +kernel)) ggX9_hasLetGo_X9_isFour
set_option maxRecDepth 20000 in
theorem ggX9_hasLetGo_X9_isOut : GoodIn wsX9_hasLetGo wsX9_isOut := goodIn_r _ [12, 13, 14, 15, 16, 17, 18, 19, 20, 21, 22, 23, 24, 25, 26, 27, 28, 29, 30, 31, 32, 33, 34, 35, 36, 37, 38, 39, 40, 41, 42, 43, 44, 45, 46, 47, 48, 49, 50, 51, 52, 53, 54, 55, 56, 57] (by decide +kernel) (by decide +kernel)
set_option maxRecDepth 20000 in
theorem gX9_hasLetGo_X9_isOut : GoodIn wsX9_hasLetGo (wsV RX9 159 RX9 yX9_isOut wsX9_isOut) := goodIn_app (goodIn_of _ (by decide +kernel)) ggX9_hasLetGo_X9_isOut
theorem dX9_hasLetGo_0 : decode cX9_hasLetGo 0 = .ok (.aload_n 0, 1) := by decide +kernel
theorem dX9_hasLetGo_1 : decode cX9_hasLetGo 1 = .ok (.iload_n 1, 1) := by decide +kernel
theorem dX9_hasLetGo_2 : decode cX9_hasLetGo 2 = .ok (.invokestatic 167, 3) := by decide +kernel
theorem dX9_hasLetGo_5 : decode cX9_hasLetGo 5 = .ok (.invokevirtual 159, 3) := by decide +kernel
theorem dX9_hasLetGo_8 : decode cX9_hasLetGo 8 = .ok (.ifCond .ne 16, 3) := by decide +kernel
theorem dX9_hasLetGo_11 : decode cX9_hasLetGo 11 = .ok (.aload_n 0, 1) := by decide +kernel
theorem dX9_hasLetGo_12 : decode cX9_hasLetGo 12 = .ok (.getfield 114, 3) := by decide +kernel
theorem dX9_hasLetGo_15 : decode cX9_hasLetGo 15 = .ok (.iload_n 1, 1) := by decide +kernel
theorem dX9_hasLetGo_16 : decode cX9_hasLetGo 16 = .ok (.baload, 1) := by decide +kernel
theorem dX9_hasLetGo_17 : decode cX9_hasLetGo 17 = .ok (.ifCond .eq 7, 3) := by decide +kernel
theorem dX9_hasLetGo_20 : decode cX9_hasLetGo 20 = .ok (.iconst 1, 1) := by decide +kernel
theorem dX9_hasLetGo_21 : decode cX9_hasLetGo 21 = .ok (.goto 4, 3) := by decide +kernel
theorem dX9_hasLetGo_24 : decode cX9_hasLetGo 24 = .ok (.iconst 0, 1) := by decide +kernel
theorem dX9_hasLetGo_25 : decode cX9_hasLetGo 25 = .ok (.ireturn, 1) := by decide +kernel
theorem dX9_isCommand_0 : decode cX9_isCommand 0 = .ok (.iload_n 0, 1) := by decide +kernel
theorem dX9_isCommand_1 : decode cX9_isCommand 1 = .ok (.bipush 109, 2) := by decide +kernel
theorem dX9_isCommand_3 : decode cX9_isCommand 3 = .ok (.if_icmp .eq 9, 3) := by decide +kernel
theorem dX9_isCommand_6 : decode cX9_isCommand 6 = .ok (.iload_n 0, 1) := by decide +kernel
theorem dX9_isCommand_7 : decode cX9_isCommand 7 = .ok (.bipush 97, 2) := by decide +kernel
theorem dX9_isCommand_9 : decode cX9_isCommand 9 = .ok (.if_icmp .ne 7, 3) := by decide +kernel
theorem dX9_isCommand_12 : decode cX9_isCommand 12 = .ok (.iconst 1, 1) := by decide +kernel
theorem dX9_isCommand_13 : decode cX9_isCommand 13 = .ok (.goto 4, 3) := by decide +kernel
theorem dX9_isCommand_16 : decode cX9_isCommand 16 = .ok (.iconst 0, 1) := by decide +kernel
theorem dX9_isCommand_17 : decode cX9_isCommand 17 = .ok (.ireturn, 1) := by decide +kernel
set_option maxRecDepth 20000 in
theorem ggX9_arm_X9_isCommand : GoodIn wsX9_arm wsX9_isCommand := goodIn_r _ [7] (by decide +kernel) (by decide +kernel)
set_option maxRecDepth 20000 in
theorem gX9_arm_X9_isCommand : GoodIn wsX9_arm (va_wsS RX9 240 yX9_isCommand wsX9_isCommand) := goodIn_app (goodIn_of _ (by decide +kernel)) ggX9_arm_X9_isCommand
set_option maxRecDepth 20000 in
theorem ggX9_arm_X9_isOut : GoodIn wsX9_arm wsX9_isOut := goodIn_r _ [11, 12, 13, 14, 15, 16, 17, 18, 19, 20, 21, 22, 23, 24, 25, 26, 27, 28, 29, 30, 31, 32, 33, 34, 35, 36, 37, 38, 39, 40, 41, 42, 43, 44, 45, 46, 47, 48, 49, 50, 51, 52, 53, 54, 55, 56] (by decide +kernel) (by decide +kernel)
set_option maxRecDepth 20000 in
theorem gX9_arm_X9_isOut : GoodIn wsX9_arm (wsV RX9 159 RX9 yX9_isOut wsX9_isOut) := goodIn_app (goodIn_of _ (by decide +kernel)) ggX9_arm_X9_isOut
theorem dX9_arm_0 : decode cX9_arm 0 = .ok (.aload_n 0, 1) := by decide +kernel
theorem dX9_arm_1 : decode cX9_arm 1 = .ok (.iload_n 1, 1) := by decide +kernel
theorem dX9_arm_2 : decode cX9_arm 2 = .ok (.invokestatic 240, 3) := by decide +kernel
theorem dX9_arm_5 : decode cX9_arm 5 = .ok (.invokevirtual 159, 3) := by decide +kernel
theorem dX9_arm_8 : decode cX9_arm 8 = .ok (.ifCond .eq 5, 3) := by decide +kernel
theorem dX9_arm_11 : decode cX9_arm 11 = .ok (.iconst 0, 1) := by decide +kernel
theorem dX9_arm_12 : decode cX9_arm 12 = .ok (.ireturn, 1) := by decide +kernel
theorem dX9_arm_13 : decode cX9_arm 13 = .ok (.aload_n 0, 1) := by decide +kernel
theorem dX9_arm_14 : decode cX9_arm 14 = .ok (.iload_n 1, 1) := by decide +kernel
theorem dX9_arm_15 : decode cX9_arm 15 = .ok (.putfield 117, 3) := by decide +kernel
theorem dX9_arm_18 : decode cX9_arm 18 = .ok (.aload_n 0, 1) := by decide +kernel
theorem dX9_arm_19 : decode cX9_arm 19 = .ok (.aload_n 0, 1) := by decide +kernel
theorem dX9_arm_20 : decode cX9_arm 20 = .ok (.getfield 148, 3) := by decide +kernel
theorem dX9_arm_23 : decode cX9_arm 23 = .ok (.iconst 3, 1) := by decide +kernel
theorem dX9_arm_24 : decode cX9_arm 24 = .ok (.iadd, 1) := by decide +kernel
theorem dX9_arm_25 : decode cX9_arm 25 = .ok (.putfield 244, 3) := by decide +kernel
theorem dX9_arm_28 : decode cX9_arm 28 = .ok (.aload_n 0, 1) := by decide +kernel
theorem dX9_arm_29 : decode cX9_arm 29 = .ok (.getfield 244, 3) := by decide +kernel
theorem dX9_arm_32 : decode cX9_arm 32 = .ok (.ireturn, 1) := by decide +kernel
set_option maxRecDepth 20000 in
theorem ggX9_give_X9_isCommand : GoodIn wsX9_give wsX9_isCommand := goodIn_r _ [10] (by decide +kernel) (by decide +kernel)
set_option maxRecDepth 20000 in
theorem gX9_give_X9_isCommand : GoodIn wsX9_give (va_wsS RX9 240 yX9_isCommand wsX9_isCommand) := goodIn_app (goodIn_of _ (by decide +kernel)) ggX9_give_X9_isCommand
set_option maxRecDepth 20000 in
theorem ggX9_give_X9_isOut : GoodIn wsX9_give wsX9_isOut := goodIn_r _ [14, 4, 15, 16, 17, 18, 19, 20, 21, 22, 23, 24, 25, 26, 27, 28, 29, 30, 31, 32, 33, 34, 35, 36, 37, 38, 39, 40, 41, 42, 43, 44, 45, 46, 47, 48, 49, 50, 51, 52, 53, 54, 55, 56, 57, 58] (by decide +kernel) (by decide +kernel)
set_option maxRecDepth 20000 in
theorem gX9_give_X9_isOut : GoodIn wsX9_give (wsV RX9 159 RX9 yX9_isOut wsX9_isOut) := goodIn_app (goodIn_of _ (by decide +kernel)) ggX9_give_X9_isOut
theorem dX9_give_0 : decode cX9_give 0 = .ok (.aload_n 0, 1) := by decide +kernel
theorem dX9_give_1 : decode cX9_give 1 = .ok (.iload_n 1, 1) := by decide +kernel
theorem dX9_give_2 : decode cX9_give 2 = .ok (.invokestatic 240, 3) := by decide +kernel
theorem dX9_give_5 : decode cX9_give 5 = .ok (.invokevirtual 159, 3) := by decide +kernel
theorem dX9_give_8 : decode cX9_give 8 = .ok (.ifCond .eq 5, 3) := by decide +kernel
theorem dX9_give_11 : decode cX9_give 11 = .ok (.iconst 0, 1) := by decide +kernel
theorem dX9_give_12 : decode cX9_give 12 = .ok (.ireturn, 1) := by decide +kernel
theorem dX9_give_13 : decode cX9_give 13 = .ok (.aload_n 0, 1) := by decide +kernel
theorem dX9_give_14 : decode cX9_give 14 = .ok (.aload_n 0, 1) := by decide +kernel
theorem dX9_give_15 : decode cX9_give 15 = .ok (.getfield 117, 3) := by decide +kernel
theorem dX9_give_18 : decode cX9_give 18 = .ok (.iload_n 1, 1) := by decide +kernel
theorem dX9_give_19 : decode cX9_give 19 = .ok (.if_icmp .ne 14, 3) := by decide +kernel
theorem dX9_give_22 : decode cX9_give 22 = .ok (.aload_n 0, 1) := by decide +kernel
theorem dX9_give_23 : decode cX9_give 23 = .ok (.getfield 148, 3) := by decide +kernel
theorem dX9_give_26 : decode cX9_give 26 = .ok (.aload_n 0, 1) := by decide +kernel
theorem dX9_give_27 : decode cX9_give 27 = .ok (.getfield 244, 3) := by decide +kernel
theorem dX9_give_30 : decode cX9_give 30 = .ok (.if_icmp .le 7, 3) := by decide +kernel
theorem dX9_give_33 : decode cX9_give 33 = .ok (.iconst 2, 1) := by decide +kernel
theorem dX9_give_34 : decode cX9_give 34 = .ok (.goto 4, 3) := by decide +kernel
theorem dX9_give_37 : decode cX9_give 37 = .ok (.iconst 0, 1) := by decide +kernel
theorem dX9_give_38 : decode cX9_give 38 = .ok (.putfield 130, 3) := by decide +kernel
theorem dX9_give_41 : decode cX9_give 41 = .ok (.aload_n 0, 1) := by decide +kernel
theorem dX9_give_42 : decode cX9_give 42 = .ok (.getfield 130, 3) := by decide +kernel
theorem dX9_give_45 : decode cX9_give 45 = .ok (.ifCond .le 5, 3) := by decide +kernel
theorem dX9_give_48 : decode cX9_give 48 = .ok (.iconst 0, 1) := by decide +kernel
theorem dX9_give_49 : decode cX9_give 49 = .ok (.ireturn, 1) := by decide +kernel
theorem dX9_give_50 : decode cX9_give 50 = .ok (.aload_n 0, 1) := by decide +kernel
theorem dX9_give_51 : decode cX9_give 51 = .ok (.bipush 32, 2) := by decide +kernel
theorem dX9_give_53 : decode cX9_give 53 = .ok (.putfield 117, 3) := by decide +kernel
theorem dX9_give_56 : decode cX9_give 56 = .ok (.iload_n 1, 1) := by decide +kernel
theorem dX9_give_57 : decode cX9_give 57 = .ok (.bipush 109, 2) := by decide +kernel
theorem dX9_give_59 : decode cX9_give 59 = .ok (.if_icmp .ne 18, 3) := by decide +kernel
theorem dX9_give_62 : decode cX9_give 62 = .ok (.aload_n 0, 1) := by decide +kernel
theorem dX9_give_63 : decode cX9_give 63 = .ok (.iconst 1, 1) := by decide +kernel
theorem dX9_give_64 : decode cX9_give 64 = .ok (.aload_n 0, 1) := by decide +kernel
theorem dX9_give_65 : decode cX9_give 65 = .ok (.getfield 222, 3) := by decide +kernel
theorem dX9_give_68 : decode cX9_give 68 = .ok (.isub, 1) := by decide +kernel
theorem dX9_give_69 : decode cX9_give 69 = .ok (.putfield 222, 3) := by decide +kernel
theorem dX9_give_72 : decode cX9_give 72 = .ok (.aload_n 0, 1) := by decide +kernel
theorem dX9_give_73 : decode cX9_give 73 = .ok (.getfield 222, 3) := by decide +kernel
theorem dX9_give_76 : decode cX9_give 76 = .ok (.ireturn, 1) := by decide +kernel
theorem dX9_give_77 : decode cX9_give 77 = .ok (.iconst 0, 1) := by decide +kernel
theorem dX9_give_78 : decode cX9_give 78 = .ok (.istore_n 2, 1) := by decide +kernel
theorem dX9_give_79 : decode cX9_give 79 = .ok (.iconst 0, 1) := by decide +kernel
theorem dX9_give_80 : decode cX9_give 80 = .ok (.istore_n 3, 1) := by decide +kernel
theorem dX9_give_81 : decode cX9_give 81 = .ok (.iload_n 3, 1) := by decide +kernel
theorem dX9_give_82 : decode cX9_give 82 = .ok (.iconst 4, 1) := by decide +kernel
theorem dX9_give_83 : decode cX9_give 83 = .ok (.if_icmp .ge 33, 3) := by decide +kernel
theorem dX9_give_86 : decode cX9_give 86 = .ok (.iload_n 2, 1) := by decide +kernel
theorem dX9_give_87 : decode cX9_give 87 = .ok (.aload_n 0, 1) := by decide +kernel
theorem dX9_give_88 : decode cX9_give 88 = .ok (.getfield 114, 3) := by decide +kernel
theorem dX9_give_91 : decode cX9_give 91 = .ok (.iload_n 3, 1) := by decide +kernel
theorem dX9_give_92 : decode cX9_give 92 = .ok (.baload, 1) := by decide +kernel
theorem dX9_give_93 : decode cX9_give 93 = .ok (.ifCond .eq 7, 3) := by decide +kernel
theorem dX9_give_96 : decode cX9_give 96 = .ok (.iconst 1, 1) := by decide +kernel
theorem dX9_give_97 : decode cX9_give 97 = .ok (.goto 4, 3) := by decide +kernel
theorem dX9_give_100 : decode cX9_give 100 = .ok (.iconst 0, 1) := by decide +kernel
theorem dX9_give_101 : decode cX9_give 101 = .ok (.iadd, 1) := by decide +kernel
theorem dX9_give_102 : decode cX9_give 102 = .ok (.istore_n 2, 1) := by decide +kernel
theorem dX9_give_103 : decode cX9_give 103 = .ok (.aload_n 0, 1) := by decide +kernel
theorem dX9_give_104 : decode cX9_give 104 = .ok (.getfield 114, 3) := by decide +kernel
theorem dX9_give_107 : decode cX9_give 107 = .ok (.iload_n 3, 1) := by decide +kernel
theorem dX9_give_108 : decode cX9_give 108 = .ok (.iconst 0, 1) := by decide +kernel
theorem dX9_give_109 : decode cX9_give 109 = .ok (.bastore, 1) := by decide +kernel
theorem dX9_give_110 : decode cX9_give 110 = .ok (.iinc 3 1, 3) := by decide +kernel
theorem dX9_give_113 : decode cX9_give 113 = .ok (.goto (-32), 3) := by decide +kernel
theorem dX9_give_116 : decode cX9_give 116 = .ok (.iload_n 2, 1) := by decide +kernel
theorem dX9_give_117 : decode cX9_give 117 = .ok (.ireturn, 1) := by decide +kernel
set_option maxRecDepth 20000 in
theorem ggX9_line_X9_isOut : GoodIn wsX9_line wsX9_isOut := goodIn_r _ [10, 2, 17, 18, 19, 20, 21, 22, 23, 24, 25, 26, 27, 28, 29, 30, 31, 32, 33, 34, 35, 36, 37, 38, 39, 40, 41, 42, 43, 44, 45, 46, 47, 48, 49, 50, 51, 52, 53, 54, 55, 56, 57, 58, 59, 60] (by decide +kernel) (by decide +kernel)
set_option maxRecDepth 20000 in
theorem gX9_line_X9_isOut : GoodIn wsX9_line (wsV RX9 159 RX9 yX9_isOut wsX9_isOut) := goodIn_app (goodIn_of _ (by decide +kernel)) ggX9_line_X9_isOut
set_option maxRecDepth 20000 in
theorem ggX9_line_X9_lesser : GoodIn wsX9_line wsX9_lesser := goodIn_r _ [13] (by decide +kernel) (by decide +kernel)
set_option maxRecDepth 20000 in
theorem gX9_line_X9_lesser : GoodIn wsX9_line (va_wsS RX9 134 yX9_lesser wsX9_lesser) := goodIn_app (goodIn_of _ (by decide +kernel)) ggX9_line_X9_lesser
set_option maxRecDepth 20000 in
theorem ggX9_line_X9_in : GoodIn wsX9_line wsX9_in := goodIn_r _ [16] (by decide +kernel) (by decide +kernel)
set_option maxRecDepth 20000 in
theorem gX9_line_X9_in : GoodIn wsX9_line (va_wsS RX9 141 yX9_in wsX9_in) := goodIn_app (goodIn_of _ (by decide +kernel)) ggX9_line_X9_in
theorem dX9_line_0 : decode cX9_line 0 = .ok (.aload_n 0, 1) := by decide +kernel
theorem dX9_line_1 : decode cX9_line 1 = .ok (.iload_n 2, 1) := by decide +kernel
theorem dX9_line_2 : decode cX9_line 2 = .ok (.bipush 116, 2) := by decide +kernel
theorem dX9_line_4 : decode cX9_line 4 = .ok (.if_icmp .eq 15, 3) := by decide +kernel
theorem dX9_line_7 : decode cX9_line 7 = .ok (.iload_n 2, 1) := by decide +kernel
theorem dX9_line_8 : decode cX9_line 8 = .ok (.bipush 99, 2) := by decide +kernel
theorem dX9_line_10 : decode cX9_line 10 = .ok (.if_icmp .eq 9, 3) := by decide +kernel
theorem dX9_line_13 : decode cX9_line 13 = .ok (.iload_n 2, 1) := by decide +kernel
theorem dX9_line_14 : decode cX9_line 14 = .ok (.bipush 114, 2) := by decide +kernel
theorem dX9_line_16 : decode cX9_line 16 = .ok (.if_icmp .ne 7, 3) := by decide +kernel
theorem dX9_line_19 : decode cX9_line 19 = .ok (.iconst 1, 1) := by decide +kernel
theorem dX9_line_20 : decode cX9_line 20 = .ok (.goto 4, 3) := by decide +kernel
theorem dX9_line_23 : decode cX9_line 23 = .ok (.iconst 0, 1) := by decide +kernel
theorem dX9_line_24 : decode cX9_line 24 = .ok (.invokevirtual 159, 3) := by decide +kernel
theorem dX9_line_27 : decode cX9_line 27 = .ok (.ifCond .eq 5, 3) := by decide +kernel
theorem dX9_line_30 : decode cX9_line 30 = .ok (.iconst 0, 1) := by decide +kernel
theorem dX9_line_31 : decode cX9_line 31 = .ok (.ireturn, 1) := by decide +kernel
theorem dX9_line_32 : decode cX9_line 32 = .ok (.aload_n 0, 1) := by decide +kernel
theorem dX9_line_33 : decode cX9_line 33 = .ok (.iload_n 1, 1) := by decide +kernel
theorem dX9_line_34 : decode cX9_line 34 = .ok (.iconst 0, 1) := by decide +kernel
theorem dX9_line_35 : decode cX9_line 35 = .ok (.aload_n 0, 1) := by decide +kernel
theorem dX9_line_36 : decode cX9_line 36 = .ok (.getfield 145, 3) := by decide +kernel
theorem dX9_line_39 : decode cX9_line 39 = .ok (.bipush 30, 2) := by decide +kernel
theorem dX9_line_41 : decode cX9_line 41 = .ok (.invokestatic 134, 3) := by decide +kernel
theorem dX9_line_44 : decode cX9_line 44 = .ok (.iconst 1, 1) := by decide +kernel
theorem dX9_line_45 : decode cX9_line 45 = .ok (.isub, 1) := by decide +kernel
theorem dX9_line_46 : decode cX9_line 46 = .ok (.invokestatic 141, 3) := by decide +kernel
theorem dX9_line_49 : decode cX9_line 49 = .ok (.ifCond .eq 7, 3) := by decide +kernel
theorem dX9_line_52 : decode cX9_line 52 = .ok (.iconst 0, 1) := by decide +kernel
theorem dX9_line_53 : decode cX9_line 53 = .ok (.goto 4, 3) := by decide +kernel
theorem dX9_line_56 : decode cX9_line 56 = .ok (.iconst 2, 1) := by decide +kernel
theorem dX9_line_57 : decode cX9_line 57 = .ok (.putfield 130, 3) := by decide +kernel
theorem dX9_line_60 : decode cX9_line 60 = .ok (.aload_n 0, 1) := by decide +kernel
theorem dX9_line_61 : decode cX9_line 61 = .ok (.getfield 130, 3) := by decide +kernel
theorem dX9_line_64 : decode cX9_line 64 = .ok (.ifCond .le 5, 3) := by decide +kernel
theorem dX9_line_67 : decode cX9_line 67 = .ok (.iconst 0, 1) := by decide +kernel
theorem dX9_line_68 : decode cX9_line 68 = .ok (.ireturn, 1) := by decide +kernel
theorem dX9_line_69 : decode cX9_line 69 = .ok (.aload_n 0, 1) := by decide +kernel
theorem dX9_line_70 : decode cX9_line 70 = .ok (.getfield 145, 3) := by decide +kernel
theorem dX9_line_73 : decode cX9_line 73 = .ok (.iconst 1, 1) := by decide +kernel
theorem dX9_line_74 : decode cX9_line 74 = .ok (.isub, 1) := by decide +kernel
theorem dX9_line_75 : decode cX9_line 75 = .ok (.iload_n 1, 1) := by decide +kernel
theorem dX9_line_76 : decode cX9_line 76 = .ok (.isub, 1) := by decide +kernel
theorem dX9_line_77 : decode cX9_line 77 = .ok (.bipush 30, 2) := by decide +kernel
theorem dX9_line_79 : decode cX9_line 79 = .ok (.irem, 1) := by decide +kernel
theorem dX9_line_80 : decode cX9_line 80 = .ok (.istore_n 3, 1) := by decide +kernel
theorem dX9_line_81 : decode cX9_line 81 = .ok (.iload_n 2, 1) := by decide +kernel
theorem dX9_line_82 : decode cX9_line 82 = .ok (.bipush 116, 2) := by decide +kernel
theorem dX9_line_84 : decode cX9_line 84 = .ok (.if_icmp .ne 12, 3) := by decide +kernel
theorem dX9_line_87 : decode cX9_line 87 = .ok (.aload_n 0, 1) := by decide +kernel
theorem dX9_line_88 : decode cX9_line 88 = .ok (.getfield 121, 3) := by decide +kernel
theorem dX9_line_91 : decode cX9_line 91 = .ok (.iload_n 3, 1) := by decide +kernel
theorem dX9_line_92 : decode cX9_line 92 = .ok (.iaload, 1) := by decide +kernel
theorem dX9_line_93 : decode cX9_line 93 = .ok (.goto 24, 3) := by decide +kernel
theorem dX9_line_96 : decode cX9_line 96 = .ok (.iload_n 2, 1) := by decide +kernel
theorem dX9_line_97 : decode cX9_line 97 = .ok (.bipush 99, 2) := by decide +kernel
theorem dX9_line_99 : decode cX9_line 99 = .ok (.if_icmp .ne 12, 3) := by decide +kernel
theorem dX9_line_102 : decode cX9_line 102 = .ok (.aload_n 0, 1) := by decide +kernel
theorem dX9_line_103 : decode cX9_line 103 = .ok (.getfield 124, 3) := by decide +kernel
theorem dX9_line_106 : decode cX9_line 106 = .ok (.iload_n 3, 1) := by decide +kernel
theorem dX9_line_107 : decode cX9_line 107 = .ok (.iaload, 1) := by decide +kernel
theorem dX9_line_108 : decode cX9_line 108 = .ok (.goto 9, 3) := by decide +kernel
theorem dX9_line_111 : decode cX9_line 111 = .ok (.aload_n 0, 1) := by decide +kernel
theorem dX9_line_112 : decode cX9_line 112 = .ok (.getfield 127, 3) := by decide +kernel
theorem dX9_line_115 : decode cX9_line 115 = .ok (.iload_n 3, 1) := by decide +kernel
theorem dX9_line_116 : decode cX9_line 116 = .ok (.iaload, 1) := by decide +kernel
theorem dX9_line_117 : decode cX9_line 117 = .ok (.ireturn, 1) := by decide +kernel
set_option maxRecDepth 20000 in
theorem ggX9_onShare_X9_on : GoodIn wsX9_onShare wsX9_on := goodIn_r _ [7, 8, 9, 10, 11, 12, 13, 14, 15, 16, 17, 18, 19, 20, 21, 22, 23, 24, 25, 26, 27, 28, 29, 30, 31, 32, 33, 34, 35, 36, 37, 38, 39, 40, 41, 42, 43, 44, 45, 46, 47, 48, 49, 50, 51, 52] (by decide +kernel) (by decide +kernel)
set_option maxRecDepth 20000 in
theorem gX9_onShare_X9_on : GoodIn wsX9_onShare (wsV RX9 191 RX9 yX9_on wsX9_on) := goodIn_app (goodIn_of _ (by decide +kernel)) ggX9_onShare_X9_on
theorem dX9_onShare_0 : decode cX9_onShare 0 = .ok (.aload_n 0, 1) := by decide +kernel
theorem dX9_onShare_1 : decode cX9_onShare 1 = .ok (.iconst 0, 1) := by decide +kernel
theorem dX9_onShare_2 : decode cX9_onShare 2 = .ok (.putfield 130, 3) := by decide +kernel
theorem dX9_onShare_5 : decode cX9_onShare 5 = .ok (.aload_n 0, 1) := by decide +kernel
theorem dX9_onShare_6 : decode cX9_onShare 6 = .ok (.invokevirtual 191, 3) := by decide +kernel
theorem dX9_onShare_9 : decode cX9_onShare 9 = .ok (.i2f, 1) := by decide +kernel
theorem dX9_onShare_10 : decode cX9_onShare 10 = .ok (.ldc 247, 2) := by decide +kernel
theorem dX9_onShare_12 : decode cX9_onShare 12 = .ok (.fdiv, 1) := by decide +kernel
theorem dX9_onShare_13 : decode cX9_onShare 13 = .ok (.freturn, 1) := by decide +kernel
theorem dX9_meanOutput_0 : decode cX9_meanOutput 0 = .ok (.aload_n 0, 1) := by decide +kernel
theorem dX9_meanOutput_1 : decode cX9_meanOutput 1 = .ok (.iconst 0, 1) := by decide +kernel
theorem dX9_meanOutput_2 : decode cX9_meanOutput 2 = .ok (.putfield 130, 3) := by decide +kernel
theorem dX9_meanOutput_5 : decode cX9_meanOutput 5 = .ok (.iconst 0, 1) := by decide +kernel
theorem dX9_meanOutput_6 : decode cX9_meanOutput 6 = .ok (.istore_n 1, 1) := by decide +kernel
theorem dX9_meanOutput_7 : decode cX9_meanOutput 7 = .ok (.iconst 0, 1) := by decide +kernel
theorem dX9_meanOutput_8 : decode cX9_meanOutput 8 = .ok (.istore_n 2, 1) := by decide +kernel
theorem dX9_meanOutput_9 : decode cX9_meanOutput 9 = .ok (.iload_n 2, 1) := by decide +kernel
theorem dX9_meanOutput_10 : decode cX9_meanOutput 10 = .ok (.iconst 4, 1) := by decide +kernel
theorem dX9_meanOutput_11 : decode cX9_meanOutput 11 = .ok (.if_icmp .ge 18, 3) := by decide +kernel
theorem dX9_meanOutput_14 : decode cX9_meanOutput 14 = .ok (.iload_n 1, 1) := by decide +kernel
theorem dX9_meanOutput_15 : decode cX9_meanOutput 15 = .ok (.aload_n 0, 1) := by decide +kernel
theorem dX9_meanOutput_16 : decode cX9_meanOutput 16 = .ok (.getfield 75, 3) := by decide +kernel
theorem dX9_meanOutput_19 : decode cX9_meanOutput 19 = .ok (.iload_n 2, 1) := by decide +kernel
theorem dX9_meanOutput_20 : decode cX9_meanOutput 20 = .ok (.iaload, 1) := by decide +kernel
theorem dX9_meanOutput_21 : decode cX9_meanOutput 21 = .ok (.iadd, 1) := by decide +kernel
theorem dX9_meanOutput_22 : decode cX9_meanOutput 22 = .ok (.istore_n 1, 1) := by decide +kernel
theorem dX9_meanOutput_23 : decode cX9_meanOutput 23 = .ok (.iinc 2 1, 3) := by decide +kernel
theorem dX9_meanOutput_26 : decode cX9_meanOutput 26 = .ok (.goto (-17), 3) := by decide +kernel
theorem dX9_meanOutput_29 : decode cX9_meanOutput 29 = .ok (.iload_n 1, 1) := by decide +kernel
theorem dX9_meanOutput_30 : decode cX9_meanOutput 30 = .ok (.i2d, 1) := by decide +kernel
theorem dX9_meanOutput_31 : decode cX9_meanOutput 31 = .ok (.ldc2_w 248, 3) := by decide +kernel
theorem dX9_meanOutput_34 : decode cX9_meanOutput 34 = .ok (.ddiv, 1) := by decide +kernel
theorem dX9_meanOutput_35 : decode cX9_meanOutput 35 = .ok (.dreturn, 1) := by decide +kernel
set_option maxRecDepth 20000 in
theorem ggX9_checksum_X9_round : GoodIn wsX9_checksum wsX9_round := goodIn_r _ [13] (by decide +kernel) (by decide +kernel)
set_option maxRecDepth 20000 in
theorem gX9_checksum_X9_round : GoodIn wsX9_checksum (va_wsS RX9 170 yX9_round wsX9_round) := goodIn_app (goodIn_of _ (by decide +kernel)) ggX9_checksum_X9_round
theorem dX9_checksum_0 : decode cX9_checksum 0 = .ok (.aload_n 0, 1) := by decide +kernel
theorem dX9_checksum_1 : decode cX9_checksum 1 = .ok (.iconst 0, 1) := by decide +kernel
theorem dX9_checksum_2 : decode cX9_checksum 2 = .ok (.putfield 130, 3) := by decide +kernel
theorem dX9_checksum_5 : decode cX9_checksum 5 = .ok (.ldc2_w 250, 3) := by decide +kernel
theorem dX9_checksum_8 : decode cX9_checksum 8 = .ok (.lstore_n 1, 1) := by decide +kernel
theorem dX9_checksum_9 : decode cX9_checksum 9 = .ok (.iconst 0, 1) := by decide +kernel
theorem dX9_checksum_10 : decode cX9_checksum 10 = .ok (.istore_n 3, 1) := by decide +kernel
theorem dX9_checksum_11 : decode cX9_checksum 11 = .ok (.iload_n 3, 1) := by decide +kernel
theorem dX9_checksum_12 : decode cX9_checksum 12 = .ok (.iconst 4, 1) := by decide +kernel
theorem dX9_checksum_13 : decode cX9_checksum 13 = .ok (.if_icmp .ge 23, 3) := by decide +kernel
theorem dX9_checksum_16 : decode cX9_checksum 16 = .ok (.ldc2_w 252, 3) := by decide +kernel
theorem dX9_checksum_19 : decode cX9_checksum 19 = .ok (.lload_n 1, 1) := by decide +kernel
theorem dX9_checksum_20 : decode cX9_checksum 20 = .ok (.lmul, 1) := by decide +kernel
theorem dX9_checksum_21 : decode cX9_checksum 21 = .ok (.aload_n 0, 1) := by decide +kernel
theorem dX9_checksum_22 : decode cX9_checksum 22 = .ok (.getfield 75, 3) := by decide +kernel
theorem dX9_checksum_25 : decode cX9_checksum 25 = .ok (.iload_n 3, 1) := by decide +kernel
theorem dX9_checksum_26 : decode cX9_checksum 26 = .ok (.iaload, 1) := by decide +kernel
theorem dX9_checksum_27 : decode cX9_checksum 27 = .ok (.i2l, 1) := by decide +kernel
theorem dX9_checksum_28 : decode cX9_checksum 28 = .ok (.ladd, 1) := by decide +kernel
theorem dX9_checksum_29 : decode cX9_checksum 29 = .ok (.lstore_n 1, 1) := by decide +kernel
theorem dX9_checksum_30 : decode cX9_checksum 30 = .ok (.iinc 3 1, 3) := by decide +kernel
theorem dX9_checksum_33 : decode cX9_checksum 33 = .ok (.goto (-22), 3) := by decide +kernel
theorem dX9_checksum_36 : decode cX9_checksum 36 = .ok (.iconst 0, 1) := by decide +kernel
theorem dX9_checksum_37 : decode cX9_checksum 37 = .ok (.istore_n 3, 1) := by decide +kernel
theorem dX9_checksum_38 : decode cX9_checksum 38 = .ok (.iload_n 3, 1) := by decide +kernel
theorem dX9_checksum_39 : decode cX9_checksum 39 = .ok (.bipush 54, 2) := by decide +kernel
theorem dX9_checksum_41 : decode cX9_checksum 41 = .ok (.if_icmp .ge 33, 3) := by decide +kernel
theorem dX9_checksum_44 : decode cX9_checksum 44 = .ok (.ldc2_w 252, 3) := by decide +kernel
theorem dX9_checksum_47 : decode cX9_checksum 47 = .ok (.lload_n 1, 1) := by decide +kernel
theorem dX9_checksum_48 : decode cX9_checksum 48 = .ok (.lmul, 1) := by decide +kernel
theorem dX9_checksum_49 : decode cX9_checksum 49 = .ok (.aload_n 0, 1) := by decide +kernel
theorem dX9_checksum_50 : decode cX9_checksum 50 = .ok (.getfield 26, 3) := by decide +kernel
theorem dX9_checksum_53 : decode cX9_checksum 53 = .ok (.iload_n 3, 1) := by decide +kernel
theorem dX9_checksum_54 : decode cX9_checksum 54 = .ok (.iaload, 1) := by decide +kernel
theorem dX9_checksum_55 : decode cX9_checksum 55 = .ok (.aload_n 0, 1) := by decide +kernel
theorem dX9_checksum_56 : decode cX9_checksum 56 = .ok (.getfield 29, 3) := by decide +kernel
theorem dX9_checksum_59 : decode cX9_checksum 59 = .ok (.iload_n 3, 1) := by decide +kernel
theorem dX9_checksum_60 : decode cX9_checksum 60 = .ok (.iaload, 1) := by decide +kernel
theorem dX9_checksum_61 : decode cX9_checksum 61 = .ok (.ixor, 1) := by decide +kernel
theorem dX9_checksum_62 : decode cX9_checksum 62 = .ok (.invokestatic 170, 3) := by decide +kernel
theorem dX9_checksum_65 : decode cX9_checksum 65 = .ok (.i2l, 1) := by decide +kernel
theorem dX9_checksum_66 : decode cX9_checksum 66 = .ok (.ladd, 1) := by decide +kernel
theorem dX9_checksum_67 : decode cX9_checksum 67 = .ok (.lstore_n 1, 1) := by decide +kernel
theorem dX9_checksum_68 : decode cX9_checksum 68 = .ok (.iinc 3 1, 3) := by decide +kernel
theorem dX9_checksum_71 : decode cX9_checksum 71 = .ok (.goto (-33), 3) := by decide +kernel
theorem dX9_checksum_74 : decode cX9_checksum 74 = .ok (.iconst 0, 1) := by decide +kernel
theorem dX9_checksum_75 : decode cX9_checksum 75 = .ok (.istore_n 3, 1) := by decide +kernel
theorem dX9_checksum_76 : decode cX9_checksum 76 = .ok (.iload_n 3, 1) := by decide +kernel
theorem dX9_checksum_77 : decode cX9_checksum 77 = .ok (.iconst 3, 1) := by decide +kernel
theorem dX9_checksum_78 : decode cX9_checksum 78 = .ok (.if_icmp .ge 35, 3) := by decide +kernel
theorem dX9_checksum_81 : decode cX9_checksum 81 = .ok (.ldc2_w 252, 3) := by decide +kernel
theorem dX9_checksum_84 : decode cX9_checksum 84 = .ok (.lload_n 1, 1) := by decide +kernel
theorem dX9_checksum_85 : decode cX9_checksum 85 = .ok (.lmul, 1) := by decide +kernel
theorem dX9_checksum_86 : decode cX9_checksum 86 = .ok (.aload_n 0, 1) := by decide +kernel
theorem dX9_checksum_87 : decode cX9_checksum 87 = .ok (.getfield 48, 3) := by decide +kernel
theorem dX9_checksum_90 : decode cX9_checksum 90 = .ok (.iload_n 3, 1) := by decide +kernel
theorem dX9_checksum_91 : decode cX9_checksum 91 = .ok (.iaload, 1) := by decide +kernel
theorem dX9_checksum_92 : decode cX9_checksum 92 = .ok (.i2l, 1) := by decide +kernel
theorem dX9_checksum_93 : decode cX9_checksum 93 = .ok (.ladd, 1) := by decide +kernel
theorem dX9_checksum_94 : decode cX9_checksum 94 = .ok (.ldc2_w 254, 3) := by decide +kernel
theorem dX9_checksum_97 : decode cX9_checksum 97 = .ok (.aload_n 0, 1) := by decide +kernel
theorem dX9_checksum_98 : decode cX9_checksum 98 = .ok (.getfield 45, 3) := by decide +kernel
theorem dX9_checksum_101 : decode cX9_checksum 101 = .ok (.iload_n 3, 1) := by decide +kernel
theorem dX9_checksum_102 : decode cX9_checksum 102 = .ok (.iaload, 1) := by decide +kernel
theorem dX9_checksum_103 : decode cX9_checksum 103 = .ok (.i2l, 1) := by decide +kernel
theorem dX9_checksum_104 : decode cX9_checksum 104 = .ok (.lmul, 1) := by decide +kernel
theorem dX9_checksum_105 : decode cX9_checksum 105 = .ok (.ladd, 1) := by decide +kernel
theorem dX9_checksum_106 : decode cX9_checksum 106 = .ok (.lstore_n 1, 1) := by decide +kernel
theorem dX9_checksum_107 : decode cX9_checksum 107 = .ok (.iinc 3 1, 3) := by decide +kernel
theorem dX9_checksum_110 : decode cX9_checksum 110 = .ok (.goto (-34), 3) := by decide +kernel
theorem dX9_checksum_113 : decode cX9_checksum 113 = .ok (.lload_n 1, 1) := by decide +kernel
theorem dX9_checksum_114 : decode cX9_checksum 114 = .ok (.lreturn, 1) := by decide +kernel
theorem dX9_isTrue_0 : decode cX9_isTrue 0 = .ok (.aload_n 0, 1) := by decide +kernel
theorem dX9_isTrue_1 : decode cX9_isTrue 1 = .ok (.iconst 0, 1) := by decide +kernel
theorem dX9_isTrue_2 : decode cX9_isTrue 2 = .ok (.putfield 130, 3) := by decide +kernel
theorem dX9_isTrue_5 : decode cX9_isTrue 5 = .ok (.iconst 1, 1) := by decide +kernel
theorem dX9_isTrue_6 : decode cX9_isTrue 6 = .ok (.ireturn, 1) := by decide +kernel
