theorem dX8_init_0 : decode cX8_init 0 = .ok (.aload_n 0, 1) := by decide +kernel
theorem dX8_init_1 : decode cX8_init 1 = .ok (.invokespecial 1, 3) := by decide +kernel
theorem dX8_init_4 : decode cX8_init 4 = .ok (.aload_n 0, 1) := by decide +kernel
theorem dX8_init_5 : decode cX8_init 5 = .ok (.iconst 3, 1) := by decide +kernel
theorem dX8_init_6 : decode cX8_init 6 = .ok (.anewarray 9, 3) := by decide +kernel
theorem dX8_init_9 : decode cX8_init 9 = .ok (.putfield 11, 3) := by decide +kernel
theorem dX8_init_12 : decode cX8_init 12 = .ok (.aload_n 0, 1) := by decide +kernel
theorem dX8_init_13 : decode cX8_init 13 = .ok (.new 9, 3) := by decide +kernel
theorem dX8_init_16 : decode cX8_init 16 = .ok (.dup, 1) := by decide +kernel
theorem dX8_init_17 : decode cX8_init 17 = .ok (.invokespecial 15, 3) := by decide +kernel
theorem dX8_init_20 : decode cX8_init 20 = .ok (.putfield 16, 3) := by decide +kernel
theorem dX8_init_23 : decode cX8_init 23 = .ok (.aload_n 0, 1) := by decide +kernel
theorem dX8_init_24 : decode cX8_init 24 = .ok (.iconst 3, 1) := by decide +kernel
theorem dX8_init_25 : decode cX8_init 25 = .ok (.anewarray 20, 3) := by decide +kernel
theorem dX8_init_28 : decode cX8_init 28 = .ok (.putfield 22, 3) := by decide +kernel
theorem dX8_init_31 : decode cX8_init 31 = .ok (.aload_n 0, 1) := by decide +kernel
theorem dX8_init_32 : decode cX8_init 32 = .ok (.iconst 3, 1) := by decide +kernel
theorem dX8_init_33 : decode cX8_init 33 = .ok (.anewarray 26, 3) := by decide +kernel
theorem dX8_init_36 : decode cX8_init 36 = .ok (.putfield 28, 3) := by decide +kernel
theorem dX8_init_39 : decode cX8_init 39 = .ok (.aload_n 0, 1) := by decide +kernel
theorem dX8_init_40 : decode cX8_init 40 = .ok (.iconst 2, 1) := by decide +kernel
theorem dX8_init_41 : decode cX8_init 41 = .ok (.iconst 3, 1) := by decide +kernel
theorem dX8_init_42 : decode cX8_init 42 = .ok (.multianewarray 32 2, 4) := by decide +kernel
theorem dX8_init_46 : decode cX8_init 46 = .ok (.putfield 34, 3) := by decide +kernel
theorem dX8_init_49 : decode cX8_init 49 = .ok (.aload_n 0, 1) := by decide +kernel
theorem dX8_init_50 : decode cX8_init 50 = .ok (.iconst 4, 1) := by decide +kernel
theorem dX8_init_51 : decode cX8_init 51 = .ok (.anewarray 37, 3) := by decide +kernel
theorem dX8_init_54 : decode cX8_init 54 = .ok (.putfield 39, 3) := by decide +kernel
theorem dX8_init_57 : decode cX8_init 57 = .ok (.aload_n 0, 1) := by decide +kernel
theorem dX8_init_58 : decode cX8_init 58 = .ok (.iconst 4, 1) := by decide +kernel
theorem dX8_init_59 : decode cX8_init 59 = .ok (.anewarray 43, 3) := by decide +kernel
theorem dX8_init_62 : decode cX8_init 62 = .ok (.putfield 45, 3) := by decide +kernel
theorem dX8_init_65 : decode cX8_init 65 = .ok (.aload_n 0, 1) := by decide +kernel
theorem dX8_init_66 : decode cX8_init 66 = .ok (.iconst 4, 1) := by decide +kernel
theorem dX8_init_67 : decode cX8_init 67 = .ok (.newarray .int, 2) := by decide +kernel
theorem dX8_init_69 : decode cX8_init 69 = .ok (.putfield 49, 3) := by decide +kernel
theorem dX8_init_72 : decode cX8_init 72 = .ok (.aload_n 0, 1) := by decide +kernel
theorem dX8_init_73 : decode cX8_init 73 = .ok (.iconst 4, 1) := by decide +kernel
theorem dX8_init_74 : decode cX8_init 74 = .ok (.newarray .int, 2) := by decide +kernel
theorem dX8_init_76 : decode cX8_init 76 = .ok (.putfield 53, 3) := by decide +kernel
theorem dX8_init_79 : decode cX8_init 79 = .ok (.aload_n 0, 1) := by decide +kernel
theorem dX8_init_80 : decode cX8_init 80 = .ok (.new 56, 3) := by decide +kernel
theorem dX8_init_83 : decode cX8_init 83 = .ok (.dup, 1) := by decide +kernel
theorem dX8_init_84 : decode cX8_init 84 = .ok (.invokespecial 58, 3) := by decide +kernel
theorem dX8_init_87 : decode cX8_init 87 = .ok (.putfield 59, 3) := by decide +kernel
theorem dX8_init_90 : decode cX8_init 90 = .ok (.aload_n 0, 1) := by decide +kernel
theorem dX8_init_91 : decode cX8_init 91 = .ok (.iconst 0, 1) := by decide +kernel
theorem dX8_init_92 : decode cX8_init 92 = .ok (.putfield 63, 3) := by decide +kernel
theorem dX8_init_95 : decode cX8_init 95 = .ok (.aload_n 0, 1) := by decide +kernel
theorem dX8_init_96 : decode cX8_init 96 = .ok (.iconst 0, 1) := by decide +kernel
theorem dX8_init_97 : decode cX8_init 97 = .ok (.putfield 67, 3) := by decide +kernel
theorem dX8_init_100 : decode cX8_init 100 = .ok (.aload_n 0, 1) := by decide +kernel
theorem dX8_init_101 : decode cX8_init 101 = .ok (.iconst 0, 1) := by decide +kernel
theorem dX8_init_102 : decode cX8_init 102 = .ok (.putfield 70, 3) := by decide +kernel
theorem dX8_init_105 : decode cX8_init 105 = .ok (.aload_n 0, 1) := by decide +kernel
theorem dX8_init_106 : decode cX8_init 106 = .ok (.iconst 0, 1) := by decide +kernel
theorem dX8_init_107 : decode cX8_init 107 = .ok (.putfield 74, 3) := by decide +kernel
theorem dX8_init_110 : decode cX8_init 110 = .ok (.aload_n 0, 1) := by decide +kernel
theorem dX8_init_111 : decode cX8_init 111 = .ok (.iconst 0, 1) := by decide +kernel
theorem dX8_init_112 : decode cX8_init 112 = .ok (.putfield 77, 3) := by decide +kernel
theorem dX8_init_115 : decode cX8_init 115 = .ok (.aload_n 0, 1) := by decide +kernel
theorem dX8_init_116 : decode cX8_init 116 = .ok (.iconst 0, 1) := by decide +kernel
theorem dX8_init_117 : decode cX8_init 117 = .ok (.putfield 81, 3) := by decide +kernel
theorem dX8_init_120 : decode cX8_init 120 = .ok (.iconst 0, 1) := by decide +kernel
theorem dX8_init_121 : decode cX8_init 121 = .ok (.istore_n 1, 1) := by decide +kernel
theorem dX8_init_122 : decode cX8_init 122 = .ok (.iload_n 1, 1) := by decide +kernel
theorem dX8_init_123 : decode cX8_init 123 = .ok (.iconst 3, 1) := by decide +kernel
theorem dX8_init_124 : decode cX8_init 124 = .ok (.if_icmp .ge 22, 3) := by decide +kernel
theorem dX8_init_127 : decode cX8_init 127 = .ok (.aload_n 0, 1) := by decide +kernel
theorem dX8_init_128 : decode cX8_init 128 = .ok (.getfield 11, 3) := by decide +kernel
theorem dX8_init_131 : decode cX8_init 131 = .ok (.iload_n 1, 1) := by decide +kernel
theorem dX8_init_132 : decode cX8_init 132 = .ok (.new 9, 3) := by decide +kernel
theorem dX8_init_135 : decode cX8_init 135 = .ok (.dup, 1) := by decide +kernel
theorem dX8_init_136 : decode cX8_init 136 = .ok (.invokespecial 15, 3) := by decide +kernel
theorem dX8_init_139 : decode cX8_init 139 = .ok (.aastore, 1) := by decide +kernel
theorem dX8_init_140 : decode cX8_init 140 = .ok (.iinc 1 1, 3) := by decide +kernel
theorem dX8_init_143 : decode cX8_init 143 = .ok (.goto (-21), 3) := by decide +kernel
theorem dX8_init_146 : decode cX8_init 146 = .ok (.iconst 0, 1) := by decide +kernel
theorem dX8_init_147 : decode cX8_init 147 = .ok (.istore_n 1, 1) := by decide +kernel
theorem dX8_init_148 : decode cX8_init 148 = .ok (.iload_n 1, 1) := by decide +kernel
theorem dX8_init_149 : decode cX8_init 149 = .ok (.iconst 3, 1) := by decide +kernel
theorem dX8_init_150 : decode cX8_init 150 = .ok (.if_icmp .ge 35, 3) := by decide +kernel
theorem dX8_init_153 : decode cX8_init 153 = .ok (.aload_n 0, 1) := by decide +kernel
theorem dX8_init_154 : decode cX8_init 154 = .ok (.getfield 22, 3) := by decide +kernel
theorem dX8_init_157 : decode cX8_init 157 = .ok (.iload_n 1, 1) := by decide +kernel
theorem dX8_init_158 : decode cX8_init 158 = .ok (.new 20, 3) := by decide +kernel
theorem dX8_init_161 : decode cX8_init 161 = .ok (.dup, 1) := by decide +kernel
theorem dX8_init_162 : decode cX8_init 162 = .ok (.invokespecial 84, 3) := by decide +kernel
theorem dX8_init_165 : decode cX8_init 165 = .ok (.aastore, 1) := by decide +kernel
theorem dX8_init_166 : decode cX8_init 166 = .ok (.aload_n 0, 1) := by decide +kernel
theorem dX8_init_167 : decode cX8_init 167 = .ok (.getfield 28, 3) := by decide +kernel
theorem dX8_init_170 : decode cX8_init 170 = .ok (.iload_n 1, 1) := by decide +kernel
theorem dX8_init_171 : decode cX8_init 171 = .ok (.new 26, 3) := by decide +kernel
theorem dX8_init_174 : decode cX8_init 174 = .ok (.dup, 1) := by decide +kernel
theorem dX8_init_175 : decode cX8_init 175 = .ok (.invokespecial 85, 3) := by decide +kernel
theorem dX8_init_178 : decode cX8_init 178 = .ok (.aastore, 1) := by decide +kernel
theorem dX8_init_179 : decode cX8_init 179 = .ok (.iinc 1 1, 3) := by decide +kernel
theorem dX8_init_182 : decode cX8_init 182 = .ok (.goto (-34), 3) := by decide +kernel
theorem dX8_init_185 : decode cX8_init 185 = .ok (.iconst 0, 1) := by decide +kernel
theorem dX8_init_186 : decode cX8_init 186 = .ok (.istore_n 1, 1) := by decide +kernel
theorem dX8_init_187 : decode cX8_init 187 = .ok (.iload_n 1, 1) := by decide +kernel
theorem dX8_init_188 : decode cX8_init 188 = .ok (.iconst 4, 1) := by decide +kernel
theorem dX8_init_189 : decode cX8_init 189 = .ok (.if_icmp .ge 22, 3) := by decide +kernel
theorem dX8_init_192 : decode cX8_init 192 = .ok (.aload_n 0, 1) := by decide +kernel
theorem dX8_init_193 : decode cX8_init 193 = .ok (.getfield 39, 3) := by decide +kernel
theorem dX8_init_196 : decode cX8_init 196 = .ok (.iload_n 1, 1) := by decide +kernel
theorem dX8_init_197 : decode cX8_init 197 = .ok (.new 37, 3) := by decide +kernel
theorem dX8_init_200 : decode cX8_init 200 = .ok (.dup, 1) := by decide +kernel
theorem dX8_init_201 : decode cX8_init 201 = .ok (.invokespecial 86, 3) := by decide +kernel
theorem dX8_init_204 : decode cX8_init 204 = .ok (.aastore, 1) := by decide +kernel
theorem dX8_init_205 : decode cX8_init 205 = .ok (.iinc 1 1, 3) := by decide +kernel
theorem dX8_init_208 : decode cX8_init 208 = .ok (.goto (-21), 3) := by decide +kernel
theorem dX8_init_211 : decode cX8_init 211 = .ok (.iconst 0, 1) := by decide +kernel
theorem dX8_init_212 : decode cX8_init 212 = .ok (.istore_n 1, 1) := by decide +kernel
theorem dX8_init_213 : decode cX8_init 213 = .ok (.iload_n 1, 1) := by decide +kernel
theorem dX8_init_214 : decode cX8_init 214 = .ok (.iconst 4, 1) := by decide +kernel
theorem dX8_init_215 : decode cX8_init 215 = .ok (.if_icmp .ge 22, 3) := by decide +kernel
theorem dX8_init_218 : decode cX8_init 218 = .ok (.aload_n 0, 1) := by decide +kernel
theorem dX8_init_219 : decode cX8_init 219 = .ok (.getfield 45, 3) := by decide +kernel
theorem dX8_init_222 : decode cX8_init 222 = .ok (.iload_n 1, 1) := by decide +kernel
theorem dX8_init_223 : decode cX8_init 223 = .ok (.new 43, 3) := by decide +kernel
theorem dX8_init_226 : decode cX8_init 226 = .ok (.dup, 1) := by decide +kernel
theorem dX8_init_227 : decode cX8_init 227 = .ok (.invokespecial 87, 3) := by decide +kernel
theorem dX8_init_230 : decode cX8_init 230 = .ok (.aastore, 1) := by decide +kernel
theorem dX8_init_231 : decode cX8_init 231 = .ok (.iinc 1 1, 3) := by decide +kernel
theorem dX8_init_234 : decode cX8_init 234 = .ok (.goto (-21), 3) := by decide +kernel
theorem dX8_init_237 : decode cX8_init 237 = .ok (.iconst 0, 1) := by decide +kernel
theorem dX8_init_238 : decode cX8_init 238 = .ok (.istore_n 1, 1) := by decide +kernel
theorem dX8_init_239 : decode cX8_init 239 = .ok (.iload_n 1, 1) := by decide +kernel
theorem dX8_init_240 : decode cX8_init 240 = .ok (.iconst 2, 1) := by decide +kernel
theorem dX8_init_241 : decode cX8_init 241 = .ok (.if_icmp .ge 31, 3) := by decide +kernel
theorem dX8_init_244 : decode cX8_init 244 = .ok (.iconst 0, 1) := by decide +kernel
theorem dX8_init_245 : decode cX8_init 245 = .ok (.istore_n 2, 1) := by decide +kernel
theorem dX8_init_246 : decode cX8_init 246 = .ok (.iload_n 2, 1) := by decide +kernel
theorem dX8_init_247 : decode cX8_init 247 = .ok (.iconst 3, 1) := by decide +kernel
theorem dX8_init_248 : decode cX8_init 248 = .ok (.if_icmp .ge 18, 3) := by decide +kernel
theorem dX8_init_251 : decode cX8_init 251 = .ok (.aload_n 0, 1) := by decide +kernel
theorem dX8_init_252 : decode cX8_init 252 = .ok (.getfield 34, 3) := by decide +kernel
theorem dX8_init_255 : decode cX8_init 255 = .ok (.iload_n 1, 1) := by decide +kernel
theorem dX8_init_256 : decode cX8_init 256 = .ok (.aaload, 1) := by decide +kernel
theorem dX8_init_257 : decode cX8_init 257 = .ok (.iload_n 2, 1) := by decide +kernel
theorem dX8_init_258 : decode cX8_init 258 = .ok (.iconst (-1), 1) := by decide +kernel
theorem dX8_init_259 : decode cX8_init 259 = .ok (.iastore, 1) := by decide +kernel
theorem dX8_init_260 : decode cX8_init 260 = .ok (.iinc 2 1, 3) := by decide +kernel
theorem dX8_init_263 : decode cX8_init 263 = .ok (.goto (-17), 3) := by decide +kernel
theorem dX8_init_266 : decode cX8_init 266 = .ok (.iinc 1 1, 3) := by decide +kernel
theorem dX8_init_269 : decode cX8_init 269 = .ok (.goto (-30), 3) := by decide +kernel
theorem dX8_init_272 : decode cX8_init 272 = .ok (.return_, 1) := by decide +kernel
set_option maxRecDepth 20000 in
theorem ggX8_code_X8_requireIndex : GoodIn wsX8_code wsX8_requireIndex := goodIn_ca (goodIn_r _ [8, 9, 10] (by decide +kernel) (by decide +kernel)) (goodIn_sub (fun _ h => List.mem_cons_of_mem _ (List.mem_append_left _ (List.mem_append_right _ h))) (by decide +kernel))
set_option maxRecDepth 20000 in
theorem gX8_code_X8_requireIndex : GoodIn wsX8_code (va_wsS RX8 88 yX8_requireIndex wsX8_requireIndex) := goodIn_app (goodIn_of _ (by decide +kernel)) ggX8_code_X8_requireIndex
set_option maxRecDepth 20000 in
theorem ggX8_code_X6_isInstruction : GoodIn wsX8_code wsX6_isInstruction := goodIn_r _ [14, 15, 16, 17, 18, 19, 20, 21, 22] (by decide +kernel) (by decide +kernel)
set_option maxRecDepth 20000 in
theorem gX8_code_X6_isInstruction : GoodIn wsX8_code (va_wsS RX8 92 yX6_isInstruction wsX6_isInstruction) := goodIn_app (goodIn_of _ (by decide +kernel)) ggX8_code_X6_isInstruction
set_option maxRecDepth 20000 in
theorem ggX8_code_X8_requireFit : GoodIn wsX8_code wsX8_requireFit := goodIn_ca (goodIn_r _ [25, 26, 27] (by decide +kernel) (by decide +kernel)) (goodIn_sub (fun _ h => List.mem_cons_of_mem _ (List.mem_append_right _ h)) (by decide +kernel))
set_option maxRecDepth 20000 in
theorem gX8_code_X8_requireFit : GoodIn wsX8_code (va_wsS RX8 96 yX8_requireFit wsX8_requireFit) := goodIn_app (goodIn_of _ (by decide +kernel)) ggX8_code_X8_requireFit
set_option maxRecDepth 20000 in
theorem ggX8_code_X6_append : GoodIn wsX8_code wsX6_append := goodIn_r _ [31, 32, 33, 34, 35, 52, 53, 54, 55, 56] (by decide +kernel) (by decide +kernel)
set_option maxRecDepth 20000 in
theorem gX8_code_X6_append : GoodIn wsX8_code (wsV RX8 110 RX6 yX6_append wsX6_append) := goodIn_app (goodIn_of _ (by decide +kernel)) ggX8_code_X6_append
theorem dX8_code_0 : decode cX8_code 0 = .ok (.iload_n 1, 1) := by decide +kernel
theorem dX8_code_1 : decode cX8_code 1 = .ok (.iconst 3, 1) := by decide +kernel
theorem dX8_code_2 : decode cX8_code 2 = .ok (.invokestatic 88, 3) := by decide +kernel
theorem dX8_code_5 : decode cX8_code 5 = .ok (.iload_n 2, 1) := by decide +kernel
theorem dX8_code_6 : decode cX8_code 6 = .ok (.iload_n 3, 1) := by decide +kernel
theorem dX8_code_7 : decode cX8_code 7 = .ok (.iload 4, 2) := by decide +kernel
theorem dX8_code_9 : decode cX8_code 9 = .ok (.invokestatic 92, 3) := by decide +kernel
theorem dX8_code_12 : decode cX8_code 12 = .ok (.invokestatic 96, 3) := by decide +kernel
theorem dX8_code_15 : decode cX8_code 15 = .ok (.aload_n 0, 1) := by decide +kernel
theorem dX8_code_16 : decode cX8_code 16 = .ok (.getfield 22, 3) := by decide +kernel
theorem dX8_code_19 : decode cX8_code 19 = .ok (.iload_n 1, 1) := by decide +kernel
theorem dX8_code_20 : decode cX8_code 20 = .ok (.aaload, 1) := by decide +kernel
theorem dX8_code_21 : decode cX8_code 21 = .ok (.astore 5, 2) := by decide +kernel
theorem dX8_code_23 : decode cX8_code 23 = .ok (.aload 5, 2) := by decide +kernel
theorem dX8_code_25 : decode cX8_code 25 = .ok (.getfield 100, 3) := by decide +kernel
theorem dX8_code_28 : decode cX8_code 28 = .ok (.bipush 10, 2) := by decide +kernel
theorem dX8_code_30 : decode cX8_code 30 = .ok (.if_icmp .lt 13, 3) := by decide +kernel
theorem dX8_code_33 : decode cX8_code 33 = .ok (.new 103, 3) := by decide +kernel
theorem dX8_code_36 : decode cX8_code 36 = .ok (.dup, 1) := by decide +kernel
theorem dX8_code_37 : decode cX8_code 37 = .ok (.ldc 105, 2) := by decide +kernel
theorem dX8_code_39 : decode cX8_code 39 = .ok (.invokespecial 107, 3) := by decide +kernel
theorem dX8_code_42 : decode cX8_code 42 = .ok (.athrow, 1) := by decide +kernel
theorem dX8_code_43 : decode cX8_code 43 = .ok (.aload 5, 2) := by decide +kernel
theorem dX8_code_45 : decode cX8_code 45 = .ok (.iload_n 2, 1) := by decide +kernel
theorem dX8_code_46 : decode cX8_code 46 = .ok (.iload_n 3, 1) := by decide +kernel
theorem dX8_code_47 : decode cX8_code 47 = .ok (.iload 4, 2) := by decide +kernel
theorem dX8_code_49 : decode cX8_code 49 = .ok (.invokevirtual 110, 3) := by decide +kernel
theorem dX8_code_52 : decode cX8_code 52 = .ok (.ireturn, 1) := by decide +kernel
set_option maxRecDepth 20000 in
theorem ggX8_clear_X8_requireIndex : GoodIn wsX8_clear wsX8_requireIndex := goodIn_ca (goodIn_r _ [6, 7, 8] (by decide +kernel) (by decide +kernel)) (goodIn_sub (fun _ h => List.mem_cons_of_mem _ (List.mem_append_right _ h)) (by decide +kernel))
set_option maxRecDepth 20000 in
theorem gX8_clear_X8_requireIndex : GoodIn wsX8_clear (va_wsS RX8 88 yX8_requireIndex wsX8_requireIndex) := goodIn_app (goodIn_of _ (by decide +kernel)) ggX8_clear_X8_requireIndex
theorem dX8_clear_0 : decode cX8_clear 0 = .ok (.iload_n 1, 1) := by decide +kernel
theorem dX8_clear_1 : decode cX8_clear 1 = .ok (.iconst 3, 1) := by decide +kernel
theorem dX8_clear_2 : decode cX8_clear 2 = .ok (.invokestatic 88, 3) := by decide +kernel
theorem dX8_clear_5 : decode cX8_clear 5 = .ok (.aload_n 0, 1) := by decide +kernel
theorem dX8_clear_6 : decode cX8_clear 6 = .ok (.getfield 22, 3) := by decide +kernel
theorem dX8_clear_9 : decode cX8_clear 9 = .ok (.iload_n 1, 1) := by decide +kernel
theorem dX8_clear_10 : decode cX8_clear 10 = .ok (.aaload, 1) := by decide +kernel
theorem dX8_clear_11 : decode cX8_clear 11 = .ok (.getfield 100, 3) := by decide +kernel
theorem dX8_clear_14 : decode cX8_clear 14 = .ok (.istore_n 2, 1) := by decide +kernel
theorem dX8_clear_15 : decode cX8_clear 15 = .ok (.aload_n 0, 1) := by decide +kernel
theorem dX8_clear_16 : decode cX8_clear 16 = .ok (.getfield 22, 3) := by decide +kernel
theorem dX8_clear_19 : decode cX8_clear 19 = .ok (.iload_n 1, 1) := by decide +kernel
theorem dX8_clear_20 : decode cX8_clear 20 = .ok (.aaload, 1) := by decide +kernel
theorem dX8_clear_21 : decode cX8_clear 21 = .ok (.iconst 0, 1) := by decide +kernel
theorem dX8_clear_22 : decode cX8_clear 22 = .ok (.putfield 100, 3) := by decide +kernel
theorem dX8_clear_25 : decode cX8_clear 25 = .ok (.iload_n 2, 1) := by decide +kernel
theorem dX8_clear_26 : decode cX8_clear 26 = .ok (.ireturn, 1) := by decide +kernel
set_option maxRecDepth 20000 in
theorem ggX8_slot_X8_requireIndex : GoodIn wsX8_slot wsX8_requireIndex := goodIn_ca (goodIn_r _ [5, 6, 7] (by decide +kernel) (by decide +kernel)) (goodIn_sub (fun _ h => List.mem_cons_of_mem _ (List.mem_append_right _ h)) (by decide +kernel))
set_option maxRecDepth 20000 in
theorem gX8_slot_X8_requireIndex : GoodIn wsX8_slot (va_wsS RX8 88 yX8_requireIndex wsX8_requireIndex) := goodIn_app (goodIn_of _ (by decide +kernel)) ggX8_slot_X8_requireIndex
theorem dX8_slot_0 : decode cX8_slot 0 = .ok (.iload_n 1, 1) := by decide +kernel
theorem dX8_slot_1 : decode cX8_slot 1 = .ok (.iconst 2, 1) := by decide +kernel
theorem dX8_slot_2 : decode cX8_slot 2 = .ok (.invokestatic 88, 3) := by decide +kernel
theorem dX8_slot_5 : decode cX8_slot 5 = .ok (.iload_n 2, 1) := by decide +kernel
theorem dX8_slot_6 : decode cX8_slot 6 = .ok (.iconst 3, 1) := by decide +kernel
theorem dX8_slot_7 : decode cX8_slot 7 = .ok (.invokestatic 88, 3) := by decide +kernel
theorem dX8_slot_10 : decode cX8_slot 10 = .ok (.iload_n 3, 1) := by decide +kernel
theorem dX8_slot_11 : decode cX8_slot 11 = .ok (.iconst (-1), 1) := by decide +kernel
theorem dX8_slot_12 : decode cX8_slot 12 = .ok (.if_icmp .eq 8, 3) := by decide +kernel
theorem dX8_slot_15 : decode cX8_slot 15 = .ok (.iload_n 3, 1) := by decide +kernel
theorem dX8_slot_16 : decode cX8_slot 16 = .ok (.iconst 3, 1) := by decide +kernel
theorem dX8_slot_17 : decode cX8_slot 17 = .ok (.invokestatic 88, 3) := by decide +kernel
theorem dX8_slot_20 : decode cX8_slot 20 = .ok (.aload_n 0, 1) := by decide +kernel
theorem dX8_slot_21 : decode cX8_slot 21 = .ok (.getfield 34, 3) := by decide +kernel
theorem dX8_slot_24 : decode cX8_slot 24 = .ok (.iload_n 1, 1) := by decide +kernel
theorem dX8_slot_25 : decode cX8_slot 25 = .ok (.aaload, 1) := by decide +kernel
theorem dX8_slot_26 : decode cX8_slot 26 = .ok (.iload_n 2, 1) := by decide +kernel
theorem dX8_slot_27 : decode cX8_slot 27 = .ok (.iaload, 1) := by decide +kernel
theorem dX8_slot_28 : decode cX8_slot 28 = .ok (.istore 4, 2) := by decide +kernel
theorem dX8_slot_30 : decode cX8_slot 30 = .ok (.aload_n 0, 1) := by decide +kernel
theorem dX8_slot_31 : decode cX8_slot 31 = .ok (.getfield 34, 3) := by decide +kernel
theorem dX8_slot_34 : decode cX8_slot 34 = .ok (.iload_n 1, 1) := by decide +kernel
theorem dX8_slot_35 : decode cX8_slot 35 = .ok (.aaload, 1) := by decide +kernel
theorem dX8_slot_36 : decode cX8_slot 36 = .ok (.iload_n 2, 1) := by decide +kernel
theorem dX8_slot_37 : decode cX8_slot 37 = .ok (.iload_n 3, 1) := by decide +kernel
theorem dX8_slot_38 : decode cX8_slot 38 = .ok (.iastore, 1) := by decide +kernel
theorem dX8_slot_39 : decode cX8_slot 39 = .ok (.iload 4, 2) := by decide +kernel
theorem dX8_slot_41 : decode cX8_slot 41 = .ok (.ireturn, 1) := by decide +kernel
set_option maxRecDepth 20000 in
theorem ggX8_frame_X8_countOn : GoodIn wsX8_frame wsX8_countOn := goodIn_r _ [12, 13, 14, 197, 198, 199, 200, 201, 202, 203, 204, 205, 206, 207, 208, 209, 210, 211, 212, 213, 214, 215, 216, 217, 218, 219, 220, 221, 222, 223, 224, 225, 226] (by decide +kernel) (by decide +kernel)
set_option maxRecDepth 20000 in
theorem gX8_frame_X8_countOn : GoodIn wsX8_frame (wsV RX8 114 RX8 yX8_countOn wsX8_countOn) := goodIn_app (goodIn_of _ (by decide +kernel)) ggX8_frame_X8_countOn
set_option maxRecDepth 20000 in
theorem ggX8_frame_X7_agree : GoodIn wsX8_frame wsX7_agree := goodIn_r _ [19, 20, 21, 22, 23, 24, 25, 26, 27, 227, 228, 229, 230] (by decide +kernel) (by decide +kernel)
set_option maxRecDepth 20000 in
theorem gX8_frame_X7_agree : GoodIn wsX8_frame (wsV RX8 118 RX7 yX7_agree wsX7_agree) := goodIn_app (goodIn_of _ (by decide +kernel)) ggX8_frame_X7_agree
set_option maxRecDepth 20000 in
theorem ggX8_frame_X8_runSlot : GoodIn wsX8_frame wsX8_runSlot := goodIn_r _ [31, 32, 13, 33, 34, 35, 36, 37, 38, 39, 40, 41, 42, 43, 44, 45, 46, 47, 48, 49, 50, 51, 52, 53, 54, 55, 11, 56, 57, 58, 59, 60, 61, 62, 63, 64, 65, 14, 66, 67, 68, 69, 3, 70, 71, 72, 73, 74, 75, 76, 77, 78, 79, 80, 81, 82, 83, 84, 85, 86, 87, 88, 89, 90, 91, 92, 93, 94, 95, 96, 97, 98, 99, 100, 101, 102, 103, 104, 105, 106, 107, 108, 109, 110, 111, 112, 113, 114, 115, 1, 116, 117, 118, 119, 120, 121, 122, 123, 124, 125, 126, 127, 128, 129, 130, 131, 132, 133, 134, 135, 136, 7, 137, 8, 9, 10, 12, 138, 139, 140, 141, 142, 143, 144, 145, 146, 147, 148, 149, 197, 198, 199, 200, 201, 202, 203, 204, 205, 206, 207, 208, 209, 210, 211, 212, 231, 232, 233, 234, 235, 213, 214, 215, 216, 217, 218, 219, 220, 221, 222, 223, 224, 225, 226, 236, 237, 238, 227, 228, 229, 230, 239, 240, 241, 242] (by decide +kernel) (by decide +kernel)
set_option maxRecDepth 20000 in
theorem gX8_frame_X8_runSlot : GoodIn wsX8_frame (wsV RX8 121 RX8 yX8_runSlot wsX8_runSlot) := goodIn_app (goodIn_of _ (by decide +kernel)) ggX8_frame_X8_runSlot
set_option maxRecDepth 20000 in
theorem ggX8_frame_X8_scrub : GoodIn wsX8_frame wsX8_scrub := goodIn_r _ [153, 1, 13, 14, 154, 155, 126, 127, 128, 156, 81, 82, 83, 84, 85, 86, 87, 88, 89, 90, 91, 92, 93, 110, 111, 112, 11, 113, 114, 115, 116, 117, 118, 119, 120, 121, 122, 123, 124, 125, 197, 198, 199, 200, 201, 202, 203, 204, 205, 206, 207, 208, 209, 210, 211, 212, 213, 214, 215, 216, 217, 218, 219, 220, 221, 222, 223, 224, 225, 226, 236, 237, 238, 239, 240, 241, 242] (by decide +kernel) (by decide +kernel)
set_option maxRecDepth 20000 in
theorem gX8_frame_X8_scrub : GoodIn wsX8_frame (wsV RX8 125 RX8 yX8_scrub wsX8_scrub) := goodIn_app (goodIn_of _ (by decide +kernel)) ggX8_frame_X8_scrub
set_option maxRecDepth 20000 in
theorem ggX8_frame_X8_tickClocks : GoodIn wsX8_frame wsX8_tickClocks := goodIn_r _ [160, 13, 161, 162, 197, 198, 199, 200, 201, 202, 203, 204, 205, 206, 207, 208, 209, 210, 211, 212, 213, 214, 215, 216, 217, 218, 219, 220, 221, 222, 223, 224, 225, 226] (by decide +kernel) (by decide +kernel)
set_option maxRecDepth 20000 in
theorem gX8_frame_X8_tickClocks : GoodIn wsX8_frame (wsV RX8 128 RX8 yX8_tickClocks wsX8_tickClocks) := goodIn_app (goodIn_of _ (by decide +kernel)) ggX8_frame_X8_tickClocks
set_option maxRecDepth 20000 in
theorem ggX8_frame_X8_holdClocksTogether : GoodIn wsX8_frame wsX8_holdClocksTogether := goodIn_r _ [166, 13, 161, 167, 168, 169, 11, 170, 171, 172, 173, 38, 174, 175, 176, 177, 178, 51, 179, 180, 181, 24, 182, 183, 184, 185, 197, 198, 199, 200, 201, 202, 203, 204, 205, 206, 207, 208, 209, 210, 211, 212, 213, 214, 215, 216, 217, 218, 219, 220, 221, 222, 223, 224, 225, 226] (by decide +kernel) (by decide +kernel)
set_option maxRecDepth 20000 in
theorem gX8_frame_X8_holdClocksTogether : GoodIn wsX8_frame (wsV RX8 131 RX8 yX8_holdClocksTogether wsX8_holdClocksTogether) := goodIn_app (goodIn_of _ (by decide +kernel)) ggX8_frame_X8_holdClocksTogether
set_option maxRecDepth 20000 in
theorem ggX8_frame_X0_move : GoodIn wsX8_frame wsX0_move := goodIn_r _ [190, 191, 192, 184, 24, 185, 193, 181, 182, 194, 195, 196, 178, 51, 179, 180, 183, 243, 244, 245] (by decide +kernel) (by decide +kernel)
set_option maxRecDepth 20000 in
theorem gX8_frame_X0_move : GoodIn wsX8_frame (wsV RX8 134 RX0 yX0_move wsX0_move) := goodIn_app (goodIn_of _ (by decide +kernel)) ggX8_frame_X0_move
theorem dX8_frame_0 : decode cX8_frame 0 = .ok (.aload_n 0, 1) := by decide +kernel
theorem dX8_frame_1 : decode cX8_frame 1 = .ok (.dup, 1) := by decide +kernel
theorem dX8_frame_2 : decode cX8_frame 2 = .ok (.getfield 63, 3) := by decide +kernel
theorem dX8_frame_5 : decode cX8_frame 5 = .ok (.iconst 1, 1) := by decide +kernel
theorem dX8_frame_6 : decode cX8_frame 6 = .ok (.iadd, 1) := by decide +kernel
theorem dX8_frame_7 : decode cX8_frame 7 = .ok (.putfield 63, 3) := by decide +kernel
theorem dX8_frame_10 : decode cX8_frame 10 = .ok (.aload_n 0, 1) := by decide +kernel
theorem dX8_frame_11 : decode cX8_frame 11 = .ok (.invokevirtual 114, 3) := by decide +kernel
theorem dX8_frame_14 : decode cX8_frame 14 = .ok (.ifCond .ne 8, 3) := by decide +kernel
theorem dX8_frame_17 : decode cX8_frame 17 = .ok (.aload_n 0, 1) := by decide +kernel
theorem dX8_frame_18 : decode cX8_frame 18 = .ok (.iconst 1, 1) := by decide +kernel
theorem dX8_frame_19 : decode cX8_frame 19 = .ok (.putfield 81, 3) := by decide +kernel
theorem dX8_frame_22 : decode cX8_frame 22 = .ok (.iconst 0, 1) := by decide +kernel
theorem dX8_frame_23 : decode cX8_frame 23 = .ok (.istore_n 1, 1) := by decide +kernel
theorem dX8_frame_24 : decode cX8_frame 24 = .ok (.iload_n 1, 1) := by decide +kernel
theorem dX8_frame_25 : decode cX8_frame 25 = .ok (.iconst 4, 1) := by decide +kernel
theorem dX8_frame_26 : decode cX8_frame 26 = .ok (.if_icmp .ge 18, 3) := by decide +kernel
theorem dX8_frame_29 : decode cX8_frame 29 = .ok (.aload_n 0, 1) := by decide +kernel
theorem dX8_frame_30 : decode cX8_frame 30 = .ok (.getfield 39, 3) := by decide +kernel
theorem dX8_frame_33 : decode cX8_frame 33 = .ok (.iload_n 1, 1) := by decide +kernel
theorem dX8_frame_34 : decode cX8_frame 34 = .ok (.aaload, 1) := by decide +kernel
theorem dX8_frame_35 : decode cX8_frame 35 = .ok (.invokevirtual 118, 3) := by decide +kernel
theorem dX8_frame_38 : decode cX8_frame 38 = .ok (.iinc 1 1, 3) := by decide +kernel
theorem dX8_frame_41 : decode cX8_frame 41 = .ok (.goto (-17), 3) := by decide +kernel
theorem dX8_frame_44 : decode cX8_frame 44 = .ok (.iconst 0, 1) := by decide +kernel
theorem dX8_frame_45 : decode cX8_frame 45 = .ok (.istore_n 1, 1) := by decide +kernel
theorem dX8_frame_46 : decode cX8_frame 46 = .ok (.iload_n 1, 1) := by decide +kernel
theorem dX8_frame_47 : decode cX8_frame 47 = .ok (.iconst 3, 1) := by decide +kernel
theorem dX8_frame_48 : decode cX8_frame 48 = .ok (.if_icmp .ge 31, 3) := by decide +kernel
theorem dX8_frame_51 : decode cX8_frame 51 = .ok (.aload_n 0, 1) := by decide +kernel
theorem dX8_frame_52 : decode cX8_frame 52 = .ok (.getfield 34, 3) := by decide +kernel
theorem dX8_frame_55 : decode cX8_frame 55 = .ok (.aload_n 0, 1) := by decide +kernel
theorem dX8_frame_56 : decode cX8_frame 56 = .ok (.getfield 67, 3) := by decide +kernel
theorem dX8_frame_59 : decode cX8_frame 59 = .ok (.aaload, 1) := by decide +kernel
theorem dX8_frame_60 : decode cX8_frame 60 = .ok (.iload_n 1, 1) := by decide +kernel
theorem dX8_frame_61 : decode cX8_frame 61 = .ok (.iaload, 1) := by decide +kernel
theorem dX8_frame_62 : decode cX8_frame 62 = .ok (.istore_n 2, 1) := by decide +kernel
theorem dX8_frame_63 : decode cX8_frame 63 = .ok (.iload_n 2, 1) := by decide +kernel
theorem dX8_frame_64 : decode cX8_frame 64 = .ok (.iconst (-1), 1) := by decide +kernel
theorem dX8_frame_65 : decode cX8_frame 65 = .ok (.if_icmp .eq 8, 3) := by decide +kernel
theorem dX8_frame_68 : decode cX8_frame 68 = .ok (.aload_n 0, 1) := by decide +kernel
theorem dX8_frame_69 : decode cX8_frame 69 = .ok (.iload_n 2, 1) := by decide +kernel
theorem dX8_frame_70 : decode cX8_frame 70 = .ok (.invokevirtual 121, 3) := by decide +kernel
theorem dX8_frame_73 : decode cX8_frame 73 = .ok (.iinc 1 1, 3) := by decide +kernel
theorem dX8_frame_76 : decode cX8_frame 76 = .ok (.goto (-30), 3) := by decide +kernel
theorem dX8_frame_79 : decode cX8_frame 79 = .ok (.aload_n 0, 1) := by decide +kernel
theorem dX8_frame_80 : decode cX8_frame 80 = .ok (.invokevirtual 125, 3) := by decide +kernel
theorem dX8_frame_83 : decode cX8_frame 83 = .ok (.aload_n 0, 1) := by decide +kernel
theorem dX8_frame_84 : decode cX8_frame 84 = .ok (.invokevirtual 128, 3) := by decide +kernel
theorem dX8_frame_87 : decode cX8_frame 87 = .ok (.aload_n 0, 1) := by decide +kernel
theorem dX8_frame_88 : decode cX8_frame 88 = .ok (.invokevirtual 114, 3) := by decide +kernel
theorem dX8_frame_91 : decode cX8_frame 91 = .ok (.iconst 3, 1) := by decide +kernel
theorem dX8_frame_92 : decode cX8_frame 92 = .ok (.if_icmp .ne 7, 3) := by decide +kernel
theorem dX8_frame_95 : decode cX8_frame 95 = .ok (.aload_n 0, 1) := by decide +kernel
theorem dX8_frame_96 : decode cX8_frame 96 = .ok (.invokevirtual 131, 3) := by decide +kernel
theorem dX8_frame_99 : decode cX8_frame 99 = .ok (.iconst 0, 1) := by decide +kernel
theorem dX8_frame_100 : decode cX8_frame 100 = .ok (.istore_n 1, 1) := by decide +kernel
theorem dX8_frame_101 : decode cX8_frame 101 = .ok (.iload_n 1, 1) := by decide +kernel
theorem dX8_frame_102 : decode cX8_frame 102 = .ok (.iconst 4, 1) := by decide +kernel
theorem dX8_frame_103 : decode cX8_frame 103 = .ok (.if_icmp .ge 24, 3) := by decide +kernel
theorem dX8_frame_106 : decode cX8_frame 106 = .ok (.aload_n 0, 1) := by decide +kernel
theorem dX8_frame_107 : decode cX8_frame 107 = .ok (.getfield 45, 3) := by decide +kernel
theorem dX8_frame_110 : decode cX8_frame 110 = .ok (.iload_n 1, 1) := by decide +kernel
theorem dX8_frame_111 : decode cX8_frame 111 = .ok (.aaload, 1) := by decide +kernel
theorem dX8_frame_112 : decode cX8_frame 112 = .ok (.aload_n 0, 1) := by decide +kernel
theorem dX8_frame_113 : decode cX8_frame 113 = .ok (.getfield 49, 3) := by decide +kernel
theorem dX8_frame_116 : decode cX8_frame 116 = .ok (.iload_n 1, 1) := by decide +kernel
theorem dX8_frame_117 : decode cX8_frame 117 = .ok (.iaload, 1) := by decide +kernel
theorem dX8_frame_118 : decode cX8_frame 118 = .ok (.invokevirtual 134, 3) := by decide +kernel
theorem dX8_frame_121 : decode cX8_frame 121 = .ok (.iinc 1 1, 3) := by decide +kernel
theorem dX8_frame_124 : decode cX8_frame 124 = .ok (.goto (-23), 3) := by decide +kernel
theorem dX8_frame_127 : decode cX8_frame 127 = .ok (.aload_n 0, 1) := by decide +kernel
theorem dX8_frame_128 : decode cX8_frame 128 = .ok (.invokevirtual 114, 3) := by decide +kernel
theorem dX8_frame_131 : decode cX8_frame 131 = .ok (.ireturn, 1) := by decide +kernel
theorem dX8_time_0 : decode cX8_time 0 = .ok (.aload_n 0, 1) := by decide +kernel
theorem dX8_time_1 : decode cX8_time 1 = .ok (.getfield 63, 3) := by decide +kernel
theorem dX8_time_4 : decode cX8_time 4 = .ok (.ireturn, 1) := by decide +kernel
theorem dX8_mode_0 : decode cX8_mode 0 = .ok (.aload_n 0, 1) := by decide +kernel
theorem dX8_mode_1 : decode cX8_mode 1 = .ok (.getfield 67, 3) := by decide +kernel
theorem dX8_mode_4 : decode cX8_mode 4 = .ok (.ireturn, 1) := by decide +kernel
set_option maxRecDepth 20000 in
theorem ggX8_output_X8_requireIndex : GoodIn wsX8_output wsX8_requireIndex := goodIn_ca (goodIn_r _ [5, 6, 7] (by decide +kernel) (by decide +kernel)) (goodIn_sub (fun _ h => List.mem_cons_of_mem _ (List.mem_append_right _ h)) (by decide +kernel))
set_option maxRecDepth 20000 in
theorem gX8_output_X8_requireIndex : GoodIn wsX8_output (va_wsS RX8 88 yX8_requireIndex wsX8_requireIndex) := goodIn_app (goodIn_of _ (by decide +kernel)) ggX8_output_X8_requireIndex
theorem dX8_output_0 : decode cX8_output 0 = .ok (.iload_n 1, 1) := by decide +kernel
theorem dX8_output_1 : decode cX8_output 1 = .ok (.iconst 4, 1) := by decide +kernel
theorem dX8_output_2 : decode cX8_output 2 = .ok (.invokestatic 88, 3) := by decide +kernel
theorem dX8_output_5 : decode cX8_output 5 = .ok (.aload_n 0, 1) := by decide +kernel
theorem dX8_output_6 : decode cX8_output 6 = .ok (.getfield 49, 3) := by decide +kernel
theorem dX8_output_9 : decode cX8_output 9 = .ok (.iload_n 1, 1) := by decide +kernel
theorem dX8_output_10 : decode cX8_output 10 = .ok (.iaload, 1) := by decide +kernel
theorem dX8_output_11 : decode cX8_output 11 = .ok (.ireturn, 1) := by decide +kernel
set_option maxRecDepth 20000 in
theorem ggX8_plain_X8_requireIndex : GoodIn wsX8_plain wsX8_requireIndex := goodIn_ca (goodIn_r _ [5, 6, 7] (by decide +kernel) (by decide +kernel)) (goodIn_sub (fun _ h => List.mem_cons_of_mem _ (List.mem_append_right _ h)) (by decide +kernel))
set_option maxRecDepth 20000 in
theorem gX8_plain_X8_requireIndex : GoodIn wsX8_plain (va_wsS RX8 88 yX8_requireIndex wsX8_requireIndex) := goodIn_app (goodIn_of _ (by decide +kernel)) ggX8_plain_X8_requireIndex
theorem dX8_plain_0 : decode cX8_plain 0 = .ok (.iload_n 1, 1) := by decide +kernel
theorem dX8_plain_1 : decode cX8_plain 1 = .ok (.iconst 4, 1) := by decide +kernel
theorem dX8_plain_2 : decode cX8_plain 2 = .ok (.invokestatic 88, 3) := by decide +kernel
theorem dX8_plain_5 : decode cX8_plain 5 = .ok (.aload_n 0, 1) := by decide +kernel
theorem dX8_plain_6 : decode cX8_plain 6 = .ok (.getfield 53, 3) := by decide +kernel
theorem dX8_plain_9 : decode cX8_plain 9 = .ok (.iload_n 1, 1) := by decide +kernel
theorem dX8_plain_10 : decode cX8_plain 10 = .ok (.iaload, 1) := by decide +kernel
theorem dX8_plain_11 : decode cX8_plain 11 = .ok (.ireturn, 1) := by decide +kernel
theorem dX8_isPlain_0 : decode cX8_isPlain 0 = .ok (.iconst 0, 1) := by decide +kernel
theorem dX8_isPlain_1 : decode cX8_isPlain 1 = .ok (.istore_n 1, 1) := by decide +kernel
theorem dX8_isPlain_2 : decode cX8_isPlain 2 = .ok (.iload_n 1, 1) := by decide +kernel
theorem dX8_isPlain_3 : decode cX8_isPlain 3 = .ok (.iconst 4, 1) := by decide +kernel
theorem dX8_isPlain_4 : decode cX8_isPlain 4 = .ok (.if_icmp .ge 26, 3) := by decide +kernel
theorem dX8_isPlain_7 : decode cX8_isPlain 7 = .ok (.aload_n 0, 1) := by decide +kernel
theorem dX8_isPlain_8 : decode cX8_isPlain 8 = .ok (.getfield 49, 3) := by decide +kernel
theorem dX8_isPlain_11 : decode cX8_isPlain 11 = .ok (.iload_n 1, 1) := by decide +kernel
theorem dX8_isPlain_12 : decode cX8_isPlain 12 = .ok (.iaload, 1) := by decide +kernel
theorem dX8_isPlain_13 : decode cX8_isPlain 13 = .ok (.aload_n 0, 1) := by decide +kernel
theorem dX8_isPlain_14 : decode cX8_isPlain 14 = .ok (.getfield 53, 3) := by decide +kernel
theorem dX8_isPlain_17 : decode cX8_isPlain 17 = .ok (.iload_n 1, 1) := by decide +kernel
theorem dX8_isPlain_18 : decode cX8_isPlain 18 = .ok (.iaload, 1) := by decide +kernel
theorem dX8_isPlain_19 : decode cX8_isPlain 19 = .ok (.if_icmp .eq 5, 3) := by decide +kernel
theorem dX8_isPlain_22 : decode cX8_isPlain 22 = .ok (.iconst 0, 1) := by decide +kernel
theorem dX8_isPlain_23 : decode cX8_isPlain 23 = .ok (.ireturn, 1) := by decide +kernel
theorem dX8_isPlain_24 : decode cX8_isPlain 24 = .ok (.iinc 1 1, 3) := by decide +kernel
theorem dX8_isPlain_27 : decode cX8_isPlain 27 = .ok (.goto (-25), 3) := by decide +kernel
theorem dX8_isPlain_30 : decode cX8_isPlain 30 = .ok (.iconst 1, 1) := by decide +kernel
theorem dX8_isPlain_31 : decode cX8_isPlain 31 = .ok (.ireturn, 1) := by decide +kernel
set_option maxRecDepth 20000 in
theorem ggX8_word_X8_requireIndex : GoodIn wsX8_word wsX8_requireIndex := goodIn_ca (goodIn_r _ [6, 7, 8] (by decide +kernel) (by decide +kernel)) (goodIn_sub (fun _ h => List.mem_cons_of_mem _ (List.mem_append_right _ h)) (by decide +kernel))
set_option maxRecDepth 20000 in
theorem gX8_word_X8_requireIndex : GoodIn wsX8_word (va_wsS RX8 88 yX8_requireIndex wsX8_requireIndex) := goodIn_app (goodIn_of _ (by decide +kernel)) ggX8_word_X8_requireIndex
set_option maxRecDepth 20000 in
theorem ggX8_word_X4_seen : GoodIn wsX8_word wsX4_seen := goodIn_r _ [13, 14, 15, 16, 17, 18, 19, 50, 51, 52] (by decide +kernel) (by decide +kernel)
set_option maxRecDepth 20000 in
theorem gX8_word_X4_seen : GoodIn wsX8_word (wsV RX8 141 RX4 yX4_seen wsX4_seen) := goodIn_app (goodIn_of _ (by decide +kernel)) ggX8_word_X4_seen
theorem dX8_word_0 : decode cX8_word 0 = .ok (.iload_n 1, 1) := by decide +kernel
theorem dX8_word_1 : decode cX8_word 1 = .ok (.iconst 3, 1) := by decide +kernel
theorem dX8_word_2 : decode cX8_word 2 = .ok (.invokestatic 88, 3) := by decide +kernel
theorem dX8_word_5 : decode cX8_word 5 = .ok (.iload_n 2, 1) := by decide +kernel
theorem dX8_word_6 : decode cX8_word 6 = .ok (.iconst 3, 1) := by decide +kernel
theorem dX8_word_7 : decode cX8_word 7 = .ok (.invokestatic 88, 3) := by decide +kernel
theorem dX8_word_10 : decode cX8_word 10 = .ok (.iload_n 3, 1) := by decide +kernel
theorem dX8_word_11 : decode cX8_word 11 = .ok (.bipush 6, 2) := by decide +kernel
theorem dX8_word_13 : decode cX8_word 13 = .ok (.invokestatic 88, 3) := by decide +kernel
theorem dX8_word_16 : decode cX8_word 16 = .ok (.aload_n 0, 1) := by decide +kernel
theorem dX8_word_17 : decode cX8_word 17 = .ok (.getfield 11, 3) := by decide +kernel
theorem dX8_word_20 : decode cX8_word 20 = .ok (.iload_n 1, 1) := by decide +kernel
theorem dX8_word_21 : decode cX8_word 21 = .ok (.aaload, 1) := by decide +kernel
theorem dX8_word_22 : decode cX8_word 22 = .ok (.getfield 137, 3) := by decide +kernel
theorem dX8_word_25 : decode cX8_word 25 = .ok (.bipush 6, 2) := by decide +kernel
theorem dX8_word_27 : decode cX8_word 27 = .ok (.iload_n 2, 1) := by decide +kernel
theorem dX8_word_28 : decode cX8_word 28 = .ok (.imul, 1) := by decide +kernel
theorem dX8_word_29 : decode cX8_word 29 = .ok (.iload_n 3, 1) := by decide +kernel
theorem dX8_word_30 : decode cX8_word 30 = .ok (.iadd, 1) := by decide +kernel
theorem dX8_word_31 : decode cX8_word 31 = .ok (.invokevirtual 141, 3) := by decide +kernel
theorem dX8_word_34 : decode cX8_word 34 = .ok (.ireturn, 1) := by decide +kernel
set_option maxRecDepth 20000 in
theorem ggX8_flip_X8_requireIndex : GoodIn wsX8_flip wsX8_requireIndex := goodIn_ca (goodIn_r _ [7, 8, 9] (by decide +kernel) (by decide +kernel)) (goodIn_sub (fun _ h => List.mem_cons_of_mem _ (List.mem_append_right _ h)) (by decide +kernel))
set_option maxRecDepth 20000 in
theorem gX8_flip_X8_requireIndex : GoodIn wsX8_flip (va_wsS RX8 88 yX8_requireIndex wsX8_requireIndex) := goodIn_app (goodIn_of _ (by decide +kernel)) ggX8_flip_X8_requireIndex
set_option maxRecDepth 20000 in
theorem ggX8_flip_X4_turn : GoodIn wsX8_flip wsX4_turn := goodIn_r _ [14, 15, 16, 17, 18, 19, 20, 21, 22, 53, 54, 55] (by decide +kernel) (by decide +kernel)
set_option maxRecDepth 20000 in
theorem gX8_flip_X4_turn : GoodIn wsX8_flip (wsV RX8 147 RX4 yX4_turn wsX4_turn) := goodIn_app (goodIn_of _ (by decide +kernel)) ggX8_flip_X4_turn
theorem dX8_flip_0 : decode cX8_flip 0 = .ok (.iload_n 1, 1) := by decide +kernel
theorem dX8_flip_1 : decode cX8_flip 1 = .ok (.iconst 3, 1) := by decide +kernel
theorem dX8_flip_2 : decode cX8_flip 2 = .ok (.invokestatic 88, 3) := by decide +kernel
theorem dX8_flip_5 : decode cX8_flip 5 = .ok (.iload_n 2, 1) := by decide +kernel
theorem dX8_flip_6 : decode cX8_flip 6 = .ok (.iconst 3, 1) := by decide +kernel
theorem dX8_flip_7 : decode cX8_flip 7 = .ok (.invokestatic 88, 3) := by decide +kernel
theorem dX8_flip_10 : decode cX8_flip 10 = .ok (.iload_n 3, 1) := by decide +kernel
theorem dX8_flip_11 : decode cX8_flip 11 = .ok (.bipush 6, 2) := by decide +kernel
theorem dX8_flip_13 : decode cX8_flip 13 = .ok (.invokestatic 88, 3) := by decide +kernel
theorem dX8_flip_16 : decode cX8_flip 16 = .ok (.iload 4, 2) := by decide +kernel
theorem dX8_flip_18 : decode cX8_flip 18 = .ok (.bipush 16, 2) := by decide +kernel
theorem dX8_flip_20 : decode cX8_flip 20 = .ok (.invokestatic 88, 3) := by decide +kernel
theorem dX8_flip_23 : decode cX8_flip 23 = .ok (.aload_n 0, 1) := by decide +kernel
theorem dX8_flip_24 : decode cX8_flip 24 = .ok (.iconst 1, 1) := by decide +kernel
theorem dX8_flip_25 : decode cX8_flip 25 = .ok (.putfield 77, 3) := by decide +kernel
theorem dX8_flip_28 : decode cX8_flip 28 = .ok (.aload_n 0, 1) := by decide +kernel
theorem dX8_flip_29 : decode cX8_flip 29 = .ok (.getfield 11, 3) := by decide +kernel
theorem dX8_flip_32 : decode cX8_flip 32 = .ok (.iload_n 1, 1) := by decide +kernel
theorem dX8_flip_33 : decode cX8_flip 33 = .ok (.aaload, 1) := by decide +kernel
theorem dX8_flip_34 : decode cX8_flip 34 = .ok (.getfield 137, 3) := by decide +kernel
theorem dX8_flip_37 : decode cX8_flip 37 = .ok (.bipush 6, 2) := by decide +kernel
theorem dX8_flip_39 : decode cX8_flip 39 = .ok (.iload_n 2, 1) := by decide +kernel
theorem dX8_flip_40 : decode cX8_flip 40 = .ok (.imul, 1) := by decide +kernel
theorem dX8_flip_41 : decode cX8_flip 41 = .ok (.iload_n 3, 1) := by decide +kernel
theorem dX8_flip_42 : decode cX8_flip 42 = .ok (.iadd, 1) := by decide +kernel
theorem dX8_flip_43 : decode cX8_flip 43 = .ok (.iload 4, 2) := by decide +kernel
theorem dX8_flip_45 : decode cX8_flip 45 = .ok (.invokevirtual 147, 3) := by decide +kernel
theorem dX8_flip_48 : decode cX8_flip 48 = .ok (.ireturn, 1) := by decide +kernel
set_option maxRecDepth 20000 in
theorem ggX8_stick_X8_requireIndex : GoodIn wsX8_stick wsX8_requireIndex := goodIn_ca (goodIn_r _ [6, 7, 8] (by decide +kernel) (by decide +kernel)) (goodIn_sub (fun _ h => List.mem_cons_of_mem _ (List.mem_append_right _ h)) (by decide +kernel))
set_option maxRecDepth 20000 in
theorem gX8_stick_X8_requireIndex : GoodIn wsX8_stick (va_wsS RX8 88 yX8_requireIndex wsX8_requireIndex) := goodIn_app (goodIn_of _ (by decide +kernel)) ggX8_stick_X8_requireIndex
set_option maxRecDepth 20000 in
theorem ggX8_stick_X1_hasStuckBit : GoodIn wsX8_stick wsX1_hasStuckBit := goodIn_r _ [13, 14, 38, 39, 40, 41, 42, 43, 44, 45, 46, 47, 48, 49, 50, 51] (by decide +kernel) (by decide +kernel)
set_option maxRecDepth 20000 in
theorem gX8_stick_X1_hasStuckBit : GoodIn wsX8_stick (wsV RX8 151 RX1 yX1_hasStuckBit wsX1_hasStuckBit) := goodIn_app (goodIn_of _ (by decide +kernel)) ggX8_stick_X1_hasStuckBit
set_option maxRecDepth 20000 in
theorem ggX8_stick_X1_letStick : GoodIn wsX8_stick wsX1_letStick := goodIn_r _ [18, 14, 19, 20, 21, 38, 39, 40, 41, 42, 43, 44, 45, 46, 47, 48, 49, 50, 51] (by decide +kernel) (by decide +kernel)
set_option maxRecDepth 20000 in
theorem gX8_stick_X1_letStick : GoodIn wsX8_stick (wsV RX8 155 RX1 yX1_letStick wsX1_letStick) := goodIn_app (goodIn_of _ (by decide +kernel)) ggX8_stick_X1_letStick
theorem dX8_stick_0 : decode cX8_stick 0 = .ok (.iload_n 1, 1) := by decide +kernel
theorem dX8_stick_1 : decode cX8_stick 1 = .ok (.iconst 3, 1) := by decide +kernel
theorem dX8_stick_2 : decode cX8_stick 2 = .ok (.invokestatic 88, 3) := by decide +kernel
theorem dX8_stick_5 : decode cX8_stick 5 = .ok (.iload_n 2, 1) := by decide +kernel
theorem dX8_stick_6 : decode cX8_stick 6 = .ok (.iconst 4, 1) := by decide +kernel
theorem dX8_stick_7 : decode cX8_stick 7 = .ok (.invokestatic 88, 3) := by decide +kernel
theorem dX8_stick_10 : decode cX8_stick 10 = .ok (.iload_n 3, 1) := by decide +kernel
theorem dX8_stick_11 : decode cX8_stick 11 = .ok (.bipush 16, 2) := by decide +kernel
theorem dX8_stick_13 : decode cX8_stick 13 = .ok (.invokestatic 88, 3) := by decide +kernel
theorem dX8_stick_16 : decode cX8_stick 16 = .ok (.aload_n 0, 1) := by decide +kernel
theorem dX8_stick_17 : decode cX8_stick 17 = .ok (.iconst 1, 1) := by decide +kernel
theorem dX8_stick_18 : decode cX8_stick 18 = .ok (.putfield 77, 3) := by decide +kernel
theorem dX8_stick_21 : decode cX8_stick 21 = .ok (.aload_n 0, 1) := by decide +kernel
theorem dX8_stick_22 : decode cX8_stick 22 = .ok (.getfield 11, 3) := by decide +kernel
theorem dX8_stick_25 : decode cX8_stick 25 = .ok (.iload_n 1, 1) := by decide +kernel
theorem dX8_stick_26 : decode cX8_stick 26 = .ok (.aaload, 1) := by decide +kernel
theorem dX8_stick_27 : decode cX8_stick 27 = .ok (.invokevirtual 151, 3) := by decide +kernel
theorem dX8_stick_30 : decode cX8_stick 30 = .ok (.istore 5, 2) := by decide +kernel
theorem dX8_stick_32 : decode cX8_stick 32 = .ok (.aload_n 0, 1) := by decide +kernel
theorem dX8_stick_33 : decode cX8_stick 33 = .ok (.getfield 11, 3) := by decide +kernel
theorem dX8_stick_36 : decode cX8_stick 36 = .ok (.iload_n 1, 1) := by decide +kernel
theorem dX8_stick_37 : decode cX8_stick 37 = .ok (.aaload, 1) := by decide +kernel
theorem dX8_stick_38 : decode cX8_stick 38 = .ok (.iload_n 2, 1) := by decide +kernel
theorem dX8_stick_39 : decode cX8_stick 39 = .ok (.iload_n 3, 1) := by decide +kernel
theorem dX8_stick_40 : decode cX8_stick 40 = .ok (.iload 4, 2) := by decide +kernel
theorem dX8_stick_42 : decode cX8_stick 42 = .ok (.invokevirtual 155, 3) := by decide +kernel
theorem dX8_stick_45 : decode cX8_stick 45 = .ok (.iload 5, 2) := by decide +kernel
theorem dX8_stick_47 : decode cX8_stick 47 = .ok (.ireturn, 1) := by decide +kernel
set_option maxRecDepth 20000 in
theorem ggX8_fix_X8_requireIndex : GoodIn wsX8_fix wsX8_requireIndex := goodIn_ca (goodIn_r _ [6, 7, 8] (by decide +kernel) (by decide +kernel)) (goodIn_sub (fun _ h => List.mem_cons_of_mem _ (List.mem_append_right _ h)) (by decide +kernel))
set_option maxRecDepth 20000 in
theorem gX8_fix_X8_requireIndex : GoodIn wsX8_fix (va_wsS RX8 88 yX8_requireIndex wsX8_requireIndex) := goodIn_app (goodIn_of _ (by decide +kernel)) ggX8_fix_X8_requireIndex
set_option maxRecDepth 20000 in
theorem ggX8_fix_X1_hasStuckBit : GoodIn wsX8_fix wsX1_hasStuckBit := goodIn_r _ [13, 14, 31, 32, 33, 34, 35, 36, 37, 38, 39, 40, 41, 42, 43, 44] (by decide +kernel) (by decide +kernel)
set_option maxRecDepth 20000 in
theorem gX8_fix_X1_hasStuckBit : GoodIn wsX8_fix (wsV RX8 151 RX1 yX1_hasStuckBit wsX1_hasStuckBit) := goodIn_app (goodIn_of _ (by decide +kernel)) ggX8_fix_X1_hasStuckBit
theorem dX8_fix_0 : decode cX8_fix 0 = .ok (.iload_n 1, 1) := by decide +kernel
theorem dX8_fix_1 : decode cX8_fix 1 = .ok (.iconst 3, 1) := by decide +kernel
theorem dX8_fix_2 : decode cX8_fix 2 = .ok (.invokestatic 88, 3) := by decide +kernel
theorem dX8_fix_5 : decode cX8_fix 5 = .ok (.aload_n 0, 1) := by decide +kernel
theorem dX8_fix_6 : decode cX8_fix 6 = .ok (.getfield 11, 3) := by decide +kernel
theorem dX8_fix_9 : decode cX8_fix 9 = .ok (.iload_n 1, 1) := by decide +kernel
theorem dX8_fix_10 : decode cX8_fix 10 = .ok (.aaload, 1) := by decide +kernel
theorem dX8_fix_11 : decode cX8_fix 11 = .ok (.invokevirtual 151, 3) := by decide +kernel
theorem dX8_fix_14 : decode cX8_fix 14 = .ok (.istore_n 2, 1) := by decide +kernel
theorem dX8_fix_15 : decode cX8_fix 15 = .ok (.aload_n 0, 1) := by decide +kernel
theorem dX8_fix_16 : decode cX8_fix 16 = .ok (.getfield 11, 3) := by decide +kernel
theorem dX8_fix_19 : decode cX8_fix 19 = .ok (.iload_n 1, 1) := by decide +kernel
theorem dX8_fix_20 : decode cX8_fix 20 = .ok (.aaload, 1) := by decide +kernel
theorem dX8_fix_21 : decode cX8_fix 21 = .ok (.iconst (-1), 1) := by decide +kernel
theorem dX8_fix_22 : decode cX8_fix 22 = .ok (.putfield 159, 3) := by decide +kernel
theorem dX8_fix_25 : decode cX8_fix 25 = .ok (.iload_n 2, 1) := by decide +kernel
theorem dX8_fix_26 : decode cX8_fix 26 = .ok (.ireturn, 1) := by decide +kernel
set_option maxRecDepth 20000 in
theorem ggX8_isOn_X8_requireIndex : GoodIn wsX8_isOn wsX8_requireIndex := goodIn_ca (goodIn_r _ [6, 7, 8] (by decide +kernel) (by decide +kernel)) (goodIn_sub (fun _ h => List.mem_cons_of_mem _ (List.mem_append_right _ h)) (by decide +kernel))
set_option maxRecDepth 20000 in
theorem gX8_isOn_X8_requireIndex : GoodIn wsX8_isOn (va_wsS RX8 88 yX8_requireIndex wsX8_requireIndex) := goodIn_app (goodIn_of _ (by decide +kernel)) ggX8_isOn_X8_requireIndex
theorem dX8_isOn_0 : decode cX8_isOn 0 = .ok (.iload_n 1, 1) := by decide +kernel
theorem dX8_isOn_1 : decode cX8_isOn 1 = .ok (.iconst 3, 1) := by decide +kernel
theorem dX8_isOn_2 : decode cX8_isOn 2 = .ok (.invokestatic 88, 3) := by decide +kernel
theorem dX8_isOn_5 : decode cX8_isOn 5 = .ok (.aload_n 0, 1) := by decide +kernel
theorem dX8_isOn_6 : decode cX8_isOn 6 = .ok (.getfield 11, 3) := by decide +kernel
theorem dX8_isOn_9 : decode cX8_isOn 9 = .ok (.iload_n 1, 1) := by decide +kernel
theorem dX8_isOn_10 : decode cX8_isOn 10 = .ok (.aaload, 1) := by decide +kernel
theorem dX8_isOn_11 : decode cX8_isOn 11 = .ok (.getfield 162, 3) := by decide +kernel
theorem dX8_isOn_14 : decode cX8_isOn 14 = .ok (.ireturn, 1) := by decide +kernel
set_option maxRecDepth 20000 in
theorem ggX8_strikes_X8_requireIndex : GoodIn wsX8_strikes wsX8_requireIndex := goodIn_ca (goodIn_r _ [6, 7, 8] (by decide +kernel) (by decide +kernel)) (goodIn_sub (fun _ h => List.mem_cons_of_mem _ (List.mem_append_right _ h)) (by decide +kernel))
set_option maxRecDepth 20000 in
theorem gX8_strikes_X8_requireIndex : GoodIn wsX8_strikes (va_wsS RX8 88 yX8_requireIndex wsX8_requireIndex) := goodIn_app (goodIn_of _ (by decide +kernel)) ggX8_strikes_X8_requireIndex
theorem dX8_strikes_0 : decode cX8_strikes 0 = .ok (.iload_n 1, 1) := by decide +kernel
theorem dX8_strikes_1 : decode cX8_strikes 1 = .ok (.iconst 3, 1) := by decide +kernel
theorem dX8_strikes_2 : decode cX8_strikes 2 = .ok (.invokestatic 88, 3) := by decide +kernel
theorem dX8_strikes_5 : decode cX8_strikes 5 = .ok (.aload_n 0, 1) := by decide +kernel
theorem dX8_strikes_6 : decode cX8_strikes 6 = .ok (.getfield 11, 3) := by decide +kernel
theorem dX8_strikes_9 : decode cX8_strikes 9 = .ok (.iload_n 1, 1) := by decide +kernel
theorem dX8_strikes_10 : decode cX8_strikes 10 = .ok (.aaload, 1) := by decide +kernel
theorem dX8_strikes_11 : decode cX8_strikes 11 = .ok (.getfield 165, 3) := by decide +kernel
theorem dX8_strikes_14 : decode cX8_strikes 14 = .ok (.ireturn, 1) := by decide +kernel
set_option maxRecDepth 20000 in
theorem ggX8_shut_X8_requireIndex : GoodIn wsX8_shut wsX8_requireIndex := goodIn_ca (goodIn_r _ [6, 7, 8] (by decide +kernel) (by decide +kernel)) (goodIn_sub (fun _ h => List.mem_cons_of_mem _ (List.mem_append_left _ (List.mem_append_right _ h))) (by decide +kernel))
set_option maxRecDepth 20000 in
theorem gX8_shut_X8_requireIndex : GoodIn wsX8_shut (va_wsS RX8 88 yX8_requireIndex wsX8_requireIndex) := goodIn_app (goodIn_of _ (by decide +kernel)) ggX8_shut_X8_requireIndex
set_option maxRecDepth 20000 in
theorem ggX8_shut_X8_requireState : GoodIn wsX8_shut wsX8_requireState := goodIn_ca (goodIn_r _ [11, 12, 13] (by decide +kernel) (by decide +kernel)) (goodIn_sub (fun _ h => List.mem_cons_of_mem _ (List.mem_append_right _ h)) (by decide +kernel))
set_option maxRecDepth 20000 in
theorem gX8_shut_X8_requireState : GoodIn wsX8_shut (va_wsS RX8 168 yX8_requireState wsX8_requireState) := goodIn_app (goodIn_of _ (by decide +kernel)) ggX8_shut_X8_requireState
set_option maxRecDepth 20000 in
theorem ggX8_shut_X8_shutOff : GoodIn wsX8_shut wsX8_shutOff := goodIn_r _ [17, 1, 2, 18, 19, 20, 21, 22, 23, 24, 25, 26, 27, 28, 29, 30, 31, 32, 33, 38, 39, 40, 41, 42, 43, 44, 45, 46, 47, 48, 49, 50, 51, 52, 53, 54, 55, 56, 57, 58, 59, 60, 61, 62, 63, 64, 65, 66, 67, 68, 69, 70, 71] (by decide +kernel) (by decide +kernel)
set_option maxRecDepth 20000 in
theorem gX8_shut_X8_shutOff : GoodIn wsX8_shut (wsV RX8 171 RX8 yX8_shutOff wsX8_shutOff) := goodIn_app (goodIn_of _ (by decide +kernel)) ggX8_shut_X8_shutOff
set_option maxRecDepth 20000 in
theorem ggX8_shut_X8_countOn : GoodIn wsX8_shut wsX8_countOn := goodIn_r _ [37, 1, 2, 38, 39, 40, 41, 42, 43, 44, 45, 46, 47, 48, 49, 50, 51, 52, 53, 54, 55, 56, 57, 58, 59, 60, 61, 62, 63, 64, 65, 66, 67] (by decide +kernel) (by decide +kernel)
set_option maxRecDepth 20000 in
theorem gX8_shut_X8_countOn : GoodIn wsX8_shut (wsV RX8 114 RX8 yX8_countOn wsX8_countOn) := goodIn_app (goodIn_of _ (by decide +kernel)) ggX8_shut_X8_countOn
theorem dX8_shut_0 : decode cX8_shut 0 = .ok (.iload_n 1, 1) := by decide +kernel
theorem dX8_shut_1 : decode cX8_shut 1 = .ok (.iconst 3, 1) := by decide +kernel
theorem dX8_shut_2 : decode cX8_shut 2 = .ok (.invokestatic 88, 3) := by decide +kernel
theorem dX8_shut_5 : decode cX8_shut 5 = .ok (.aload_n 0, 1) := by decide +kernel
theorem dX8_shut_6 : decode cX8_shut 6 = .ok (.getfield 11, 3) := by decide +kernel
theorem dX8_shut_9 : decode cX8_shut 9 = .ok (.iload_n 1, 1) := by decide +kernel
theorem dX8_shut_10 : decode cX8_shut 10 = .ok (.aaload, 1) := by decide +kernel
theorem dX8_shut_11 : decode cX8_shut 11 = .ok (.getfield 162, 3) := by decide +kernel
theorem dX8_shut_14 : decode cX8_shut 14 = .ok (.invokestatic 168, 3) := by decide +kernel
theorem dX8_shut_17 : decode cX8_shut 17 = .ok (.aload_n 0, 1) := by decide +kernel
theorem dX8_shut_18 : decode cX8_shut 18 = .ok (.iload_n 1, 1) := by decide +kernel
theorem dX8_shut_19 : decode cX8_shut 19 = .ok (.bipush 104, 2) := by decide +kernel
theorem dX8_shut_21 : decode cX8_shut 21 = .ok (.invokevirtual 171, 3) := by decide +kernel
theorem dX8_shut_24 : decode cX8_shut 24 = .ok (.aload_n 0, 1) := by decide +kernel
theorem dX8_shut_25 : decode cX8_shut 25 = .ok (.invokevirtual 114, 3) := by decide +kernel
theorem dX8_shut_28 : decode cX8_shut 28 = .ok (.ireturn, 1) := by decide +kernel
set_option maxRecDepth 20000 in
theorem ggX8_test_X8_requireIndex : GoodIn wsX8_test wsX8_requireIndex := goodIn_ca (goodIn_r _ [7, 8, 9] (by decide +kernel) (by decide +kernel)) (goodIn_sub (fun _ h => List.mem_cons_of_mem _ (List.mem_append_left _ (List.mem_append_right _ h))) (by decide +kernel))
set_option maxRecDepth 20000 in
theorem gX8_test_X8_requireIndex : GoodIn wsX8_test (va_wsS RX8 88 yX8_requireIndex wsX8_requireIndex) := goodIn_app (goodIn_of _ (by decide +kernel)) ggX8_test_X8_requireIndex
set_option maxRecDepth 20000 in
theorem ggX8_test_X8_requireState : GoodIn wsX8_test wsX8_requireState := goodIn_ca (goodIn_r _ [12, 13, 14] (by decide +kernel) (by decide +kernel)) (goodIn_sub (fun _ h => List.mem_cons_of_mem _ (List.mem_append_right _ h)) (by decide +kernel))
set_option maxRecDepth 20000 in
theorem gX8_test_X8_requireState : GoodIn wsX8_test (va_wsS RX8 168 yX8_requireState wsX8_requireState) := goodIn_app (goodIn_of _ (by decide +kernel)) ggX8_test_X8_requireState
set_option maxRecDepth 20000 in
theorem ggX8_test_X1_hasStuckBit : GoodIn wsX8_test wsX1_hasStuckBit := goodIn_r _ [19, 20, 37, 38, 39, 40, 41, 42, 43, 44, 45, 46, 47, 48, 49, 50] (by decide +kernel) (by decide +kernel)
set_option maxRecDepth 20000 in
theorem gX8_test_X1_hasStuckBit : GoodIn wsX8_test (wsV RX8 151 RX1 yX1_hasStuckBit wsX1_hasStuckBit) := goodIn_app (goodIn_of _ (by decide +kernel)) ggX8_test_X1_hasStuckBit
theorem dX8_test_0 : decode cX8_test 0 = .ok (.iload_n 1, 1) := by decide +kernel
theorem dX8_test_1 : decode cX8_test 1 = .ok (.iconst 3, 1) := by decide +kernel
theorem dX8_test_2 : decode cX8_test 2 = .ok (.invokestatic 88, 3) := by decide +kernel
theorem dX8_test_5 : decode cX8_test 5 = .ok (.aload_n 0, 1) := by decide +kernel
theorem dX8_test_6 : decode cX8_test 6 = .ok (.getfield 11, 3) := by decide +kernel
theorem dX8_test_9 : decode cX8_test 9 = .ok (.iload_n 1, 1) := by decide +kernel
theorem dX8_test_10 : decode cX8_test 10 = .ok (.aaload, 1) := by decide +kernel
theorem dX8_test_11 : decode cX8_test 11 = .ok (.astore_n 2, 1) := by decide +kernel
theorem dX8_test_12 : decode cX8_test 12 = .ok (.aload_n 2, 1) := by decide +kernel
theorem dX8_test_13 : decode cX8_test 13 = .ok (.getfield 162, 3) := by decide +kernel
theorem dX8_test_16 : decode cX8_test 16 = .ok (.ifCond .ne 7, 3) := by decide +kernel
theorem dX8_test_19 : decode cX8_test 19 = .ok (.iconst 1, 1) := by decide +kernel
theorem dX8_test_20 : decode cX8_test 20 = .ok (.goto 4, 3) := by decide +kernel
theorem dX8_test_23 : decode cX8_test 23 = .ok (.iconst 0, 1) := by decide +kernel
theorem dX8_test_24 : decode cX8_test 24 = .ok (.invokestatic 168, 3) := by decide +kernel
theorem dX8_test_27 : decode cX8_test 27 = .ok (.aload_n 2, 1) := by decide +kernel
theorem dX8_test_28 : decode cX8_test 28 = .ok (.invokevirtual 151, 3) := by decide +kernel
theorem dX8_test_31 : decode cX8_test 31 = .ok (.ifCond .eq 5, 3) := by decide +kernel
theorem dX8_test_34 : decode cX8_test 34 = .ok (.iconst 0, 1) := by decide +kernel
theorem dX8_test_35 : decode cX8_test 35 = .ok (.ireturn, 1) := by decide +kernel
theorem dX8_test_36 : decode cX8_test 36 = .ok (.aload_n 2, 1) := by decide +kernel
theorem dX8_test_37 : decode cX8_test 37 = .ok (.iconst 1, 1) := by decide +kernel
theorem dX8_test_38 : decode cX8_test 38 = .ok (.putfield 175, 3) := by decide +kernel
theorem dX8_test_41 : decode cX8_test 41 = .ok (.iconst 1, 1) := by decide +kernel
theorem dX8_test_42 : decode cX8_test 42 = .ok (.ireturn, 1) := by decide +kernel
set_option maxRecDepth 20000 in
theorem ggX8_back_X8_requireIndex : GoodIn wsX8_back wsX8_requireIndex := goodIn_ca (goodIn_r _ [9, 10, 11] (by decide +kernel) (by decide +kernel)) (goodIn_sub (fun _ h => List.mem_cons_of_mem _ (List.mem_append_left _ (List.mem_append_right _ h))) (by decide +kernel))
set_option maxRecDepth 20000 in
theorem gX8_back_X8_requireIndex : GoodIn wsX8_back (va_wsS RX8 88 yX8_requireIndex wsX8_requireIndex) := goodIn_app (goodIn_of _ (by decide +kernel)) ggX8_back_X8_requireIndex
set_option maxRecDepth 20000 in
theorem ggX8_back_X8_lowestOn : GoodIn wsX8_back wsX8_lowestOn := goodIn_r _ [15, 1, 2, 62, 63, 64, 65, 66, 67, 68, 69, 70, 71, 72, 73, 74, 75, 76, 77, 78, 79, 80, 81, 82, 83, 84, 85, 86, 87, 88, 89, 90, 91] (by decide +kernel) (by decide +kernel)
set_option maxRecDepth 20000 in
theorem gX8_back_X8_lowestOn : GoodIn wsX8_back (wsV RX8 178 RX8 yX8_lowestOn wsX8_lowestOn) := goodIn_app (goodIn_of _ (by decide +kernel)) ggX8_back_X8_lowestOn
set_option maxRecDepth 20000 in
theorem ggX8_back_X8_requireState : GoodIn wsX8_back wsX8_requireState := goodIn_ca (goodIn_r _ [18, 19, 20] (by decide +kernel) (by decide +kernel)) (goodIn_sub (fun _ h => List.mem_cons_of_mem _ (List.mem_append_right _ h)) (by decide +kernel))
set_option maxRecDepth 20000 in
theorem gX8_back_X8_requireState : GoodIn wsX8_back (va_wsS RX8 168 yX8_requireState wsX8_requireState) := goodIn_app (goodIn_of _ (by decide +kernel)) ggX8_back_X8_requireState
set_option maxRecDepth 20000 in
theorem ggX8_back_X1_resumeLike : GoodIn wsX8_back wsX1_resumeLike := goodIn_r _ [25, 26, 27, 28, 29, 30, 31, 32, 33, 34, 35, 36, 37, 38, 39, 40, 41, 42, 43, 44, 78, 79, 80, 81, 82, 83, 84, 85, 86, 87, 88, 89, 90, 91, 92, 93, 94] (by decide +kernel) (by decide +kernel)
set_option maxRecDepth 20000 in
theorem gX8_back_X1_resumeLike : GoodIn wsX8_back (wsV RX8 181 RX1 yX1_resumeLike wsX1_resumeLike) := goodIn_app (goodIn_of _ (by decide +kernel)) ggX8_back_X1_resumeLike
set_option maxRecDepth 20000 in
theorem ggX8_back_X3_append : GoodIn wsX8_back wsX3_append := goodIn_r _ [49, 50, 51, 52, 53, 54, 55, 56, 57, 95, 96, 97, 98] (by decide +kernel) (by decide +kernel)
set_option maxRecDepth 20000 in
theorem gX8_back_X3_append : GoodIn wsX8_back (wsV RX8 185 RX3 yX3_append wsX3_append) := goodIn_app (goodIn_of _ (by decide +kernel)) ggX8_back_X3_append
set_option maxRecDepth 20000 in
theorem ggX8_back_X8_countOn : GoodIn wsX8_back wsX8_countOn := goodIn_r _ [61, 1, 2, 62, 63, 64, 65, 66, 67, 68, 69, 70, 71, 72, 73, 74, 75, 76, 77, 78, 79, 80, 81, 82, 83, 84, 85, 86, 87, 88, 89, 90, 91] (by decide +kernel) (by decide +kernel)
set_option maxRecDepth 20000 in
theorem gX8_back_X8_countOn : GoodIn wsX8_back (wsV RX8 114 RX8 yX8_countOn wsX8_countOn) := goodIn_app (goodIn_of _ (by decide +kernel)) ggX8_back_X8_countOn
theorem dX8_back_0 : decode cX8_back 0 = .ok (.iload_n 1, 1) := by decide +kernel
theorem dX8_back_1 : decode cX8_back 1 = .ok (.iconst 3, 1) := by decide +kernel
theorem dX8_back_2 : decode cX8_back 2 = .ok (.invokestatic 88, 3) := by decide +kernel
theorem dX8_back_5 : decode cX8_back 5 = .ok (.aload_n 0, 1) := by decide +kernel
theorem dX8_back_6 : decode cX8_back 6 = .ok (.getfield 11, 3) := by decide +kernel
theorem dX8_back_9 : decode cX8_back 9 = .ok (.iload_n 1, 1) := by decide +kernel
theorem dX8_back_10 : decode cX8_back 10 = .ok (.aaload, 1) := by decide +kernel
theorem dX8_back_11 : decode cX8_back 11 = .ok (.astore_n 2, 1) := by decide +kernel
theorem dX8_back_12 : decode cX8_back 12 = .ok (.aload_n 0, 1) := by decide +kernel
theorem dX8_back_13 : decode cX8_back 13 = .ok (.invokevirtual 178, 3) := by decide +kernel
theorem dX8_back_16 : decode cX8_back 16 = .ok (.istore_n 3, 1) := by decide +kernel
theorem dX8_back_17 : decode cX8_back 17 = .ok (.aload_n 2, 1) := by decide +kernel
theorem dX8_back_18 : decode cX8_back 18 = .ok (.getfield 162, 3) := by decide +kernel
theorem dX8_back_21 : decode cX8_back 21 = .ok (.ifCond .ne 19, 3) := by decide +kernel
theorem dX8_back_24 : decode cX8_back 24 = .ok (.aload_n 2, 1) := by decide +kernel
theorem dX8_back_25 : decode cX8_back 25 = .ok (.getfield 175, 3) := by decide +kernel
theorem dX8_back_28 : decode cX8_back 28 = .ok (.ifCond .eq 12, 3) := by decide +kernel
theorem dX8_back_31 : decode cX8_back 31 = .ok (.iload_n 3, 1) := by decide +kernel
theorem dX8_back_32 : decode cX8_back 32 = .ok (.iconst (-1), 1) := by decide +kernel
theorem dX8_back_33 : decode cX8_back 33 = .ok (.if_icmp .eq 7, 3) := by decide +kernel
theorem dX8_back_36 : decode cX8_back 36 = .ok (.iconst 1, 1) := by decide +kernel
theorem dX8_back_37 : decode cX8_back 37 = .ok (.goto 4, 3) := by decide +kernel
theorem dX8_back_40 : decode cX8_back 40 = .ok (.iconst 0, 1) := by decide +kernel
theorem dX8_back_41 : decode cX8_back 41 = .ok (.invokestatic 168, 3) := by decide +kernel
theorem dX8_back_44 : decode cX8_back 44 = .ok (.aload_n 2, 1) := by decide +kernel
theorem dX8_back_45 : decode cX8_back 45 = .ok (.aload_n 0, 1) := by decide +kernel
theorem dX8_back_46 : decode cX8_back 46 = .ok (.getfield 11, 3) := by decide +kernel
theorem dX8_back_49 : decode cX8_back 49 = .ok (.iload_n 3, 1) := by decide +kernel
theorem dX8_back_50 : decode cX8_back 50 = .ok (.aaload, 1) := by decide +kernel
theorem dX8_back_51 : decode cX8_back 51 = .ok (.invokevirtual 181, 3) := by decide +kernel
theorem dX8_back_54 : decode cX8_back 54 = .ok (.aload_n 0, 1) := by decide +kernel
theorem dX8_back_55 : decode cX8_back 55 = .ok (.getfield 59, 3) := by decide +kernel
theorem dX8_back_58 : decode cX8_back 58 = .ok (.aload_n 0, 1) := by decide +kernel
theorem dX8_back_59 : decode cX8_back 59 = .ok (.getfield 63, 3) := by decide +kernel
theorem dX8_back_62 : decode cX8_back 62 = .ok (.iload_n 1, 1) := by decide +kernel
theorem dX8_back_63 : decode cX8_back 63 = .ok (.bipush 98, 2) := by decide +kernel
theorem dX8_back_65 : decode cX8_back 65 = .ok (.invokevirtual 185, 3) := by decide +kernel
theorem dX8_back_68 : decode cX8_back 68 = .ok (.aload_n 0, 1) := by decide +kernel
theorem dX8_back_69 : decode cX8_back 69 = .ok (.invokevirtual 114, 3) := by decide +kernel
theorem dX8_back_72 : decode cX8_back 72 = .ok (.ireturn, 1) := by decide +kernel
set_option maxRecDepth 20000 in
theorem ggX8_mended_X8_requireIndex : GoodIn wsX8_mended wsX8_requireIndex := goodIn_ca (goodIn_r _ [7, 8, 9] (by decide +kernel) (by decide +kernel)) (goodIn_sub (fun _ h => List.mem_cons_of_mem _ (List.mem_append_right _ h)) (by decide +kernel))
set_option maxRecDepth 20000 in
theorem gX8_mended_X8_requireIndex : GoodIn wsX8_mended (va_wsS RX8 88 yX8_requireIndex wsX8_requireIndex) := goodIn_app (goodIn_of _ (by decide +kernel)) ggX8_mended_X8_requireIndex
theorem dX8_mended_0 : decode cX8_mended 0 = .ok (.iload_n 1, 1) := by decide +kernel
theorem dX8_mended_1 : decode cX8_mended 1 = .ok (.iconst 3, 1) := by decide +kernel
theorem dX8_mended_2 : decode cX8_mended 2 = .ok (.invokestatic 88, 3) := by decide +kernel
theorem dX8_mended_5 : decode cX8_mended 5 = .ok (.aload_n 0, 1) := by decide +kernel
theorem dX8_mended_6 : decode cX8_mended 6 = .ok (.getfield 11, 3) := by decide +kernel
theorem dX8_mended_9 : decode cX8_mended 9 = .ok (.iload_n 1, 1) := by decide +kernel
theorem dX8_mended_10 : decode cX8_mended 10 = .ok (.aaload, 1) := by decide +kernel
theorem dX8_mended_11 : decode cX8_mended 11 = .ok (.getfield 137, 3) := by decide +kernel
theorem dX8_mended_14 : decode cX8_mended 14 = .ok (.getfield 188, 3) := by decide +kernel
theorem dX8_mended_17 : decode cX8_mended 17 = .ok (.ireturn, 1) := by decide +kernel
set_option maxRecDepth 20000 in
theorem ggX8_overruns_X8_requireIndex : GoodIn wsX8_overruns wsX8_requireIndex := goodIn_ca (goodIn_r _ [6, 7, 8] (by decide +kernel) (by decide +kernel)) (goodIn_sub (fun _ h => List.mem_cons_of_mem _ (List.mem_append_right _ h)) (by decide +kernel))
set_option maxRecDepth 20000 in
theorem gX8_overruns_X8_requireIndex : GoodIn wsX8_overruns (va_wsS RX8 88 yX8_requireIndex wsX8_requireIndex) := goodIn_app (goodIn_of _ (by decide +kernel)) ggX8_overruns_X8_requireIndex
theorem dX8_overruns_0 : decode cX8_overruns 0 = .ok (.iload_n 1, 1) := by decide +kernel
theorem dX8_overruns_1 : decode cX8_overruns 1 = .ok (.iconst 3, 1) := by decide +kernel
theorem dX8_overruns_2 : decode cX8_overruns 2 = .ok (.invokestatic 88, 3) := by decide +kernel
theorem dX8_overruns_5 : decode cX8_overruns 5 = .ok (.aload_n 0, 1) := by decide +kernel
theorem dX8_overruns_6 : decode cX8_overruns 6 = .ok (.getfield 22, 3) := by decide +kernel
theorem dX8_overruns_9 : decode cX8_overruns 9 = .ok (.iload_n 1, 1) := by decide +kernel
theorem dX8_overruns_10 : decode cX8_overruns 10 = .ok (.aaload, 1) := by decide +kernel
theorem dX8_overruns_11 : decode cX8_overruns 11 = .ok (.getfield 191, 3) := by decide +kernel
theorem dX8_overruns_14 : decode cX8_overruns 14 = .ok (.ireturn, 1) := by decide +kernel
set_option maxRecDepth 20000 in
theorem ggX8_read_X8_requireIndex : GoodIn wsX8_read wsX8_requireIndex := goodIn_ca (goodIn_r _ [6, 7, 8] (by decide +kernel) (by decide +kernel)) (goodIn_sub (fun _ h => List.mem_cons_of_mem _ (List.mem_append_left _ (List.mem_append_right _ h))) (by decide +kernel))
set_option maxRecDepth 20000 in
theorem gX8_read_X8_requireIndex : GoodIn wsX8_read (va_wsS RX8 88 yX8_requireIndex wsX8_requireIndex) := goodIn_app (goodIn_of _ (by decide +kernel)) ggX8_read_X8_requireIndex
set_option maxRecDepth 20000 in
theorem ggX8_read_X5_isNumber : GoodIn wsX8_read wsX5_isNumber := goodIn_r _ [12, 13, 14, 11, 15] (by decide +kernel) (by decide +kernel)
set_option maxRecDepth 20000 in
theorem gX8_read_X5_isNumber : GoodIn wsX8_read (va_wsS RX8 194 yX5_isNumber wsX5_isNumber) := goodIn_app (goodIn_of _ (by decide +kernel)) ggX8_read_X5_isNumber
set_option maxRecDepth 20000 in
theorem ggX8_read_X8_requireFit : GoodIn wsX8_read wsX8_requireFit := goodIn_ca (goodIn_r _ [18, 19, 20] (by decide +kernel) (by decide +kernel)) (goodIn_sub (fun _ h => List.mem_cons_of_mem _ (List.mem_append_right _ h)) (by decide +kernel))
set_option maxRecDepth 20000 in
theorem gX8_read_X8_requireFit : GoodIn wsX8_read (va_wsS RX8 96 yX8_requireFit wsX8_requireFit) := goodIn_app (goodIn_of _ (by decide +kernel)) ggX8_read_X8_requireFit
set_option maxRecDepth 20000 in
theorem ggX8_read_X5_middle : GoodIn wsX8_read wsX5_middle := goodIn_r _ [23, 24, 25, 26, 27, 28, 29, 30] (by decide +kernel) (by decide +kernel)
set_option maxRecDepth 20000 in
theorem gX8_read_X5_middle : GoodIn wsX8_read (va_wsS RX8 200 yX5_middle wsX5_middle) := goodIn_app (goodIn_of _ (by decide +kernel)) ggX8_read_X5_middle
theorem dX8_read_0 : decode cX8_read 0 = .ok (.iload_n 1, 1) := by decide +kernel
theorem dX8_read_1 : decode cX8_read 1 = .ok (.iconst 4, 1) := by decide +kernel
theorem dX8_read_2 : decode cX8_read 2 = .ok (.invokestatic 88, 3) := by decide +kernel
theorem dX8_read_5 : decode cX8_read 5 = .ok (.iload_n 2, 1) := by decide +kernel
theorem dX8_read_6 : decode cX8_read 6 = .ok (.invokestatic 194, 3) := by decide +kernel
theorem dX8_read_9 : decode cX8_read 9 = .ok (.ifCond .eq 22, 3) := by decide +kernel
theorem dX8_read_12 : decode cX8_read 12 = .ok (.iload_n 3, 1) := by decide +kernel
theorem dX8_read_13 : decode cX8_read 13 = .ok (.invokestatic 194, 3) := by decide +kernel
theorem dX8_read_16 : decode cX8_read 16 = .ok (.ifCond .eq 15, 3) := by decide +kernel
theorem dX8_read_19 : decode cX8_read 19 = .ok (.iload 4, 2) := by decide +kernel
theorem dX8_read_21 : decode cX8_read 21 = .ok (.invokestatic 194, 3) := by decide +kernel
theorem dX8_read_24 : decode cX8_read 24 = .ok (.ifCond .eq 7, 3) := by decide +kernel
theorem dX8_read_27 : decode cX8_read 27 = .ok (.iconst 1, 1) := by decide +kernel
theorem dX8_read_28 : decode cX8_read 28 = .ok (.goto 4, 3) := by decide +kernel
theorem dX8_read_31 : decode cX8_read 31 = .ok (.iconst 0, 1) := by decide +kernel
theorem dX8_read_32 : decode cX8_read 32 = .ok (.invokestatic 96, 3) := by decide +kernel
theorem dX8_read_35 : decode cX8_read 35 = .ok (.aload_n 0, 1) := by decide +kernel
theorem dX8_read_36 : decode cX8_read 36 = .ok (.getfield 39, 3) := by decide +kernel
theorem dX8_read_39 : decode cX8_read 39 = .ok (.iload_n 1, 1) := by decide +kernel
theorem dX8_read_40 : decode cX8_read 40 = .ok (.aaload, 1) := by decide +kernel
theorem dX8_read_41 : decode cX8_read 41 = .ok (.iload_n 2, 1) := by decide +kernel
theorem dX8_read_42 : decode cX8_read 42 = .ok (.iload_n 3, 1) := by decide +kernel
theorem dX8_read_43 : decode cX8_read 43 = .ok (.iload 4, 2) := by decide +kernel
theorem dX8_read_45 : decode cX8_read 45 = .ok (.invokestatic 200, 3) := by decide +kernel
theorem dX8_read_48 : decode cX8_read 48 = .ok (.putfield 204, 3) := by decide +kernel
theorem dX8_read_51 : decode cX8_read 51 = .ok (.aload_n 0, 1) := by decide +kernel
theorem dX8_read_52 : decode cX8_read 52 = .ok (.getfield 39, 3) := by decide +kernel
theorem dX8_read_55 : decode cX8_read 55 = .ok (.iload_n 1, 1) := by decide +kernel
theorem dX8_read_56 : decode cX8_read 56 = .ok (.aaload, 1) := by decide +kernel
theorem dX8_read_57 : decode cX8_read 57 = .ok (.getfield 204, 3) := by decide +kernel
theorem dX8_read_60 : decode cX8_read 60 = .ok (.ireturn, 1) := by decide +kernel
set_option maxRecDepth 20000 in
theorem ggX8_limit_X8_requireIndex : GoodIn wsX8_limit wsX8_requireIndex := goodIn_ca (goodIn_r _ [6, 7, 8] (by decide +kernel) (by decide +kernel)) (goodIn_sub (fun _ h => List.mem_cons_of_mem _ (List.mem_append_left _ (List.mem_append_right _ h))) (by decide +kernel))
set_option maxRecDepth 20000 in
theorem gX8_limit_X8_requireIndex : GoodIn wsX8_limit (va_wsS RX8 88 yX8_requireIndex wsX8_requireIndex) := goodIn_app (goodIn_of _ (by decide +kernel)) ggX8_limit_X8_requireIndex
set_option maxRecDepth 20000 in
theorem ggX8_limit_X5_isWithin : GoodIn wsX8_limit wsX5_isWithin := goodIn_r _ [12] (by decide +kernel) (by decide +kernel)
set_option maxRecDepth 20000 in
theorem gX8_limit_X5_isWithin : GoodIn wsX8_limit (va_wsS RX8 206 yX5_isWithin wsX5_isWithin) := goodIn_app (goodIn_of _ (by decide +kernel)) ggX8_limit_X5_isWithin
set_option maxRecDepth 20000 in
theorem ggX8_limit_X8_requireFit : GoodIn wsX8_limit wsX8_requireFit := goodIn_ca (goodIn_r _ [15, 16, 17] (by decide +kernel) (by decide +kernel)) (goodIn_sub (fun _ h => List.mem_cons_of_mem _ (List.mem_append_right _ h)) (by decide +kernel))
set_option maxRecDepth 20000 in
theorem gX8_limit_X8_requireFit : GoodIn wsX8_limit (va_wsS RX8 96 yX8_requireFit wsX8_requireFit) := goodIn_app (goodIn_of _ (by decide +kernel)) ggX8_limit_X8_requireFit
theorem dX8_limit_0 : decode cX8_limit 0 = .ok (.iload_n 1, 1) := by decide +kernel
theorem dX8_limit_1 : decode cX8_limit 1 = .ok (.iconst 4, 1) := by decide +kernel
theorem dX8_limit_2 : decode cX8_limit 2 = .ok (.invokestatic 88, 3) := by decide +kernel
theorem dX8_limit_5 : decode cX8_limit 5 = .ok (.iload_n 2, 1) := by decide +kernel
theorem dX8_limit_6 : decode cX8_limit 6 = .ok (.iconst 0, 1) := by decide +kernel
theorem dX8_limit_7 : decode cX8_limit 7 = .ok (.sipush 32767, 3) := by decide +kernel
theorem dX8_limit_10 : decode cX8_limit 10 = .ok (.invokestatic 206, 3) := by decide +kernel
theorem dX8_limit_13 : decode cX8_limit 13 = .ok (.invokestatic 96, 3) := by decide +kernel
theorem dX8_limit_16 : decode cX8_limit 16 = .ok (.aload_n 0, 1) := by decide +kernel
theorem dX8_limit_17 : decode cX8_limit 17 = .ok (.getfield 39, 3) := by decide +kernel
theorem dX8_limit_20 : decode cX8_limit 20 = .ok (.iload_n 1, 1) := by decide +kernel
theorem dX8_limit_21 : decode cX8_limit 21 = .ok (.aaload, 1) := by decide +kernel
theorem dX8_limit_22 : decode cX8_limit 22 = .ok (.getfield 210, 3) := by decide +kernel
theorem dX8_limit_25 : decode cX8_limit 25 = .ok (.istore_n 3, 1) := by decide +kernel
theorem dX8_limit_26 : decode cX8_limit 26 = .ok (.aload_n 0, 1) := by decide +kernel
theorem dX8_limit_27 : decode cX8_limit 27 = .ok (.getfield 39, 3) := by decide +kernel
theorem dX8_limit_30 : decode cX8_limit 30 = .ok (.iload_n 1, 1) := by decide +kernel
theorem dX8_limit_31 : decode cX8_limit 31 = .ok (.aaload, 1) := by decide +kernel
theorem dX8_limit_32 : decode cX8_limit 32 = .ok (.iload_n 2, 1) := by decide +kernel
theorem dX8_limit_33 : decode cX8_limit 33 = .ok (.putfield 210, 3) := by decide +kernel
theorem dX8_limit_36 : decode cX8_limit 36 = .ok (.iload_n 3, 1) := by decide +kernel
theorem dX8_limit_37 : decode cX8_limit 37 = .ok (.ireturn, 1) := by decide +kernel
set_option maxRecDepth 20000 in
theorem ggX8_agreed_X8_requireIndex : GoodIn wsX8_agreed wsX8_requireIndex := goodIn_ca (goodIn_r _ [6, 7, 8] (by decide +kernel) (by decide +kernel)) (goodIn_sub (fun _ h => List.mem_cons_of_mem _ (List.mem_append_right _ h)) (by decide +kernel))
set_option maxRecDepth 20000 in
theorem gX8_agreed_X8_requireIndex : GoodIn wsX8_agreed (va_wsS RX8 88 yX8_requireIndex wsX8_requireIndex) := goodIn_app (goodIn_of _ (by decide +kernel)) ggX8_agreed_X8_requireIndex
theorem dX8_agreed_0 : decode cX8_agreed 0 = .ok (.iload_n 1, 1) := by decide +kernel
theorem dX8_agreed_1 : decode cX8_agreed 1 = .ok (.iconst 4, 1) := by decide +kernel
theorem dX8_agreed_2 : decode cX8_agreed 2 = .ok (.invokestatic 88, 3) := by decide +kernel
theorem dX8_agreed_5 : decode cX8_agreed 5 = .ok (.aload_n 0, 1) := by decide +kernel
theorem dX8_agreed_6 : decode cX8_agreed 6 = .ok (.getfield 39, 3) := by decide +kernel
theorem dX8_agreed_9 : decode cX8_agreed 9 = .ok (.iload_n 1, 1) := by decide +kernel
theorem dX8_agreed_10 : decode cX8_agreed 10 = .ok (.aaload, 1) := by decide +kernel
theorem dX8_agreed_11 : decode cX8_agreed 11 = .ok (.getfield 213, 3) := by decide +kernel
theorem dX8_agreed_14 : decode cX8_agreed 14 = .ok (.ireturn, 1) := by decide +kernel
set_option maxRecDepth 20000 in
theorem ggX8_drift_X8_requireIndex : GoodIn wsX8_drift wsX8_requireIndex := goodIn_ca (goodIn_r _ [6, 7, 8] (by decide +kernel) (by decide +kernel)) (goodIn_sub (fun _ h => List.mem_cons_of_mem _ (List.mem_append_left _ (List.mem_append_right _ h))) (by decide +kernel))
set_option maxRecDepth 20000 in
theorem gX8_drift_X8_requireIndex : GoodIn wsX8_drift (va_wsS RX8 88 yX8_requireIndex wsX8_requireIndex) := goodIn_app (goodIn_of _ (by decide +kernel)) ggX8_drift_X8_requireIndex
set_option maxRecDepth 20000 in
theorem ggX8_drift_X5_isWithin : GoodIn wsX8_drift wsX5_isWithin := goodIn_r _ [12] (by decide +kernel) (by decide +kernel)
set_option maxRecDepth 20000 in
theorem gX8_drift_X5_isWithin : GoodIn wsX8_drift (va_wsS RX8 206 yX5_isWithin wsX5_isWithin) := goodIn_app (goodIn_of _ (by decide +kernel)) ggX8_drift_X5_isWithin
set_option maxRecDepth 20000 in
theorem ggX8_drift_X8_requireFit : GoodIn wsX8_drift wsX8_requireFit := goodIn_ca (goodIn_r _ [15, 16, 17] (by decide +kernel) (by decide +kernel)) (goodIn_sub (fun _ h => List.mem_cons_of_mem _ (List.mem_append_right _ h)) (by decide +kernel))
set_option maxRecDepth 20000 in
theorem gX8_drift_X8_requireFit : GoodIn wsX8_drift (va_wsS RX8 96 yX8_requireFit wsX8_requireFit) := goodIn_app (goodIn_of _ (by decide +kernel)) ggX8_drift_X8_requireFit
theorem dX8_drift_0 : decode cX8_drift 0 = .ok (.iload_n 1, 1) := by decide +kernel
theorem dX8_drift_1 : decode cX8_drift 1 = .ok (.iconst 3, 1) := by decide +kernel
theorem dX8_drift_2 : decode cX8_drift 2 = .ok (.invokestatic 88, 3) := by decide +kernel
theorem dX8_drift_5 : decode cX8_drift 5 = .ok (.iload_n 2, 1) := by decide +kernel
theorem dX8_drift_6 : decode cX8_drift 6 = .ok (.bipush (-9), 2) := by decide +kernel
theorem dX8_drift_8 : decode cX8_drift 8 = .ok (.bipush 9, 2) := by decide +kernel
theorem dX8_drift_10 : decode cX8_drift 10 = .ok (.invokestatic 206, 3) := by decide +kernel
theorem dX8_drift_13 : decode cX8_drift 13 = .ok (.invokestatic 96, 3) := by decide +kernel
theorem dX8_drift_16 : decode cX8_drift 16 = .ok (.aload_n 0, 1) := by decide +kernel
theorem dX8_drift_17 : decode cX8_drift 17 = .ok (.getfield 11, 3) := by decide +kernel
theorem dX8_drift_20 : decode cX8_drift 20 = .ok (.iload_n 1, 1) := by decide +kernel
theorem dX8_drift_21 : decode cX8_drift 21 = .ok (.aaload, 1) := by decide +kernel
theorem dX8_drift_22 : decode cX8_drift 22 = .ok (.getfield 216, 3) := by decide +kernel
theorem dX8_drift_25 : decode cX8_drift 25 = .ok (.istore_n 3, 1) := by decide +kernel
theorem dX8_drift_26 : decode cX8_drift 26 = .ok (.aload_n 0, 1) := by decide +kernel
theorem dX8_drift_27 : decode cX8_drift 27 = .ok (.getfield 11, 3) := by decide +kernel
theorem dX8_drift_30 : decode cX8_drift 30 = .ok (.iload_n 1, 1) := by decide +kernel
theorem dX8_drift_31 : decode cX8_drift 31 = .ok (.aaload, 1) := by decide +kernel
theorem dX8_drift_32 : decode cX8_drift 32 = .ok (.iload_n 2, 1) := by decide +kernel
theorem dX8_drift_33 : decode cX8_drift 33 = .ok (.putfield 216, 3) := by decide +kernel
theorem dX8_drift_36 : decode cX8_drift 36 = .ok (.iload_n 3, 1) := by decide +kernel
theorem dX8_drift_37 : decode cX8_drift 37 = .ok (.ireturn, 1) := by decide +kernel
set_option maxRecDepth 20000 in
theorem ggX8_lie_X8_requireIndex : GoodIn wsX8_lie wsX8_requireIndex := goodIn_ca (goodIn_r _ [6, 7, 8] (by decide +kernel) (by decide +kernel)) (goodIn_sub (fun _ h => List.mem_cons_of_mem _ (List.mem_append_left _ (List.mem_append_right _ h))) (by decide +kernel))
set_option maxRecDepth 20000 in
theorem gX8_lie_X8_requireIndex : GoodIn wsX8_lie (va_wsS RX8 88 yX8_requireIndex wsX8_requireIndex) := goodIn_app (goodIn_of _ (by decide +kernel)) ggX8_lie_X8_requireIndex
set_option maxRecDepth 20000 in
theorem ggX8_lie_X5_isWithin : GoodIn wsX8_lie wsX5_isWithin := goodIn_r _ [12] (by decide +kernel) (by decide +kernel)
set_option maxRecDepth 20000 in
theorem gX8_lie_X5_isWithin : GoodIn wsX8_lie (va_wsS RX8 206 yX5_isWithin wsX5_isWithin) := goodIn_app (goodIn_of _ (by decide +kernel)) ggX8_lie_X5_isWithin
set_option maxRecDepth 20000 in
theorem ggX8_lie_X8_requireFit : GoodIn wsX8_lie wsX8_requireFit := goodIn_ca (goodIn_r _ [15, 16, 17] (by decide +kernel) (by decide +kernel)) (goodIn_sub (fun _ h => List.mem_cons_of_mem _ (List.mem_append_right _ h)) (by decide +kernel))
set_option maxRecDepth 20000 in
theorem gX8_lie_X8_requireFit : GoodIn wsX8_lie (va_wsS RX8 96 yX8_requireFit wsX8_requireFit) := goodIn_app (goodIn_of _ (by decide +kernel)) ggX8_lie_X8_requireFit
theorem dX8_lie_0 : decode cX8_lie 0 = .ok (.iload_n 1, 1) := by decide +kernel
theorem dX8_lie_1 : decode cX8_lie 1 = .ok (.iconst 3, 1) := by decide +kernel
theorem dX8_lie_2 : decode cX8_lie 2 = .ok (.invokestatic 88, 3) := by decide +kernel
theorem dX8_lie_5 : decode cX8_lie 5 = .ok (.iload_n 2, 1) := by decide +kernel
theorem dX8_lie_6 : decode cX8_lie 6 = .ok (.iconst 3, 1) := by decide +kernel
theorem dX8_lie_7 : decode cX8_lie 7 = .ok (.invokestatic 88, 3) := by decide +kernel
theorem dX8_lie_10 : decode cX8_lie 10 = .ok (.iload_n 1, 1) := by decide +kernel
theorem dX8_lie_11 : decode cX8_lie 11 = .ok (.iload_n 2, 1) := by decide +kernel
theorem dX8_lie_12 : decode cX8_lie 12 = .ok (.if_icmp .eq 20, 3) := by decide +kernel
theorem dX8_lie_15 : decode cX8_lie 15 = .ok (.iload_n 3, 1) := by decide +kernel
theorem dX8_lie_16 : decode cX8_lie 16 = .ok (.sipush (-999), 3) := by decide +kernel
theorem dX8_lie_19 : decode cX8_lie 19 = .ok (.sipush 999, 3) := by decide +kernel
theorem dX8_lie_22 : decode cX8_lie 22 = .ok (.invokestatic 206, 3) := by decide +kernel
theorem dX8_lie_25 : decode cX8_lie 25 = .ok (.ifCond .eq 7, 3) := by decide +kernel
theorem dX8_lie_28 : decode cX8_lie 28 = .ok (.iconst 1, 1) := by decide +kernel
theorem dX8_lie_29 : decode cX8_lie 29 = .ok (.goto 4, 3) := by decide +kernel
theorem dX8_lie_32 : decode cX8_lie 32 = .ok (.iconst 0, 1) := by decide +kernel
theorem dX8_lie_33 : decode cX8_lie 33 = .ok (.invokestatic 96, 3) := by decide +kernel
theorem dX8_lie_36 : decode cX8_lie 36 = .ok (.aload_n 0, 1) := by decide +kernel
theorem dX8_lie_37 : decode cX8_lie 37 = .ok (.getfield 11, 3) := by decide +kernel
theorem dX8_lie_40 : decode cX8_lie 40 = .ok (.iload_n 1, 1) := by decide +kernel
theorem dX8_lie_41 : decode cX8_lie 41 = .ok (.aaload, 1) := by decide +kernel
theorem dX8_lie_42 : decode cX8_lie 42 = .ok (.getfield 219, 3) := by decide +kernel
theorem dX8_lie_45 : decode cX8_lie 45 = .ok (.iload_n 2, 1) := by decide +kernel
theorem dX8_lie_46 : decode cX8_lie 46 = .ok (.iaload, 1) := by decide +kernel
theorem dX8_lie_47 : decode cX8_lie 47 = .ok (.istore 4, 2) := by decide +kernel
theorem dX8_lie_49 : decode cX8_lie 49 = .ok (.aload_n 0, 1) := by decide +kernel
theorem dX8_lie_50 : decode cX8_lie 50 = .ok (.getfield 11, 3) := by decide +kernel
theorem dX8_lie_53 : decode cX8_lie 53 = .ok (.iload_n 1, 1) := by decide +kernel
theorem dX8_lie_54 : decode cX8_lie 54 = .ok (.aaload, 1) := by decide +kernel
theorem dX8_lie_55 : decode cX8_lie 55 = .ok (.getfield 219, 3) := by decide +kernel
theorem dX8_lie_58 : decode cX8_lie 58 = .ok (.iload_n 2, 1) := by decide +kernel
theorem dX8_lie_59 : decode cX8_lie 59 = .ok (.iload_n 3, 1) := by decide +kernel
theorem dX8_lie_60 : decode cX8_lie 60 = .ok (.iastore, 1) := by decide +kernel
theorem dX8_lie_61 : decode cX8_lie 61 = .ok (.iload 4, 2) := by decide +kernel
theorem dX8_lie_63 : decode cX8_lie 63 = .ok (.ireturn, 1) := by decide +kernel
set_option maxRecDepth 20000 in
theorem ggX8_clock_X8_requireIndex : GoodIn wsX8_clock wsX8_requireIndex := goodIn_ca (goodIn_r _ [6, 7, 8] (by decide +kernel) (by decide +kernel)) (goodIn_sub (fun _ h => List.mem_cons_of_mem _ (List.mem_append_right _ h)) (by decide +kernel))
set_option maxRecDepth 20000 in
theorem gX8_clock_X8_requireIndex : GoodIn wsX8_clock (va_wsS RX8 88 yX8_requireIndex wsX8_requireIndex) := goodIn_app (goodIn_of _ (by decide +kernel)) ggX8_clock_X8_requireIndex
theorem dX8_clock_0 : decode cX8_clock 0 = .ok (.iload_n 1, 1) := by decide +kernel
theorem dX8_clock_1 : decode cX8_clock 1 = .ok (.iconst 3, 1) := by decide +kernel
theorem dX8_clock_2 : decode cX8_clock 2 = .ok (.invokestatic 88, 3) := by decide +kernel
theorem dX8_clock_5 : decode cX8_clock 5 = .ok (.aload_n 0, 1) := by decide +kernel
theorem dX8_clock_6 : decode cX8_clock 6 = .ok (.getfield 11, 3) := by decide +kernel
theorem dX8_clock_9 : decode cX8_clock 9 = .ok (.iload_n 1, 1) := by decide +kernel
theorem dX8_clock_10 : decode cX8_clock 10 = .ok (.aaload, 1) := by decide +kernel
theorem dX8_clock_11 : decode cX8_clock 11 = .ok (.getfield 222, 3) := by decide +kernel
theorem dX8_clock_14 : decode cX8_clock 14 = .ok (.ireturn, 1) := by decide +kernel
set_option maxRecDepth 20000 in
theorem ggX8_save_X8_requireIndex : GoodIn wsX8_save wsX8_requireIndex := goodIn_ca (goodIn_r _ [7, 8, 9] (by decide +kernel) (by decide +kernel)) (goodIn_sub (fun _ h => List.mem_cons_of_mem _ (List.mem_append_left _ (List.mem_append_right _ h))) (by decide +kernel))
set_option maxRecDepth 20000 in
theorem gX8_save_X8_requireIndex : GoodIn wsX8_save (va_wsS RX8 88 yX8_requireIndex wsX8_requireIndex) := goodIn_app (goodIn_of _ (by decide +kernel)) ggX8_save_X8_requireIndex
set_option maxRecDepth 20000 in
theorem ggX8_save_X8_lowestOn : GoodIn wsX8_save wsX8_lowestOn := goodIn_r _ [13, 2, 14, 46, 47, 48, 49, 50, 51, 52, 53, 54, 55, 56, 57, 58, 59, 60, 61, 62, 63, 64, 65, 66, 67, 68, 69, 70, 71, 72, 73, 74, 75] (by decide +kernel) (by decide +kernel)
set_option maxRecDepth 20000 in
theorem gX8_save_X8_lowestOn : GoodIn wsX8_save (wsV RX8 178 RX8 yX8_lowestOn wsX8_lowestOn) := goodIn_app (goodIn_of _ (by decide +kernel)) ggX8_save_X8_lowestOn
set_option maxRecDepth 20000 in
theorem ggX8_save_X8_requireState : GoodIn wsX8_save wsX8_requireState := goodIn_ca (goodIn_r _ [17, 18, 19] (by decide +kernel) (by decide +kernel)) (goodIn_sub (fun _ h => List.mem_cons_of_mem _ (List.mem_append_right _ h)) (by decide +kernel))
set_option maxRecDepth 20000 in
theorem gX8_save_X8_requireState : GoodIn wsX8_save (va_wsS RX8 168 yX8_requireState wsX8_requireState) := goodIn_app (goodIn_of _ (by decide +kernel)) ggX8_save_X8_requireState
set_option maxRecDepth 20000 in
theorem ggX8_save_X2_spoil : GoodIn wsX8_save wsX2_spoil := goodIn_r _ [24, 25, 26, 27, 28, 23, 29, 30, 76, 77, 78] (by decide +kernel) (by decide +kernel)
set_option maxRecDepth 20000 in
theorem gX8_save_X2_spoil : GoodIn wsX8_save (wsV RX8 225 RX2 yX2_spoil wsX2_spoil) := goodIn_app (goodIn_of _ (by decide +kernel)) ggX8_save_X2_spoil
set_option maxRecDepth 20000 in
theorem ggX8_save_X2_keep : GoodIn wsX8_save wsX2_keep := goodIn_r _ [34, 35, 25, 30, 26, 27, 28, 23, 29, 36, 37, 38, 39, 40, 41, 76, 77, 78, 79, 80, 81] (by decide +kernel) (by decide +kernel)
set_option maxRecDepth 20000 in
theorem gX8_save_X2_keep : GoodIn wsX8_save (wsV RX8 228 RX2 yX2_keep wsX2_keep) := goodIn_app (goodIn_of _ (by decide +kernel)) ggX8_save_X2_keep
set_option maxRecDepth 20000 in
theorem ggX8_save_X2_countGood : GoodIn wsX8_save wsX2_countGood := goodIn_r _ [45, 25, 76, 77, 78] (by decide +kernel) (by decide +kernel)
set_option maxRecDepth 20000 in
theorem gX8_save_X2_countGood : GoodIn wsX8_save (wsV RX8 232 RX2 yX2_countGood wsX2_countGood) := goodIn_app (goodIn_of _ (by decide +kernel)) ggX8_save_X2_countGood
theorem dX8_save_0 : decode cX8_save 0 = .ok (.iload_n 1, 1) := by decide +kernel
theorem dX8_save_1 : decode cX8_save 1 = .ok (.iconst 3, 1) := by decide +kernel
theorem dX8_save_2 : decode cX8_save 2 = .ok (.invokestatic 88, 3) := by decide +kernel
theorem dX8_save_5 : decode cX8_save 5 = .ok (.aload_n 0, 1) := by decide +kernel
theorem dX8_save_6 : decode cX8_save 6 = .ok (.invokevirtual 178, 3) := by decide +kernel
theorem dX8_save_9 : decode cX8_save 9 = .ok (.istore_n 3, 1) := by decide +kernel
theorem dX8_save_10 : decode cX8_save 10 = .ok (.iload_n 3, 1) := by decide +kernel
theorem dX8_save_11 : decode cX8_save 11 = .ok (.iconst (-1), 1) := by decide +kernel
theorem dX8_save_12 : decode cX8_save 12 = .ok (.if_icmp .eq 7, 3) := by decide +kernel
theorem dX8_save_15 : decode cX8_save 15 = .ok (.iconst 1, 1) := by decide +kernel
theorem dX8_save_16 : decode cX8_save 16 = .ok (.goto 4, 3) := by decide +kernel
theorem dX8_save_19 : decode cX8_save 19 = .ok (.iconst 0, 1) := by decide +kernel
theorem dX8_save_20 : decode cX8_save 20 = .ok (.invokestatic 168, 3) := by decide +kernel
theorem dX8_save_23 : decode cX8_save 23 = .ok (.iload_n 2, 1) := by decide +kernel
theorem dX8_save_24 : decode cX8_save 24 = .ok (.ifCond .eq 15, 3) := by decide +kernel
theorem dX8_save_27 : decode cX8_save 27 = .ok (.aload_n 0, 1) := by decide +kernel
theorem dX8_save_28 : decode cX8_save 28 = .ok (.getfield 28, 3) := by decide +kernel
theorem dX8_save_31 : decode cX8_save 31 = .ok (.iload_n 1, 1) := by decide +kernel
theorem dX8_save_32 : decode cX8_save 32 = .ok (.aaload, 1) := by decide +kernel
theorem dX8_save_33 : decode cX8_save 33 = .ok (.invokevirtual 225, 3) := by decide +kernel
theorem dX8_save_36 : decode cX8_save 36 = .ok (.goto 25, 3) := by decide +kernel
theorem dX8_save_39 : decode cX8_save 39 = .ok (.aload_n 0, 1) := by decide +kernel
theorem dX8_save_40 : decode cX8_save 40 = .ok (.getfield 28, 3) := by decide +kernel
theorem dX8_save_43 : decode cX8_save 43 = .ok (.iload_n 1, 1) := by decide +kernel
theorem dX8_save_44 : decode cX8_save 44 = .ok (.aaload, 1) := by decide +kernel
theorem dX8_save_45 : decode cX8_save 45 = .ok (.aload_n 0, 1) := by decide +kernel
theorem dX8_save_46 : decode cX8_save 46 = .ok (.getfield 11, 3) := by decide +kernel
theorem dX8_save_49 : decode cX8_save 49 = .ok (.iload_n 3, 1) := by decide +kernel
theorem dX8_save_50 : decode cX8_save 50 = .ok (.aaload, 1) := by decide +kernel
theorem dX8_save_51 : decode cX8_save 51 = .ok (.getfield 137, 3) := by decide +kernel
theorem dX8_save_54 : decode cX8_save 54 = .ok (.bipush 6, 2) := by decide +kernel
theorem dX8_save_56 : decode cX8_save 56 = .ok (.iload_n 1, 1) := by decide +kernel
theorem dX8_save_57 : decode cX8_save 57 = .ok (.imul, 1) := by decide +kernel
theorem dX8_save_58 : decode cX8_save 58 = .ok (.invokevirtual 228, 3) := by decide +kernel
theorem dX8_save_61 : decode cX8_save 61 = .ok (.aload_n 0, 1) := by decide +kernel
theorem dX8_save_62 : decode cX8_save 62 = .ok (.getfield 28, 3) := by decide +kernel
theorem dX8_save_65 : decode cX8_save 65 = .ok (.iload_n 1, 1) := by decide +kernel
theorem dX8_save_66 : decode cX8_save 66 = .ok (.aaload, 1) := by decide +kernel
theorem dX8_save_67 : decode cX8_save 67 = .ok (.invokevirtual 232, 3) := by decide +kernel
theorem dX8_save_70 : decode cX8_save 70 = .ok (.ireturn, 1) := by decide +kernel
set_option maxRecDepth 20000 in
theorem ggX8_load_X8_requireIndex : GoodIn wsX8_load wsX8_requireIndex := goodIn_ca (goodIn_r _ [12, 13, 14] (by decide +kernel) (by decide +kernel)) (goodIn_sub (fun _ h => List.mem_cons_of_mem _ (List.mem_append_right _ h)) (by decide +kernel))
set_option maxRecDepth 20000 in
theorem gX8_load_X8_requireIndex : GoodIn wsX8_load (va_wsS RX8 88 yX8_requireIndex wsX8_requireIndex) := goodIn_app (goodIn_of _ (by decide +kernel)) ggX8_load_X8_requireIndex
set_option maxRecDepth 20000 in
theorem ggX8_load_X2_restore : GoodIn wsX8_load wsX2_restore := goodIn_r _ [19, 20, 21, 22, 23, 24, 25, 26, 27, 28, 49, 50, 51, 66, 67, 68] (by decide +kernel) (by decide +kernel)
set_option maxRecDepth 20000 in
theorem gX8_load_X2_restore : GoodIn wsX8_load (wsV RX8 243 RX2 yX2_restore wsX2_restore) := goodIn_app (goodIn_of _ (by decide +kernel)) ggX8_load_X2_restore
set_option maxRecDepth 20000 in
theorem ggX8_load_X2_firstWord : GoodIn wsX8_load wsX2_firstWord := goodIn_r _ [32, 20, 21, 49, 50, 51] (by decide +kernel) (by decide +kernel)
set_option maxRecDepth 20000 in
theorem gX8_load_X2_firstWord : GoodIn wsX8_load (wsV RX8 246 RX2 yX2_firstWord wsX2_firstWord) := goodIn_app (goodIn_of _ (by decide +kernel)) ggX8_load_X2_firstWord
theorem dX8_load_0 : decode cX8_load 0 = .ok (.iload_n 1, 1) := by decide +kernel
theorem dX8_load_1 : decode cX8_load 1 = .ok (.iconst 3, 1) := by decide +kernel
theorem dX8_load_2 : decode cX8_load 2 = .ok (.invokestatic 88, 3) := by decide +kernel
theorem dX8_load_5 : decode cX8_load 5 = .ok (.aload_n 0, 1) := by decide +kernel
theorem dX8_load_6 : decode cX8_load 6 = .ok (.getfield 28, 3) := by decide +kernel
theorem dX8_load_9 : decode cX8_load 9 = .ok (.iload_n 1, 1) := by decide +kernel
theorem dX8_load_10 : decode cX8_load 10 = .ok (.aaload, 1) := by decide +kernel
theorem dX8_load_11 : decode cX8_load 11 = .ok (.astore_n 2, 1) := by decide +kernel
theorem dX8_load_12 : decode cX8_load 12 = .ok (.aload_n 2, 1) := by decide +kernel
theorem dX8_load_13 : decode cX8_load 13 = .ok (.getfield 235, 3) := by decide +kernel
theorem dX8_load_16 : decode cX8_load 16 = .ok (.iconst (-1), 1) := by decide +kernel
theorem dX8_load_17 : decode cX8_load 17 = .ok (.if_icmp .ne 13, 3) := by decide +kernel
theorem dX8_load_20 : decode cX8_load 20 = .ok (.new 238, 3) := by decide +kernel
theorem dX8_load_23 : decode cX8_load 23 = .ok (.dup, 1) := by decide +kernel
theorem dX8_load_24 : decode cX8_load 24 = .ok (.ldc 240, 2) := by decide +kernel
theorem dX8_load_26 : decode cX8_load 26 = .ok (.invokespecial 242, 3) := by decide +kernel
theorem dX8_load_29 : decode cX8_load 29 = .ok (.athrow, 1) := by decide +kernel
theorem dX8_load_30 : decode cX8_load 30 = .ok (.iconst 0, 1) := by decide +kernel
theorem dX8_load_31 : decode cX8_load 31 = .ok (.istore_n 3, 1) := by decide +kernel
theorem dX8_load_32 : decode cX8_load 32 = .ok (.iload_n 3, 1) := by decide +kernel
theorem dX8_load_33 : decode cX8_load 33 = .ok (.iconst 3, 1) := by decide +kernel
theorem dX8_load_34 : decode cX8_load 34 = .ok (.if_icmp .ge 38, 3) := by decide +kernel
theorem dX8_load_37 : decode cX8_load 37 = .ok (.aload_n 0, 1) := by decide +kernel
theorem dX8_load_38 : decode cX8_load 38 = .ok (.getfield 11, 3) := by decide +kernel
theorem dX8_load_41 : decode cX8_load 41 = .ok (.iload_n 3, 1) := by decide +kernel
theorem dX8_load_42 : decode cX8_load 42 = .ok (.aaload, 1) := by decide +kernel
theorem dX8_load_43 : decode cX8_load 43 = .ok (.getfield 162, 3) := by decide +kernel
theorem dX8_load_46 : decode cX8_load 46 = .ok (.ifCond .eq 20, 3) := by decide +kernel
theorem dX8_load_49 : decode cX8_load 49 = .ok (.aload_n 2, 1) := by decide +kernel
theorem dX8_load_50 : decode cX8_load 50 = .ok (.aload_n 0, 1) := by decide +kernel
theorem dX8_load_51 : decode cX8_load 51 = .ok (.getfield 11, 3) := by decide +kernel
theorem dX8_load_54 : decode cX8_load 54 = .ok (.iload_n 3, 1) := by decide +kernel
theorem dX8_load_55 : decode cX8_load 55 = .ok (.aaload, 1) := by decide +kernel
theorem dX8_load_56 : decode cX8_load 56 = .ok (.getfield 137, 3) := by decide +kernel
theorem dX8_load_59 : decode cX8_load 59 = .ok (.bipush 6, 2) := by decide +kernel
theorem dX8_load_61 : decode cX8_load 61 = .ok (.iload_n 1, 1) := by decide +kernel
theorem dX8_load_62 : decode cX8_load 62 = .ok (.imul, 1) := by decide +kernel
theorem dX8_load_63 : decode cX8_load 63 = .ok (.invokevirtual 243, 3) := by decide +kernel
theorem dX8_load_66 : decode cX8_load 66 = .ok (.iinc 3 1, 3) := by decide +kernel
theorem dX8_load_69 : decode cX8_load 69 = .ok (.goto (-37), 3) := by decide +kernel
theorem dX8_load_72 : decode cX8_load 72 = .ok (.aload_n 2, 1) := by decide +kernel
theorem dX8_load_73 : decode cX8_load 73 = .ok (.aload_n 0, 1) := by decide +kernel
theorem dX8_load_74 : decode cX8_load 74 = .ok (.getfield 16, 3) := by decide +kernel
theorem dX8_load_77 : decode cX8_load 77 = .ok (.getfield 137, 3) := by decide +kernel
theorem dX8_load_80 : decode cX8_load 80 = .ok (.bipush 6, 2) := by decide +kernel
theorem dX8_load_82 : decode cX8_load 82 = .ok (.iload_n 1, 1) := by decide +kernel
theorem dX8_load_83 : decode cX8_load 83 = .ok (.imul, 1) := by decide +kernel
theorem dX8_load_84 : decode cX8_load 84 = .ok (.invokevirtual 243, 3) := by decide +kernel
theorem dX8_load_87 : decode cX8_load 87 = .ok (.aload_n 2, 1) := by decide +kernel
theorem dX8_load_88 : decode cX8_load 88 = .ok (.invokevirtual 246, 3) := by decide +kernel
theorem dX8_load_91 : decode cX8_load 91 = .ok (.ireturn, 1) := by decide +kernel
set_option maxRecDepth 20000 in
theorem ggX8_fault_X8_requireIndex : GoodIn wsX8_fault wsX8_requireIndex := goodIn_ca (goodIn_r _ [6, 7, 8] (by decide +kernel) (by decide +kernel)) (goodIn_sub (fun _ h => List.mem_cons_of_mem _ (List.mem_append_left _ (List.mem_append_right _ h))) (by decide +kernel))
set_option maxRecDepth 20000 in
theorem gX8_fault_X8_requireIndex : GoodIn wsX8_fault (va_wsS RX8 88 yX8_requireIndex wsX8_requireIndex) := goodIn_app (goodIn_of _ (by decide +kernel)) ggX8_fault_X8_requireIndex
set_option maxRecDepth 20000 in
theorem ggX8_fault_X5_isWithin : GoodIn wsX8_fault wsX5_isWithin := goodIn_r _ [12] (by decide +kernel) (by decide +kernel)
set_option maxRecDepth 20000 in
theorem gX8_fault_X5_isWithin : GoodIn wsX8_fault (va_wsS RX8 206 yX5_isWithin wsX5_isWithin) := goodIn_app (goodIn_of _ (by decide +kernel)) ggX8_fault_X5_isWithin
set_option maxRecDepth 20000 in
theorem ggX8_fault_X8_requireFit : GoodIn wsX8_fault wsX8_requireFit := goodIn_ca (goodIn_r _ [15, 16, 17] (by decide +kernel) (by decide +kernel)) (goodIn_sub (fun _ h => List.mem_cons_of_mem _ (List.mem_append_right _ h)) (by decide +kernel))
set_option maxRecDepth 20000 in
theorem gX8_fault_X8_requireFit : GoodIn wsX8_fault (va_wsS RX8 96 yX8_requireFit wsX8_requireFit) := goodIn_app (goodIn_of _ (by decide +kernel)) ggX8_fault_X8_requireFit
theorem dX8_fault_0 : decode cX8_fault 0 = .ok (.iload_n 1, 1) := by decide +kernel
theorem dX8_fault_1 : decode cX8_fault 1 = .ok (.iconst 4, 1) := by decide +kernel
theorem dX8_fault_2 : decode cX8_fault 2 = .ok (.invokestatic 88, 3) := by decide +kernel
theorem dX8_fault_5 : decode cX8_fault 5 = .ok (.iload_n 2, 1) := by decide +kernel
theorem dX8_fault_6 : decode cX8_fault 6 = .ok (.iconst 3, 1) := by decide +kernel
theorem dX8_fault_7 : decode cX8_fault 7 = .ok (.invokestatic 88, 3) := by decide +kernel
theorem dX8_fault_10 : decode cX8_fault 10 = .ok (.iload_n 3, 1) := by decide +kernel
theorem dX8_fault_11 : decode cX8_fault 11 = .ok (.sipush (-999), 3) := by decide +kernel
theorem dX8_fault_14 : decode cX8_fault 14 = .ok (.sipush 999, 3) := by decide +kernel
theorem dX8_fault_17 : decode cX8_fault 17 = .ok (.invokestatic 206, 3) := by decide +kernel
theorem dX8_fault_20 : decode cX8_fault 20 = .ok (.invokestatic 96, 3) := by decide +kernel
theorem dX8_fault_23 : decode cX8_fault 23 = .ok (.aload_n 0, 1) := by decide +kernel
theorem dX8_fault_24 : decode cX8_fault 24 = .ok (.getfield 45, 3) := by decide +kernel
theorem dX8_fault_27 : decode cX8_fault 27 = .ok (.iload_n 1, 1) := by decide +kernel
theorem dX8_fault_28 : decode cX8_fault 28 = .ok (.aaload, 1) := by decide +kernel
theorem dX8_fault_29 : decode cX8_fault 29 = .ok (.getfield 249, 3) := by decide +kernel
theorem dX8_fault_32 : decode cX8_fault 32 = .ok (.iload_n 2, 1) := by decide +kernel
theorem dX8_fault_33 : decode cX8_fault 33 = .ok (.iaload, 1) := by decide +kernel
theorem dX8_fault_34 : decode cX8_fault 34 = .ok (.istore 4, 2) := by decide +kernel
theorem dX8_fault_36 : decode cX8_fault 36 = .ok (.aload_n 0, 1) := by decide +kernel
theorem dX8_fault_37 : decode cX8_fault 37 = .ok (.getfield 45, 3) := by decide +kernel
theorem dX8_fault_40 : decode cX8_fault 40 = .ok (.iload_n 1, 1) := by decide +kernel
theorem dX8_fault_41 : decode cX8_fault 41 = .ok (.aaload, 1) := by decide +kernel
theorem dX8_fault_42 : decode cX8_fault 42 = .ok (.getfield 249, 3) := by decide +kernel
theorem dX8_fault_45 : decode cX8_fault 45 = .ok (.iload_n 2, 1) := by decide +kernel
theorem dX8_fault_46 : decode cX8_fault 46 = .ok (.iload_n 3, 1) := by decide +kernel
theorem dX8_fault_47 : decode cX8_fault 47 = .ok (.iastore, 1) := by decide +kernel
theorem dX8_fault_48 : decode cX8_fault 48 = .ok (.iload 4, 2) := by decide +kernel
theorem dX8_fault_50 : decode cX8_fault 50 = .ok (.ireturn, 1) := by decide +kernel
set_option maxRecDepth 20000 in
theorem ggX8_position_X8_requireIndex : GoodIn wsX8_position wsX8_requireIndex := goodIn_ca (goodIn_r _ [6, 7, 8] (by decide +kernel) (by decide +kernel)) (goodIn_sub (fun _ h => List.mem_cons_of_mem _ (List.mem_append_right _ h)) (by decide +kernel))
set_option maxRecDepth 20000 in
theorem gX8_position_X8_requireIndex : GoodIn wsX8_position (va_wsS RX8 88 yX8_requireIndex wsX8_requireIndex) := goodIn_app (goodIn_of _ (by decide +kernel)) ggX8_position_X8_requireIndex
theorem dX8_position_0 : decode cX8_position 0 = .ok (.iload_n 1, 1) := by decide +kernel
theorem dX8_position_1 : decode cX8_position 1 = .ok (.iconst 4, 1) := by decide +kernel
theorem dX8_position_2 : decode cX8_position 2 = .ok (.invokestatic 88, 3) := by decide +kernel
theorem dX8_position_5 : decode cX8_position 5 = .ok (.aload_n 0, 1) := by decide +kernel
theorem dX8_position_6 : decode cX8_position 6 = .ok (.getfield 45, 3) := by decide +kernel
theorem dX8_position_9 : decode cX8_position 9 = .ok (.iload_n 1, 1) := by decide +kernel
theorem dX8_position_10 : decode cX8_position 10 = .ok (.aaload, 1) := by decide +kernel
theorem dX8_position_11 : decode cX8_position 11 = .ok (.getfield 252, 3) := by decide +kernel
theorem dX8_position_14 : decode cX8_position 14 = .ok (.ireturn, 1) := by decide +kernel
set_option maxRecDepth 20000 in
theorem ggX8_hasLetGo_X8_requireIndex : GoodIn wsX8_hasLetGo wsX8_requireIndex := goodIn_ca (goodIn_r _ [6, 7, 8] (by decide +kernel) (by decide +kernel)) (goodIn_sub (fun _ h => List.mem_cons_of_mem _ (List.mem_append_right _ h)) (by decide +kernel))
set_option maxRecDepth 20000 in
theorem gX8_hasLetGo_X8_requireIndex : GoodIn wsX8_hasLetGo (va_wsS RX8 88 yX8_requireIndex wsX8_requireIndex) := goodIn_app (goodIn_of _ (by decide +kernel)) ggX8_hasLetGo_X8_requireIndex
theorem dX8_hasLetGo_0 : decode cX8_hasLetGo 0 = .ok (.iload_n 1, 1) := by decide +kernel
theorem dX8_hasLetGo_1 : decode cX8_hasLetGo 1 = .ok (.iconst 4, 1) := by decide +kernel
theorem dX8_hasLetGo_2 : decode cX8_hasLetGo 2 = .ok (.invokestatic 88, 3) := by decide +kernel
theorem dX8_hasLetGo_5 : decode cX8_hasLetGo 5 = .ok (.aload_n 0, 1) := by decide +kernel
theorem dX8_hasLetGo_6 : decode cX8_hasLetGo 6 = .ok (.getfield 45, 3) := by decide +kernel
theorem dX8_hasLetGo_9 : decode cX8_hasLetGo 9 = .ok (.iload_n 1, 1) := by decide +kernel
theorem dX8_hasLetGo_10 : decode cX8_hasLetGo 10 = .ok (.aaload, 1) := by decide +kernel
theorem dX8_hasLetGo_11 : decode cX8_hasLetGo 11 = .ok (.getfield 255, 3) := by decide +kernel
theorem dX8_hasLetGo_14 : decode cX8_hasLetGo 14 = .ok (.ireturn, 1) := by decide +kernel
set_option maxRecDepth 20000 in
theorem ggX8_arm_X8_isCommand : GoodIn wsX8_arm wsX8_isCommand := goodIn_r _ [7] (by decide +kernel) (by decide +kernel)
set_option maxRecDepth 20000 in
theorem gX8_arm_X8_isCommand : GoodIn wsX8_arm (va_wsS RX8 258 yX8_isCommand wsX8_isCommand) := goodIn_app (goodIn_of _ (by decide +kernel)) ggX8_arm_X8_isCommand
set_option maxRecDepth 20000 in
theorem ggX8_arm_X8_requireFit : GoodIn wsX8_arm wsX8_requireFit := goodIn_ca (goodIn_r _ [10, 11, 12] (by decide +kernel) (by decide +kernel)) (goodIn_sub (fun _ h => List.mem_cons_of_mem _ (List.mem_append_right _ h)) (by decide +kernel))
set_option maxRecDepth 20000 in
theorem gX8_arm_X8_requireFit : GoodIn wsX8_arm (va_wsS RX8 96 yX8_requireFit wsX8_requireFit) := goodIn_app (goodIn_of _ (by decide +kernel)) ggX8_arm_X8_requireFit
theorem dX8_arm_0 : decode cX8_arm 0 = .ok (.iload_n 1, 1) := by decide +kernel
theorem dX8_arm_1 : decode cX8_arm 1 = .ok (.invokestatic 258, 3) := by decide +kernel
theorem dX8_arm_4 : decode cX8_arm 4 = .ok (.invokestatic 96, 3) := by decide +kernel
theorem dX8_arm_7 : decode cX8_arm 7 = .ok (.aload_n 0, 1) := by decide +kernel
theorem dX8_arm_8 : decode cX8_arm 8 = .ok (.iload_n 1, 1) := by decide +kernel
theorem dX8_arm_9 : decode cX8_arm 9 = .ok (.putfield 70, 3) := by decide +kernel
theorem dX8_arm_12 : decode cX8_arm 12 = .ok (.aload_n 0, 1) := by decide +kernel
theorem dX8_arm_13 : decode cX8_arm 13 = .ok (.aload_n 0, 1) := by decide +kernel
theorem dX8_arm_14 : decode cX8_arm 14 = .ok (.getfield 63, 3) := by decide +kernel
theorem dX8_arm_17 : decode cX8_arm 17 = .ok (.iconst 3, 1) := by decide +kernel
theorem dX8_arm_18 : decode cX8_arm 18 = .ok (.iadd, 1) := by decide +kernel
theorem dX8_arm_19 : decode cX8_arm 19 = .ok (.putfield 74, 3) := by decide +kernel
theorem dX8_arm_22 : decode cX8_arm 22 = .ok (.aload_n 0, 1) := by decide +kernel
theorem dX8_arm_23 : decode cX8_arm 23 = .ok (.getfield 74, 3) := by decide +kernel
theorem dX8_arm_26 : decode cX8_arm 26 = .ok (.ireturn, 1) := by decide +kernel
set_option maxRecDepth 20000 in
theorem ggX8_give_X8_isCommand : GoodIn wsX8_give wsX8_isCommand := goodIn_r _ [8] (by decide +kernel) (by decide +kernel)
set_option maxRecDepth 20000 in
theorem gX8_give_X8_isCommand : GoodIn wsX8_give (va_wsS RX8 258 yX8_isCommand wsX8_isCommand) := goodIn_app (goodIn_of _ (by decide +kernel)) ggX8_give_X8_isCommand
set_option maxRecDepth 20000 in
theorem ggX8_give_X8_requireFit : GoodIn wsX8_give wsX8_requireFit := goodIn_ca (goodIn_r _ [11, 12, 13] (by decide +kernel) (by decide +kernel)) (goodIn_sub (fun _ h => List.mem_cons_of_mem _ (List.mem_append_left _ (List.mem_append_right _ h))) (by decide +kernel))
set_option maxRecDepth 20000 in
theorem gX8_give_X8_requireFit : GoodIn wsX8_give (va_wsS RX8 96 yX8_requireFit wsX8_requireFit) := goodIn_app (goodIn_of _ (by decide +kernel)) ggX8_give_X8_requireFit
set_option maxRecDepth 20000 in
theorem ggX8_give_X8_requireState : GoodIn wsX8_give wsX8_requireState := goodIn_ca (goodIn_r _ [16, 17, 18] (by decide +kernel) (by decide +kernel)) (goodIn_sub (fun _ h => List.mem_cons_of_mem _ (List.mem_append_right _ h)) (by decide +kernel))
set_option maxRecDepth 20000 in
theorem gX8_give_X8_requireState : GoodIn wsX8_give (va_wsS RX8 168 yX8_requireState wsX8_requireState) := goodIn_app (goodIn_of _ (by decide +kernel)) ggX8_give_X8_requireState
set_option maxRecDepth 20000 in
theorem ggX8_give_X8_resetActuators : GoodIn wsX8_give wsX8_resetActuators := goodIn_r _ [22, 23, 24, 25, 26, 27, 28, 29, 30, 31, 32, 33, 34, 35, 36, 37, 38, 39, 40, 41, 42, 43] (by decide +kernel) (by decide +kernel)
set_option maxRecDepth 20000 in
theorem gX8_give_X8_resetActuators : GoodIn wsX8_give (wsV RX8 262 RX8 yX8_resetActuators wsX8_resetActuators) := goodIn_app (goodIn_of _ (by decide +kernel)) ggX8_give_X8_resetActuators
theorem dX8_give_0 : decode cX8_give 0 = .ok (.iload_n 1, 1) := by decide +kernel
theorem dX8_give_1 : decode cX8_give 1 = .ok (.invokestatic 258, 3) := by decide +kernel
theorem dX8_give_4 : decode cX8_give 4 = .ok (.invokestatic 96, 3) := by decide +kernel
theorem dX8_give_7 : decode cX8_give 7 = .ok (.aload_n 0, 1) := by decide +kernel
theorem dX8_give_8 : decode cX8_give 8 = .ok (.getfield 70, 3) := by decide +kernel
theorem dX8_give_11 : decode cX8_give 11 = .ok (.iload_n 1, 1) := by decide +kernel
theorem dX8_give_12 : decode cX8_give 12 = .ok (.if_icmp .ne 18, 3) := by decide +kernel
theorem dX8_give_15 : decode cX8_give 15 = .ok (.aload_n 0, 1) := by decide +kernel
theorem dX8_give_16 : decode cX8_give 16 = .ok (.getfield 63, 3) := by decide +kernel
theorem dX8_give_19 : decode cX8_give 19 = .ok (.aload_n 0, 1) := by decide +kernel
theorem dX8_give_20 : decode cX8_give 20 = .ok (.getfield 74, 3) := by decide +kernel
theorem dX8_give_23 : decode cX8_give 23 = .ok (.if_icmp .gt 7, 3) := by decide +kernel
theorem dX8_give_26 : decode cX8_give 26 = .ok (.iconst 1, 1) := by decide +kernel
theorem dX8_give_27 : decode cX8_give 27 = .ok (.goto 4, 3) := by decide +kernel
theorem dX8_give_30 : decode cX8_give 30 = .ok (.iconst 0, 1) := by decide +kernel
theorem dX8_give_31 : decode cX8_give 31 = .ok (.invokestatic 168, 3) := by decide +kernel
theorem dX8_give_34 : decode cX8_give 34 = .ok (.aload_n 0, 1) := by decide +kernel
theorem dX8_give_35 : decode cX8_give 35 = .ok (.iconst 0, 1) := by decide +kernel
theorem dX8_give_36 : decode cX8_give 36 = .ok (.putfield 70, 3) := by decide +kernel
theorem dX8_give_39 : decode cX8_give 39 = .ok (.iload_n 1, 1) := by decide +kernel
theorem dX8_give_40 : decode cX8_give 40 = .ok (.bipush 109, 2) := by decide +kernel
theorem dX8_give_42 : decode cX8_give 42 = .ok (.if_icmp .ne 18, 3) := by decide +kernel
theorem dX8_give_45 : decode cX8_give 45 = .ok (.aload_n 0, 1) := by decide +kernel
theorem dX8_give_46 : decode cX8_give 46 = .ok (.iconst 1, 1) := by decide +kernel
theorem dX8_give_47 : decode cX8_give 47 = .ok (.aload_n 0, 1) := by decide +kernel
theorem dX8_give_48 : decode cX8_give 48 = .ok (.getfield 67, 3) := by decide +kernel
theorem dX8_give_51 : decode cX8_give 51 = .ok (.isub, 1) := by decide +kernel
theorem dX8_give_52 : decode cX8_give 52 = .ok (.putfield 67, 3) := by decide +kernel
theorem dX8_give_55 : decode cX8_give 55 = .ok (.aload_n 0, 1) := by decide +kernel
theorem dX8_give_56 : decode cX8_give 56 = .ok (.getfield 67, 3) := by decide +kernel
theorem dX8_give_59 : decode cX8_give 59 = .ok (.ireturn, 1) := by decide +kernel
theorem dX8_give_60 : decode cX8_give 60 = .ok (.aload_n 0, 1) := by decide +kernel
theorem dX8_give_61 : decode cX8_give 61 = .ok (.invokevirtual 262, 3) := by decide +kernel
theorem dX8_give_64 : decode cX8_give 64 = .ok (.ireturn, 1) := by decide +kernel
set_option maxRecDepth 20000 in
theorem ggX8_line_X8_requireFit : GoodIn wsX8_line wsX8_requireFit := goodIn_ca (goodIn_r _ [7, 8, 9] (by decide +kernel) (by decide +kernel)) (goodIn_sub (fun _ h => List.mem_cons_of_mem _ (List.mem_append_right _ h)) (by decide +kernel))
set_option maxRecDepth 20000 in
theorem gX8_line_X8_requireFit : GoodIn wsX8_line (va_wsS RX8 96 yX8_requireFit wsX8_requireFit) := goodIn_app (goodIn_of _ (by decide +kernel)) ggX8_line_X8_requireFit
set_option maxRecDepth 20000 in
theorem ggX8_line_X3_countKept : GoodIn wsX8_line wsX3_countKept := goodIn_r _ [14, 15, 16, 17, 18, 19, 59, 60, 61, 62] (by decide +kernel) (by decide +kernel)
set_option maxRecDepth 20000 in
theorem gX8_line_X3_countKept : GoodIn wsX8_line (wsV RX8 265 RX3 yX3_countKept wsX3_countKept) := goodIn_app (goodIn_of _ (by decide +kernel)) ggX8_line_X3_countKept
set_option maxRecDepth 20000 in
theorem ggX8_line_X3_timeOf : GoodIn wsX8_line wsX3_timeOf := goodIn_r _ [23, 24, 25, 26, 27, 13, 28, 15, 29, 30, 31, 32, 59, 60, 61, 62] (by decide +kernel) (by decide +kernel)
set_option maxRecDepth 20000 in
theorem gX8_line_X3_timeOf : GoodIn wsX8_line (wsV RX8 270 RX3 yX3_timeOf wsX3_timeOf) := goodIn_app (goodIn_of _ (by decide +kernel)) ggX8_line_X3_timeOf
set_option maxRecDepth 20000 in
theorem ggX8_line_X3_computerOf : GoodIn wsX8_line wsX3_computerOf := goodIn_r _ [36, 37, 25, 26, 27, 13, 28, 15, 29, 30, 31, 32, 59, 60, 61, 62] (by decide +kernel) (by decide +kernel)
set_option maxRecDepth 20000 in
theorem gX8_line_X3_computerOf : GoodIn wsX8_line (wsV RX8 273 RX3 yX3_computerOf wsX3_computerOf) := goodIn_app (goodIn_of _ (by decide +kernel)) ggX8_line_X3_computerOf
set_option maxRecDepth 20000 in
theorem ggX8_line_X3_letterOf : GoodIn wsX8_line wsX3_letterOf := goodIn_r _ [41, 42, 25, 26, 27, 13, 28, 15, 29, 30, 31, 32, 59, 60, 61, 62] (by decide +kernel) (by decide +kernel)
set_option maxRecDepth 20000 in
theorem gX8_line_X3_letterOf : GoodIn wsX8_line (wsV RX8 276 RX3 yX3_letterOf wsX3_letterOf) := goodIn_app (goodIn_of _ (by decide +kernel)) ggX8_line_X3_letterOf
theorem dX8_line_0 : decode cX8_line 0 = .ok (.iload_n 2, 1) := by decide +kernel
theorem dX8_line_1 : decode cX8_line 1 = .ok (.bipush 116, 2) := by decide +kernel
theorem dX8_line_3 : decode cX8_line 3 = .ok (.if_icmp .eq 15, 3) := by decide +kernel
theorem dX8_line_6 : decode cX8_line 6 = .ok (.iload_n 2, 1) := by decide +kernel
theorem dX8_line_7 : decode cX8_line 7 = .ok (.bipush 99, 2) := by decide +kernel
theorem dX8_line_9 : decode cX8_line 9 = .ok (.if_icmp .eq 9, 3) := by decide +kernel
theorem dX8_line_12 : decode cX8_line 12 = .ok (.iload_n 2, 1) := by decide +kernel
theorem dX8_line_13 : decode cX8_line 13 = .ok (.bipush 114, 2) := by decide +kernel
theorem dX8_line_15 : decode cX8_line 15 = .ok (.if_icmp .ne 7, 3) := by decide +kernel
theorem dX8_line_18 : decode cX8_line 18 = .ok (.iconst 1, 1) := by decide +kernel
theorem dX8_line_19 : decode cX8_line 19 = .ok (.goto 4, 3) := by decide +kernel
theorem dX8_line_22 : decode cX8_line 22 = .ok (.iconst 0, 1) := by decide +kernel
theorem dX8_line_23 : decode cX8_line 23 = .ok (.invokestatic 96, 3) := by decide +kernel
theorem dX8_line_26 : decode cX8_line 26 = .ok (.iload_n 1, 1) := by decide +kernel
theorem dX8_line_27 : decode cX8_line 27 = .ok (.ifCond .lt 14, 3) := by decide +kernel
theorem dX8_line_30 : decode cX8_line 30 = .ok (.iload_n 1, 1) := by decide +kernel
theorem dX8_line_31 : decode cX8_line 31 = .ok (.aload_n 0, 1) := by decide +kernel
theorem dX8_line_32 : decode cX8_line 32 = .ok (.getfield 59, 3) := by decide +kernel
theorem dX8_line_35 : decode cX8_line 35 = .ok (.invokevirtual 265, 3) := by decide +kernel
theorem dX8_line_38 : decode cX8_line 38 = .ok (.if_icmp .lt 14, 3) := by decide +kernel
theorem dX8_line_41 : decode cX8_line 41 = .ok (.new 238, 3) := by decide +kernel
theorem dX8_line_44 : decode cX8_line 44 = .ok (.dup, 1) := by decide +kernel
theorem dX8_line_45 : decode cX8_line 45 = .ok (.ldc_w 268, 3) := by decide +kernel
theorem dX8_line_48 : decode cX8_line 48 = .ok (.invokespecial 242, 3) := by decide +kernel
theorem dX8_line_51 : decode cX8_line 51 = .ok (.athrow, 1) := by decide +kernel
theorem dX8_line_52 : decode cX8_line 52 = .ok (.iload_n 2, 1) := by decide +kernel
theorem dX8_line_53 : decode cX8_line 53 = .ok (.bipush 116, 2) := by decide +kernel
theorem dX8_line_55 : decode cX8_line 55 = .ok (.if_icmp .ne 12, 3) := by decide +kernel
theorem dX8_line_58 : decode cX8_line 58 = .ok (.aload_n 0, 1) := by decide +kernel
theorem dX8_line_59 : decode cX8_line 59 = .ok (.getfield 59, 3) := by decide +kernel
theorem dX8_line_62 : decode cX8_line 62 = .ok (.iload_n 1, 1) := by decide +kernel
theorem dX8_line_63 : decode cX8_line 63 = .ok (.invokevirtual 270, 3) := by decide +kernel
theorem dX8_line_66 : decode cX8_line 66 = .ok (.ireturn, 1) := by decide +kernel
theorem dX8_line_67 : decode cX8_line 67 = .ok (.iload_n 2, 1) := by decide +kernel
theorem dX8_line_68 : decode cX8_line 68 = .ok (.bipush 99, 2) := by decide +kernel
theorem dX8_line_70 : decode cX8_line 70 = .ok (.if_icmp .ne 14, 3) := by decide +kernel
theorem dX8_line_73 : decode cX8_line 73 = .ok (.aload_n 0, 1) := by decide +kernel
theorem dX8_line_74 : decode cX8_line 74 = .ok (.getfield 59, 3) := by decide +kernel
theorem dX8_line_77 : decode cX8_line 77 = .ok (.iload_n 1, 1) := by decide +kernel
theorem dX8_line_78 : decode cX8_line 78 = .ok (.invokevirtual 273, 3) := by decide +kernel
theorem dX8_line_81 : decode cX8_line 81 = .ok (.goto 11, 3) := by decide +kernel
theorem dX8_line_84 : decode cX8_line 84 = .ok (.aload_n 0, 1) := by decide +kernel
theorem dX8_line_85 : decode cX8_line 85 = .ok (.getfield 59, 3) := by decide +kernel
theorem dX8_line_88 : decode cX8_line 88 = .ok (.iload_n 1, 1) := by decide +kernel
theorem dX8_line_89 : decode cX8_line 89 = .ok (.invokevirtual 276, 3) := by decide +kernel
theorem dX8_line_92 : decode cX8_line 92 = .ok (.ireturn, 1) := by decide +kernel
set_option maxRecDepth 20000 in
theorem ggX8_onShare_X8_countOn : GoodIn wsX8_onShare wsX8_countOn := goodIn_r _ [6, 7, 8, 9, 10, 11, 12, 13, 14, 15, 16, 17, 18, 19, 20, 21, 22, 23, 24, 25, 26, 27, 28, 29, 30, 31, 32, 33, 34, 35, 36, 37, 38] (by decide +kernel) (by decide +kernel)
set_option maxRecDepth 20000 in
theorem gX8_onShare_X8_countOn : GoodIn wsX8_onShare (wsV RX8 114 RX8 yX8_countOn wsX8_countOn) := goodIn_app (goodIn_of _ (by decide +kernel)) ggX8_onShare_X8_countOn
theorem dX8_onShare_0 : decode cX8_onShare 0 = .ok (.aload_n 0, 1) := by decide +kernel
theorem dX8_onShare_1 : decode cX8_onShare 1 = .ok (.invokevirtual 114, 3) := by decide +kernel
theorem dX8_onShare_4 : decode cX8_onShare 4 = .ok (.i2f, 1) := by decide +kernel
theorem dX8_onShare_5 : decode cX8_onShare 5 = .ok (.ldc_w 279, 3) := by decide +kernel
theorem dX8_onShare_8 : decode cX8_onShare 8 = .ok (.fdiv, 1) := by decide +kernel
theorem dX8_onShare_9 : decode cX8_onShare 9 = .ok (.freturn, 1) := by decide +kernel
theorem dX8_meanOutput_0 : decode cX8_meanOutput 0 = .ok (.iconst 0, 1) := by decide +kernel
theorem dX8_meanOutput_1 : decode cX8_meanOutput 1 = .ok (.istore_n 1, 1) := by decide +kernel
theorem dX8_meanOutput_2 : decode cX8_meanOutput 2 = .ok (.iconst 0, 1) := by decide +kernel
theorem dX8_meanOutput_3 : decode cX8_meanOutput 3 = .ok (.istore_n 2, 1) := by decide +kernel
theorem dX8_meanOutput_4 : decode cX8_meanOutput 4 = .ok (.iload_n 2, 1) := by decide +kernel
theorem dX8_meanOutput_5 : decode cX8_meanOutput 5 = .ok (.iconst 4, 1) := by decide +kernel
theorem dX8_meanOutput_6 : decode cX8_meanOutput 6 = .ok (.if_icmp .ge 18, 3) := by decide +kernel
theorem dX8_meanOutput_9 : decode cX8_meanOutput 9 = .ok (.iload_n 1, 1) := by decide +kernel
theorem dX8_meanOutput_10 : decode cX8_meanOutput 10 = .ok (.aload_n 0, 1) := by decide +kernel
theorem dX8_meanOutput_11 : decode cX8_meanOutput 11 = .ok (.getfield 49, 3) := by decide +kernel
theorem dX8_meanOutput_14 : decode cX8_meanOutput 14 = .ok (.iload_n 2, 1) := by decide +kernel
theorem dX8_meanOutput_15 : decode cX8_meanOutput 15 = .ok (.iaload, 1) := by decide +kernel
theorem dX8_meanOutput_16 : decode cX8_meanOutput 16 = .ok (.iadd, 1) := by decide +kernel
theorem dX8_meanOutput_17 : decode cX8_meanOutput 17 = .ok (.istore_n 1, 1) := by decide +kernel
theorem dX8_meanOutput_18 : decode cX8_meanOutput 18 = .ok (.iinc 2 1, 3) := by decide +kernel
theorem dX8_meanOutput_21 : decode cX8_meanOutput 21 = .ok (.goto (-17), 3) := by decide +kernel
theorem dX8_meanOutput_24 : decode cX8_meanOutput 24 = .ok (.iload_n 1, 1) := by decide +kernel
theorem dX8_meanOutput_25 : decode cX8_meanOutput 25 = .ok (.i2d, 1) := by decide +kernel
theorem dX8_meanOutput_26 : decode cX8_meanOutput 26 = .ok (.ldc2_w 280, 3) := by decide +kernel
theorem dX8_meanOutput_29 : decode cX8_meanOutput 29 = .ok (.ddiv, 1) := by decide +kernel
theorem dX8_meanOutput_30 : decode cX8_meanOutput 30 = .ok (.dreturn, 1) := by decide +kernel
set_option maxRecDepth 20000 in
theorem ggX8_isTrue_X8_isPlain : GoodIn wsX8_isTrue wsX8_isPlain := goodIn_r _ [11, 12, 13, 50, 51, 52, 53, 54, 55, 56, 57, 58, 59, 60, 61, 62, 63, 64, 65] (by decide +kernel) (by decide +kernel)
set_option maxRecDepth 20000 in
theorem gX8_isTrue_X8_isPlain : GoodIn wsX8_isTrue (wsV RX8 286 RX8 yX8_isPlain wsX8_isPlain) := goodIn_app (goodIn_of _ (by decide +kernel)) ggX8_isTrue_X8_isPlain
set_option maxRecDepth 20000 in
theorem ggX8_isTrue_X3_wasFull : GoodIn wsX8_isTrue wsX3_wasFull := goodIn_r _ [18, 19, 80, 81, 82, 83] (by decide +kernel) (by decide +kernel)
set_option maxRecDepth 20000 in
theorem gX8_isTrue_X3_wasFull : GoodIn wsX8_isTrue (wsV RX8 289 RX3 yX3_wasFull wsX3_wasFull) := goodIn_app (goodIn_of _ (by decide +kernel)) ggX8_isTrue_X3_wasFull
set_option maxRecDepth 20000 in
theorem ggX8_isTrue_X3_tellsOff : GoodIn wsX8_isTrue wsX3_tellsOff := goodIn_r _ [23, 24, 25, 26, 17, 27, 19, 28, 29, 30, 31, 32, 33, 34, 35, 36, 37, 38, 39, 40, 41, 42, 43, 44, 45, 46, 47, 48, 49, 80, 81, 82, 83] (by decide +kernel) (by decide +kernel)
set_option maxRecDepth 20000 in
theorem gX8_isTrue_X3_tellsOff : GoodIn wsX8_isTrue (wsV RX8 292 RX3 yX3_tellsOff wsX3_tellsOff) := goodIn_app (goodIn_of _ (by decide +kernel)) ggX8_isTrue_X3_tellsOff
theorem dX8_isTrue_0 : decode cX8_isTrue 0 = .ok (.aload_n 0, 1) := by decide +kernel
theorem dX8_isTrue_1 : decode cX8_isTrue 1 = .ok (.getfield 77, 3) := by decide +kernel
theorem dX8_isTrue_4 : decode cX8_isTrue 4 = .ok (.ifCond .ne 19, 3) := by decide +kernel
theorem dX8_isTrue_7 : decode cX8_isTrue 7 = .ok (.aload_n 0, 1) := by decide +kernel
theorem dX8_isTrue_8 : decode cX8_isTrue 8 = .ok (.getfield 81, 3) := by decide +kernel
theorem dX8_isTrue_11 : decode cX8_isTrue 11 = .ok (.ifCond .ne 12, 3) := by decide +kernel
theorem dX8_isTrue_14 : decode cX8_isTrue 14 = .ok (.aload_n 0, 1) := by decide +kernel
theorem dX8_isTrue_15 : decode cX8_isTrue 15 = .ok (.invokevirtual 286, 3) := by decide +kernel
theorem dX8_isTrue_18 : decode cX8_isTrue 18 = .ok (.ifCond .ne 5, 3) := by decide +kernel
theorem dX8_isTrue_21 : decode cX8_isTrue 21 = .ok (.iconst 0, 1) := by decide +kernel
theorem dX8_isTrue_22 : decode cX8_isTrue 22 = .ok (.ireturn, 1) := by decide +kernel
theorem dX8_isTrue_23 : decode cX8_isTrue 23 = .ok (.iconst 0, 1) := by decide +kernel
theorem dX8_isTrue_24 : decode cX8_isTrue 24 = .ok (.istore_n 1, 1) := by decide +kernel
theorem dX8_isTrue_25 : decode cX8_isTrue 25 = .ok (.iload_n 1, 1) := by decide +kernel
theorem dX8_isTrue_26 : decode cX8_isTrue 26 = .ok (.iconst 3, 1) := by decide +kernel
theorem dX8_isTrue_27 : decode cX8_isTrue 27 = .ok (.if_icmp .ge 71, 3) := by decide +kernel
theorem dX8_isTrue_30 : decode cX8_isTrue 30 = .ok (.aload_n 0, 1) := by decide +kernel
theorem dX8_isTrue_31 : decode cX8_isTrue 31 = .ok (.getfield 11, 3) := by decide +kernel
theorem dX8_isTrue_34 : decode cX8_isTrue 34 = .ok (.iload_n 1, 1) := by decide +kernel
theorem dX8_isTrue_35 : decode cX8_isTrue 35 = .ok (.aaload, 1) := by decide +kernel
theorem dX8_isTrue_36 : decode cX8_isTrue 36 = .ok (.getfield 162, 3) := by decide +kernel
theorem dX8_isTrue_39 : decode cX8_isTrue 39 = .ok (.ifCond .eq 18, 3) := by decide +kernel
theorem dX8_isTrue_42 : decode cX8_isTrue 42 = .ok (.aload_n 0, 1) := by decide +kernel
theorem dX8_isTrue_43 : decode cX8_isTrue 43 = .ok (.getfield 11, 3) := by decide +kernel
theorem dX8_isTrue_46 : decode cX8_isTrue 46 = .ok (.iload_n 1, 1) := by decide +kernel
theorem dX8_isTrue_47 : decode cX8_isTrue 47 = .ok (.aaload, 1) := by decide +kernel
theorem dX8_isTrue_48 : decode cX8_isTrue 48 = .ok (.getfield 165, 3) := by decide +kernel
theorem dX8_isTrue_51 : decode cX8_isTrue 51 = .ok (.iconst 3, 1) := by decide +kernel
theorem dX8_isTrue_52 : decode cX8_isTrue 52 = .ok (.if_icmp .lt 5, 3) := by decide +kernel
theorem dX8_isTrue_55 : decode cX8_isTrue 55 = .ok (.iconst 0, 1) := by decide +kernel
theorem dX8_isTrue_56 : decode cX8_isTrue 56 = .ok (.ireturn, 1) := by decide +kernel
theorem dX8_isTrue_57 : decode cX8_isTrue 57 = .ok (.aload_n 0, 1) := by decide +kernel
theorem dX8_isTrue_58 : decode cX8_isTrue 58 = .ok (.getfield 11, 3) := by decide +kernel
theorem dX8_isTrue_61 : decode cX8_isTrue 61 = .ok (.iload_n 1, 1) := by decide +kernel
theorem dX8_isTrue_62 : decode cX8_isTrue 62 = .ok (.aaload, 1) := by decide +kernel
theorem dX8_isTrue_63 : decode cX8_isTrue 63 = .ok (.getfield 162, 3) := by decide +kernel
theorem dX8_isTrue_66 : decode cX8_isTrue 66 = .ok (.ifCond .ne 26, 3) := by decide +kernel
theorem dX8_isTrue_69 : decode cX8_isTrue 69 = .ok (.aload_n 0, 1) := by decide +kernel
theorem dX8_isTrue_70 : decode cX8_isTrue 70 = .ok (.getfield 59, 3) := by decide +kernel
theorem dX8_isTrue_73 : decode cX8_isTrue 73 = .ok (.invokevirtual 289, 3) := by decide +kernel
theorem dX8_isTrue_76 : decode cX8_isTrue 76 = .ok (.ifCond .ne 16, 3) := by decide +kernel
theorem dX8_isTrue_79 : decode cX8_isTrue 79 = .ok (.aload_n 0, 1) := by decide +kernel
theorem dX8_isTrue_80 : decode cX8_isTrue 80 = .ok (.getfield 59, 3) := by decide +kernel
theorem dX8_isTrue_83 : decode cX8_isTrue 83 = .ok (.iload_n 1, 1) := by decide +kernel
theorem dX8_isTrue_84 : decode cX8_isTrue 84 = .ok (.invokevirtual 292, 3) := by decide +kernel
theorem dX8_isTrue_87 : decode cX8_isTrue 87 = .ok (.ifCond .ne 5, 3) := by decide +kernel
theorem dX8_isTrue_90 : decode cX8_isTrue 90 = .ok (.iconst 0, 1) := by decide +kernel
theorem dX8_isTrue_91 : decode cX8_isTrue 91 = .ok (.ireturn, 1) := by decide +kernel
theorem dX8_isTrue_92 : decode cX8_isTrue 92 = .ok (.iinc 1 1, 3) := by decide +kernel
theorem dX8_isTrue_95 : decode cX8_isTrue 95 = .ok (.goto (-70), 3) := by decide +kernel
theorem dX8_isTrue_98 : decode cX8_isTrue 98 = .ok (.iconst 1, 1) := by decide +kernel
theorem dX8_isTrue_99 : decode cX8_isTrue 99 = .ok (.ireturn, 1) := by decide +kernel
theorem dX8_requireIndex_0 : decode cX8_requireIndex 0 = .ok (.iload_n 0, 1) := by decide +kernel
theorem dX8_requireIndex_1 : decode cX8_requireIndex 1 = .ok (.ifCond .lt 8, 3) := by decide +kernel
theorem dX8_requireIndex_4 : decode cX8_requireIndex 4 = .ok (.iload_n 0, 1) := by decide +kernel
theorem dX8_requireIndex_5 : decode cX8_requireIndex 5 = .ok (.iload_n 1, 1) := by decide +kernel
theorem dX8_requireIndex_6 : decode cX8_requireIndex 6 = .ok (.if_icmp .lt 14, 3) := by decide +kernel
theorem dX8_requireIndex_9 : decode cX8_requireIndex 9 = .ok (.new 295, 3) := by decide +kernel
theorem dX8_requireIndex_12 : decode cX8_requireIndex 12 = .ok (.dup, 1) := by decide +kernel
theorem dX8_requireIndex_13 : decode cX8_requireIndex 13 = .ok (.ldc_w 297, 3) := by decide +kernel
theorem dX8_requireIndex_16 : decode cX8_requireIndex 16 = .ok (.invokespecial 299, 3) := by decide +kernel
theorem dX8_requireIndex_19 : decode cX8_requireIndex 19 = .ok (.athrow, 1) := by decide +kernel
theorem dX8_requireIndex_20 : decode cX8_requireIndex 20 = .ok (.return_, 1) := by decide +kernel
theorem dX8_requireFit_0 : decode cX8_requireFit 0 = .ok (.iload_n 0, 1) := by decide +kernel
theorem dX8_requireFit_1 : decode cX8_requireFit 1 = .ok (.ifCond .ne 14, 3) := by decide +kernel
theorem dX8_requireFit_4 : decode cX8_requireFit 4 = .ok (.new 300, 3) := by decide +kernel
theorem dX8_requireFit_7 : decode cX8_requireFit 7 = .ok (.dup, 1) := by decide +kernel
theorem dX8_requireFit_8 : decode cX8_requireFit 8 = .ok (.ldc_w 302, 3) := by decide +kernel
theorem dX8_requireFit_11 : decode cX8_requireFit 11 = .ok (.invokespecial 304, 3) := by decide +kernel
theorem dX8_requireFit_14 : decode cX8_requireFit 14 = .ok (.athrow, 1) := by decide +kernel
theorem dX8_requireFit_15 : decode cX8_requireFit 15 = .ok (.return_, 1) := by decide +kernel
theorem dX8_requireState_0 : decode cX8_requireState 0 = .ok (.iload_n 0, 1) := by decide +kernel
theorem dX8_requireState_1 : decode cX8_requireState 1 = .ok (.ifCond .ne 14, 3) := by decide +kernel
theorem dX8_requireState_4 : decode cX8_requireState 4 = .ok (.new 305, 3) := by decide +kernel
theorem dX8_requireState_7 : decode cX8_requireState 7 = .ok (.dup, 1) := by decide +kernel
theorem dX8_requireState_8 : decode cX8_requireState 8 = .ok (.ldc_w 307, 3) := by decide +kernel
theorem dX8_requireState_11 : decode cX8_requireState 11 = .ok (.invokespecial 309, 3) := by decide +kernel
theorem dX8_requireState_14 : decode cX8_requireState 14 = .ok (.athrow, 1) := by decide +kernel
theorem dX8_requireState_15 : decode cX8_requireState 15 = .ok (.return_, 1) := by decide +kernel
theorem dX8_isCommand_0 : decode cX8_isCommand 0 = .ok (.iload_n 0, 1) := by decide +kernel
theorem dX8_isCommand_1 : decode cX8_isCommand 1 = .ok (.bipush 109, 2) := by decide +kernel
theorem dX8_isCommand_3 : decode cX8_isCommand 3 = .ok (.if_icmp .eq 9, 3) := by decide +kernel
theorem dX8_isCommand_6 : decode cX8_isCommand 6 = .ok (.iload_n 0, 1) := by decide +kernel
theorem dX8_isCommand_7 : decode cX8_isCommand 7 = .ok (.bipush 97, 2) := by decide +kernel
theorem dX8_isCommand_9 : decode cX8_isCommand 9 = .ok (.if_icmp .ne 7, 3) := by decide +kernel
theorem dX8_isCommand_12 : decode cX8_isCommand 12 = .ok (.iconst 1, 1) := by decide +kernel
theorem dX8_isCommand_13 : decode cX8_isCommand 13 = .ok (.goto 4, 3) := by decide +kernel
theorem dX8_isCommand_16 : decode cX8_isCommand 16 = .ok (.iconst 0, 1) := by decide +kernel
theorem dX8_isCommand_17 : decode cX8_isCommand 17 = .ok (.ireturn, 1) := by decide +kernel
theorem dX8_countOn_0 : decode cX8_countOn 0 = .ok (.iconst 0, 1) := by decide +kernel
theorem dX8_countOn_1 : decode cX8_countOn 1 = .ok (.istore_n 1, 1) := by decide +kernel
theorem dX8_countOn_2 : decode cX8_countOn 2 = .ok (.iconst 0, 1) := by decide +kernel
theorem dX8_countOn_3 : decode cX8_countOn 3 = .ok (.istore_n 2, 1) := by decide +kernel
theorem dX8_countOn_4 : decode cX8_countOn 4 = .ok (.iload_n 2, 1) := by decide +kernel
theorem dX8_countOn_5 : decode cX8_countOn 5 = .ok (.iconst 3, 1) := by decide +kernel
theorem dX8_countOn_6 : decode cX8_countOn 6 = .ok (.if_icmp .ge 24, 3) := by decide +kernel
theorem dX8_countOn_9 : decode cX8_countOn 9 = .ok (.aload_n 0, 1) := by decide +kernel
theorem dX8_countOn_10 : decode cX8_countOn 10 = .ok (.getfield 11, 3) := by decide +kernel
theorem dX8_countOn_13 : decode cX8_countOn 13 = .ok (.iload_n 2, 1) := by decide +kernel
theorem dX8_countOn_14 : decode cX8_countOn 14 = .ok (.aaload, 1) := by decide +kernel
theorem dX8_countOn_15 : decode cX8_countOn 15 = .ok (.getfield 162, 3) := by decide +kernel
theorem dX8_countOn_18 : decode cX8_countOn 18 = .ok (.ifCond .eq 6, 3) := by decide +kernel
theorem dX8_countOn_21 : decode cX8_countOn 21 = .ok (.iinc 1 1, 3) := by decide +kernel
theorem dX8_countOn_24 : decode cX8_countOn 24 = .ok (.iinc 2 1, 3) := by decide +kernel
theorem dX8_countOn_27 : decode cX8_countOn 27 = .ok (.goto (-23), 3) := by decide +kernel
theorem dX8_countOn_30 : decode cX8_countOn 30 = .ok (.iload_n 1, 1) := by decide +kernel
theorem dX8_countOn_31 : decode cX8_countOn 31 = .ok (.ireturn, 1) := by decide +kernel
theorem dX8_lowestOn_0 : decode cX8_lowestOn 0 = .ok (.iconst 0, 1) := by decide +kernel
theorem dX8_lowestOn_1 : decode cX8_lowestOn 1 = .ok (.istore_n 1, 1) := by decide +kernel
theorem dX8_lowestOn_2 : decode cX8_lowestOn 2 = .ok (.iload_n 1, 1) := by decide +kernel
theorem dX8_lowestOn_3 : decode cX8_lowestOn 3 = .ok (.iconst 3, 1) := by decide +kernel
theorem dX8_lowestOn_4 : decode cX8_lowestOn 4 = .ok (.if_icmp .ge 23, 3) := by decide +kernel
theorem dX8_lowestOn_7 : decode cX8_lowestOn 7 = .ok (.aload_n 0, 1) := by decide +kernel
theorem dX8_lowestOn_8 : decode cX8_lowestOn 8 = .ok (.getfield 11, 3) := by decide +kernel
theorem dX8_lowestOn_11 : decode cX8_lowestOn 11 = .ok (.iload_n 1, 1) := by decide +kernel
theorem dX8_lowestOn_12 : decode cX8_lowestOn 12 = .ok (.aaload, 1) := by decide +kernel
theorem dX8_lowestOn_13 : decode cX8_lowestOn 13 = .ok (.getfield 162, 3) := by decide +kernel
theorem dX8_lowestOn_16 : decode cX8_lowestOn 16 = .ok (.ifCond .eq 5, 3) := by decide +kernel
theorem dX8_lowestOn_19 : decode cX8_lowestOn 19 = .ok (.iload_n 1, 1) := by decide +kernel
theorem dX8_lowestOn_20 : decode cX8_lowestOn 20 = .ok (.ireturn, 1) := by decide +kernel
theorem dX8_lowestOn_21 : decode cX8_lowestOn 21 = .ok (.iinc 1 1, 3) := by decide +kernel
theorem dX8_lowestOn_24 : decode cX8_lowestOn 24 = .ok (.goto (-22), 3) := by decide +kernel
theorem dX8_lowestOn_27 : decode cX8_lowestOn 27 = .ok (.iconst (-1), 1) := by decide +kernel
theorem dX8_lowestOn_28 : decode cX8_lowestOn 28 = .ok (.ireturn, 1) := by decide +kernel
set_option maxRecDepth 20000 in
theorem ggX8_shutOff_X3_append : GoodIn wsX8_shutOff wsX3_append := goodIn_r _ [10, 11, 12, 13, 14, 15, 16, 17, 18, 49, 50, 51, 52] (by decide +kernel) (by decide +kernel)
set_option maxRecDepth 20000 in
theorem gX8_shutOff_X3_append : GoodIn wsX8_shutOff (wsV RX8 185 RX3 yX3_append wsX3_append) := goodIn_app (goodIn_of _ (by decide +kernel)) ggX8_shutOff_X3_append
theorem dX8_shutOff_0 : decode cX8_shutOff 0 = .ok (.aload_n 0, 1) := by decide +kernel
theorem dX8_shutOff_1 : decode cX8_shutOff 1 = .ok (.getfield 11, 3) := by decide +kernel
theorem dX8_shutOff_4 : decode cX8_shutOff 4 = .ok (.iload_n 1, 1) := by decide +kernel
theorem dX8_shutOff_5 : decode cX8_shutOff 5 = .ok (.aaload, 1) := by decide +kernel
theorem dX8_shutOff_6 : decode cX8_shutOff 6 = .ok (.iconst 0, 1) := by decide +kernel
theorem dX8_shutOff_7 : decode cX8_shutOff 7 = .ok (.putfield 162, 3) := by decide +kernel
theorem dX8_shutOff_10 : decode cX8_shutOff 10 = .ok (.aload_n 0, 1) := by decide +kernel
theorem dX8_shutOff_11 : decode cX8_shutOff 11 = .ok (.getfield 11, 3) := by decide +kernel
theorem dX8_shutOff_14 : decode cX8_shutOff 14 = .ok (.iload_n 1, 1) := by decide +kernel
theorem dX8_shutOff_15 : decode cX8_shutOff 15 = .ok (.aaload, 1) := by decide +kernel
theorem dX8_shutOff_16 : decode cX8_shutOff 16 = .ok (.iconst 0, 1) := by decide +kernel
theorem dX8_shutOff_17 : decode cX8_shutOff 17 = .ok (.putfield 175, 3) := by decide +kernel
theorem dX8_shutOff_20 : decode cX8_shutOff 20 = .ok (.aload_n 0, 1) := by decide +kernel
theorem dX8_shutOff_21 : decode cX8_shutOff 21 = .ok (.getfield 59, 3) := by decide +kernel
theorem dX8_shutOff_24 : decode cX8_shutOff 24 = .ok (.aload_n 0, 1) := by decide +kernel
theorem dX8_shutOff_25 : decode cX8_shutOff 25 = .ok (.getfield 63, 3) := by decide +kernel
theorem dX8_shutOff_28 : decode cX8_shutOff 28 = .ok (.iload_n 1, 1) := by decide +kernel
theorem dX8_shutOff_29 : decode cX8_shutOff 29 = .ok (.iload_n 2, 1) := by decide +kernel
theorem dX8_shutOff_30 : decode cX8_shutOff 30 = .ok (.invokevirtual 185, 3) := by decide +kernel
theorem dX8_shutOff_33 : decode cX8_shutOff 33 = .ok (.return_, 1) := by decide +kernel
set_option maxRecDepth 20000 in
theorem ggX8_runSlot_X1_begin : GoodIn wsX8_runSlot wsX1_begin := goodIn_r _ [9, 10, 11, 12, 13, 8, 14, 15, 16, 17, 18, 19, 20, 21, 22, 150, 151, 152, 153, 154, 155, 156, 157, 158, 159, 160, 161, 162, 163] (by decide +kernel) (by decide +kernel)
set_option maxRecDepth 20000 in
theorem gX8_runSlot_X1_begin : GoodIn wsX8_runSlot (wsV RX8 310 RX1 yX1_begin wsX1_begin) := goodIn_app (goodIn_of _ (by decide +kernel)) ggX8_runSlot_X1_begin
set_option maxRecDepth 20000 in
theorem ggX8_runSlot_X8_isAnyLeft : GoodIn wsX8_runSlot wsX8_isAnyLeft := goodIn_r _ [27, 3, 28, 29, 30, 8, 31, 10, 32, 33, 34, 35, 26, 36, 2, 37, 129, 130, 131, 132, 133, 134, 135, 136, 137, 138, 139, 140, 141, 142, 143, 144, 150, 151, 152, 153, 154, 155, 156, 157, 158, 159, 160, 161, 162, 163, 145, 146, 147, 148, 149] (by decide +kernel) (by decide +kernel)
set_option maxRecDepth 20000 in
theorem gX8_runSlot_X8_isAnyLeft : GoodIn wsX8_runSlot (wsV RX8 313 RX8 yX8_isAnyLeft wsX8_isAnyLeft) := goodIn_app (goodIn_of _ (by decide +kernel)) ggX8_runSlot_X8_isAnyLeft
set_option maxRecDepth 20000 in
theorem ggX8_runSlot_X8_doInstructions : GoodIn wsX8_runSlot wsX8_doInstructions := goodIn_r _ [41, 2, 37, 42, 3, 43, 44, 45, 46, 8, 47, 48, 10, 49, 50, 51, 52, 29, 30, 31, 32, 53, 54, 55, 56, 57, 58, 59, 60, 61, 62, 63, 64, 65, 66, 67, 68, 69, 70, 71, 18, 72, 73, 11, 12, 13, 14, 15, 16, 17, 19, 20, 21, 22, 74, 75, 76, 77, 78, 79, 80, 81, 82, 83, 84, 85, 26, 86, 87, 88, 89, 90, 91, 92, 93, 94, 95, 96, 97, 98, 99, 100, 101, 102, 103, 104, 105, 106, 129, 130, 131, 132, 133, 134, 135, 136, 137, 138, 139, 140, 141, 142, 143, 144, 150, 151, 152, 153, 154, 155, 156, 157, 158, 159, 160, 161, 162, 163, 145, 146, 147, 148, 149, 164, 165, 166, 167, 168, 169, 170, 171, 172, 173, 174] (by decide +kernel) (by decide +kernel)
set_option maxRecDepth 20000 in
theorem gX8_runSlot_X8_doInstructions : GoodIn wsX8_runSlot (wsV RX8 317 RX8 yX8_doInstructions wsX8_doInstructions) := goodIn_app (goodIn_of _ (by decide +kernel)) ggX8_runSlot_X8_doInstructions
set_option maxRecDepth 20000 in
theorem ggX8_runSlot_X8_vote : GoodIn wsX8_runSlot wsX8_vote := goodIn_r _ [110, 2, 37, 111, 112, 113, 114, 115, 26, 116, 117, 118, 119, 120, 121, 122, 123, 8, 124, 48, 73, 103, 104, 105, 106, 129, 130, 131, 132, 133, 134, 135, 136, 137, 138, 139, 140, 141, 142, 143, 144, 150, 151, 152, 153, 154, 155, 156, 157, 158, 159, 160, 161, 162, 163] (by decide +kernel) (by decide +kernel)
set_option maxRecDepth 20000 in
theorem gX8_runSlot_X8_vote : GoodIn wsX8_runSlot (wsV RX8 321 RX8 yX8_vote wsX8_vote) := goodIn_app (goodIn_of _ (by decide +kernel)) ggX8_runSlot_X8_vote
set_option maxRecDepth 20000 in
theorem ggX8_runSlot_X8_shutOffStruckOnes : GoodIn wsX8_runSlot wsX8_shutOffStruckOnes := goodIn_r _ [128, 2, 37, 112, 83, 84, 85, 26, 86, 87, 88, 89, 90, 91, 92, 93, 94, 95, 96, 97, 98, 99, 100, 101, 102, 129, 130, 131, 132, 133, 134, 135, 136, 137, 138, 139, 140, 141, 142, 143, 144, 150, 151, 152, 153, 154, 155, 156, 157, 158, 159, 160, 161, 162, 163, 171, 172, 173, 174] (by decide +kernel) (by decide +kernel)
set_option maxRecDepth 20000 in
theorem gX8_runSlot_X8_shutOffStruckOnes : GoodIn wsX8_runSlot (wsV RX8 324 RX8 yX8_shutOffStruckOnes wsX8_shutOffStruckOnes) := goodIn_app (goodIn_of _ (by decide +kernel)) ggX8_runSlot_X8_shutOffStruckOnes
set_option maxRecDepth 20000 in
theorem ggX8_runSlot_X8_isOneOfThreeLeft : GoodIn wsX8_runSlot wsX8_isOneOfThreeLeft := goodIn_r _ [36, 2, 37, 28, 29, 30, 8, 31, 10, 32, 129, 130, 131, 132, 133, 134, 135, 136, 137, 138, 139, 140, 141, 142, 143, 144, 150, 151, 152, 153, 154, 155, 156, 157, 158, 159, 160, 161, 162, 163, 145, 146, 147, 148, 149] (by decide +kernel) (by decide +kernel)
set_option maxRecDepth 20000 in
theorem gX8_runSlot_X8_isOneOfThreeLeft : GoodIn wsX8_runSlot (wsV RX8 327 RX8 yX8_isOneOfThreeLeft wsX8_isOneOfThreeLeft) := goodIn_app (goodIn_of _ (by decide +kernel)) ggX8_runSlot_X8_isOneOfThreeLeft
theorem dX8_runSlot_0 : decode cX8_runSlot 0 = .ok (.aload_n 0, 1) := by decide +kernel
theorem dX8_runSlot_1 : decode cX8_runSlot 1 = .ok (.getfield 22, 3) := by decide +kernel
theorem dX8_runSlot_4 : decode cX8_runSlot 4 = .ok (.iload_n 1, 1) := by decide +kernel
theorem dX8_runSlot_5 : decode cX8_runSlot 5 = .ok (.aaload, 1) := by decide +kernel
theorem dX8_runSlot_6 : decode cX8_runSlot 6 = .ok (.astore_n 2, 1) := by decide +kernel
theorem dX8_runSlot_7 : decode cX8_runSlot 7 = .ok (.iconst 0, 1) := by decide +kernel
theorem dX8_runSlot_8 : decode cX8_runSlot 8 = .ok (.istore_n 3, 1) := by decide +kernel
theorem dX8_runSlot_9 : decode cX8_runSlot 9 = .ok (.iload_n 3, 1) := by decide +kernel
theorem dX8_runSlot_10 : decode cX8_runSlot 10 = .ok (.iconst 3, 1) := by decide +kernel
theorem dX8_runSlot_11 : decode cX8_runSlot 11 = .ok (.if_icmp .ge 18, 3) := by decide +kernel
theorem dX8_runSlot_14 : decode cX8_runSlot 14 = .ok (.aload_n 0, 1) := by decide +kernel
theorem dX8_runSlot_15 : decode cX8_runSlot 15 = .ok (.getfield 11, 3) := by decide +kernel
theorem dX8_runSlot_18 : decode cX8_runSlot 18 = .ok (.iload_n 3, 1) := by decide +kernel
theorem dX8_runSlot_19 : decode cX8_runSlot 19 = .ok (.aaload, 1) := by decide +kernel
theorem dX8_runSlot_20 : decode cX8_runSlot 20 = .ok (.invokevirtual 310, 3) := by decide +kernel
theorem dX8_runSlot_23 : decode cX8_runSlot 23 = .ok (.iinc 3 1, 3) := by decide +kernel
theorem dX8_runSlot_26 : decode cX8_runSlot 26 = .ok (.goto (-17), 3) := by decide +kernel
theorem dX8_runSlot_29 : decode cX8_runSlot 29 = .ok (.aload_n 0, 1) := by decide +kernel
theorem dX8_runSlot_30 : decode cX8_runSlot 30 = .ok (.getfield 16, 3) := by decide +kernel
theorem dX8_runSlot_33 : decode cX8_runSlot 33 = .ok (.invokevirtual 310, 3) := by decide +kernel
theorem dX8_runSlot_36 : decode cX8_runSlot 36 = .ok (.iconst 0, 1) := by decide +kernel
theorem dX8_runSlot_37 : decode cX8_runSlot 37 = .ok (.istore_n 3, 1) := by decide +kernel
theorem dX8_runSlot_38 : decode cX8_runSlot 38 = .ok (.iload_n 3, 1) := by decide +kernel
theorem dX8_runSlot_39 : decode cX8_runSlot 39 = .ok (.bipush 30, 2) := by decide +kernel
theorem dX8_runSlot_41 : decode cX8_runSlot 41 = .ok (.if_icmp .ge 31, 3) := by decide +kernel
theorem dX8_runSlot_44 : decode cX8_runSlot 44 = .ok (.aload_n 0, 1) := by decide +kernel
theorem dX8_runSlot_45 : decode cX8_runSlot 45 = .ok (.aload_n 2, 1) := by decide +kernel
theorem dX8_runSlot_46 : decode cX8_runSlot 46 = .ok (.invokevirtual 313, 3) := by decide +kernel
theorem dX8_runSlot_49 : decode cX8_runSlot 49 = .ok (.ifCond .eq 23, 3) := by decide +kernel
theorem dX8_runSlot_52 : decode cX8_runSlot 52 = .ok (.aload_n 0, 1) := by decide +kernel
theorem dX8_runSlot_53 : decode cX8_runSlot 53 = .ok (.aload_n 2, 1) := by decide +kernel
theorem dX8_runSlot_54 : decode cX8_runSlot 54 = .ok (.iload_n 1, 1) := by decide +kernel
theorem dX8_runSlot_55 : decode cX8_runSlot 55 = .ok (.invokevirtual 317, 3) := by decide +kernel
theorem dX8_runSlot_58 : decode cX8_runSlot 58 = .ok (.aload_n 0, 1) := by decide +kernel
theorem dX8_runSlot_59 : decode cX8_runSlot 59 = .ok (.invokevirtual 321, 3) := by decide +kernel
theorem dX8_runSlot_62 : decode cX8_runSlot 62 = .ok (.aload_n 0, 1) := by decide +kernel
theorem dX8_runSlot_63 : decode cX8_runSlot 63 = .ok (.invokevirtual 324, 3) := by decide +kernel
theorem dX8_runSlot_66 : decode cX8_runSlot 66 = .ok (.iinc 3 1, 3) := by decide +kernel
theorem dX8_runSlot_69 : decode cX8_runSlot 69 = .ok (.goto (-31), 3) := by decide +kernel
theorem dX8_runSlot_72 : decode cX8_runSlot 72 = .ok (.aload_n 0, 1) := by decide +kernel
theorem dX8_runSlot_73 : decode cX8_runSlot 73 = .ok (.aload_n 2, 1) := by decide +kernel
theorem dX8_runSlot_74 : decode cX8_runSlot 74 = .ok (.invokevirtual 327, 3) := by decide +kernel
theorem dX8_runSlot_77 : decode cX8_runSlot 77 = .ok (.ifCond .eq 13, 3) := by decide +kernel
theorem dX8_runSlot_80 : decode cX8_runSlot 80 = .ok (.aload_n 2, 1) := by decide +kernel
theorem dX8_runSlot_81 : decode cX8_runSlot 81 = .ok (.dup, 1) := by decide +kernel
theorem dX8_runSlot_82 : decode cX8_runSlot 82 = .ok (.getfield 191, 3) := by decide +kernel
theorem dX8_runSlot_85 : decode cX8_runSlot 85 = .ok (.iconst 1, 1) := by decide +kernel
theorem dX8_runSlot_86 : decode cX8_runSlot 86 = .ok (.iadd, 1) := by decide +kernel
theorem dX8_runSlot_87 : decode cX8_runSlot 87 = .ok (.putfield 191, 3) := by decide +kernel
theorem dX8_runSlot_90 : decode cX8_runSlot 90 = .ok (.return_, 1) := by decide +kernel
set_option maxRecDepth 20000 in
theorem ggX8_isAnyLeft_X1_hasLeft : GoodIn wsX8_isAnyLeft wsX1_hasLeft := goodIn_r _ [6, 7, 8, 32, 33, 34, 35, 36, 37, 38, 39, 40, 41, 42, 43, 44, 45, 46, 47, 48, 49, 50] (by decide +kernel) (by decide +kernel)
set_option maxRecDepth 20000 in
theorem gX8_isAnyLeft_X1_hasLeft : GoodIn wsX8_isAnyLeft (wsV RX8 330 RX1 yX1_hasLeft wsX1_hasLeft) := goodIn_app (goodIn_of _ (by decide +kernel)) ggX8_isAnyLeft_X1_hasLeft
set_option maxRecDepth 20000 in
theorem ggX8_isAnyLeft_X8_isOneOfThreeLeft : GoodIn wsX8_isAnyLeft wsX8_isOneOfThreeLeft := goodIn_r _ [13, 14, 15, 2, 3, 4, 5, 6, 7, 8, 16, 17, 18, 19, 20, 21, 22, 23, 24, 25, 26, 27, 28, 29, 30, 31, 32, 33, 34, 35, 36, 37, 38, 39, 40, 41, 42, 43, 44, 45, 46, 47, 48, 49, 50] (by decide +kernel) (by decide +kernel)
set_option maxRecDepth 20000 in
theorem gX8_isAnyLeft_X8_isOneOfThreeLeft : GoodIn wsX8_isAnyLeft (wsV RX8 327 RX8 yX8_isOneOfThreeLeft wsX8_isOneOfThreeLeft) := goodIn_app (goodIn_of _ (by decide +kernel)) ggX8_isAnyLeft_X8_isOneOfThreeLeft
theorem dX8_isAnyLeft_0 : decode cX8_isAnyLeft 0 = .ok (.aload_n 0, 1) := by decide +kernel
theorem dX8_isAnyLeft_1 : decode cX8_isAnyLeft 1 = .ok (.getfield 16, 3) := by decide +kernel
theorem dX8_isAnyLeft_4 : decode cX8_isAnyLeft 4 = .ok (.aload_n 1, 1) := by decide +kernel
theorem dX8_isAnyLeft_5 : decode cX8_isAnyLeft 5 = .ok (.invokevirtual 330, 3) := by decide +kernel
theorem dX8_isAnyLeft_8 : decode cX8_isAnyLeft 8 = .ok (.ifCond .ne 11, 3) := by decide +kernel
theorem dX8_isAnyLeft_11 : decode cX8_isAnyLeft 11 = .ok (.aload_n 0, 1) := by decide +kernel
theorem dX8_isAnyLeft_12 : decode cX8_isAnyLeft 12 = .ok (.aload_n 1, 1) := by decide +kernel
theorem dX8_isAnyLeft_13 : decode cX8_isAnyLeft 13 = .ok (.invokevirtual 327, 3) := by decide +kernel
theorem dX8_isAnyLeft_16 : decode cX8_isAnyLeft 16 = .ok (.ifCond .eq 7, 3) := by decide +kernel
theorem dX8_isAnyLeft_19 : decode cX8_isAnyLeft 19 = .ok (.iconst 1, 1) := by decide +kernel
theorem dX8_isAnyLeft_20 : decode cX8_isAnyLeft 20 = .ok (.goto 4, 3) := by decide +kernel
theorem dX8_isAnyLeft_23 : decode cX8_isAnyLeft 23 = .ok (.iconst 0, 1) := by decide +kernel
theorem dX8_isAnyLeft_24 : decode cX8_isAnyLeft 24 = .ok (.ireturn, 1) := by decide +kernel
set_option maxRecDepth 20000 in
theorem ggX8_isOneOfThreeLeft_X1_hasLeft : GoodIn wsX8_isOneOfThreeLeft wsX1_hasLeft := goodIn_r _ [7, 8, 9, 26, 27, 28, 29, 30, 31, 32, 33, 34, 35, 36, 37, 38, 39, 40, 41, 42, 43, 44] (by decide +kernel) (by decide +kernel)
set_option maxRecDepth 20000 in
theorem gX8_isOneOfThreeLeft_X1_hasLeft : GoodIn wsX8_isOneOfThreeLeft (wsV RX8 330 RX1 yX1_hasLeft wsX1_hasLeft) := goodIn_app (goodIn_of _ (by decide +kernel)) ggX8_isOneOfThreeLeft_X1_hasLeft
theorem dX8_isOneOfThreeLeft_0 : decode cX8_isOneOfThreeLeft 0 = .ok (.iconst 0, 1) := by decide +kernel
theorem dX8_isOneOfThreeLeft_1 : decode cX8_isOneOfThreeLeft 1 = .ok (.istore_n 2, 1) := by decide +kernel
theorem dX8_isOneOfThreeLeft_2 : decode cX8_isOneOfThreeLeft 2 = .ok (.iload_n 2, 1) := by decide +kernel
theorem dX8_isOneOfThreeLeft_3 : decode cX8_isOneOfThreeLeft 3 = .ok (.iconst 3, 1) := by decide +kernel
theorem dX8_isOneOfThreeLeft_4 : decode cX8_isOneOfThreeLeft 4 = .ok (.if_icmp .ge 36, 3) := by decide +kernel
theorem dX8_isOneOfThreeLeft_7 : decode cX8_isOneOfThreeLeft 7 = .ok (.aload_n 0, 1) := by decide +kernel
theorem dX8_isOneOfThreeLeft_8 : decode cX8_isOneOfThreeLeft 8 = .ok (.getfield 11, 3) := by decide +kernel
theorem dX8_isOneOfThreeLeft_11 : decode cX8_isOneOfThreeLeft 11 = .ok (.iload_n 2, 1) := by decide +kernel
theorem dX8_isOneOfThreeLeft_12 : decode cX8_isOneOfThreeLeft 12 = .ok (.aaload, 1) := by decide +kernel
theorem dX8_isOneOfThreeLeft_13 : decode cX8_isOneOfThreeLeft 13 = .ok (.getfield 162, 3) := by decide +kernel
theorem dX8_isOneOfThreeLeft_16 : decode cX8_isOneOfThreeLeft 16 = .ok (.ifCond .eq 18, 3) := by decide +kernel
theorem dX8_isOneOfThreeLeft_19 : decode cX8_isOneOfThreeLeft 19 = .ok (.aload_n 0, 1) := by decide +kernel
theorem dX8_isOneOfThreeLeft_20 : decode cX8_isOneOfThreeLeft 20 = .ok (.getfield 11, 3) := by decide +kernel
theorem dX8_isOneOfThreeLeft_23 : decode cX8_isOneOfThreeLeft 23 = .ok (.iload_n 2, 1) := by decide +kernel
theorem dX8_isOneOfThreeLeft_24 : decode cX8_isOneOfThreeLeft 24 = .ok (.aaload, 1) := by decide +kernel
theorem dX8_isOneOfThreeLeft_25 : decode cX8_isOneOfThreeLeft 25 = .ok (.aload_n 1, 1) := by decide +kernel
theorem dX8_isOneOfThreeLeft_26 : decode cX8_isOneOfThreeLeft 26 = .ok (.invokevirtual 330, 3) := by decide +kernel
theorem dX8_isOneOfThreeLeft_29 : decode cX8_isOneOfThreeLeft 29 = .ok (.ifCond .eq 5, 3) := by decide +kernel
theorem dX8_isOneOfThreeLeft_32 : decode cX8_isOneOfThreeLeft 32 = .ok (.iconst 1, 1) := by decide +kernel
theorem dX8_isOneOfThreeLeft_33 : decode cX8_isOneOfThreeLeft 33 = .ok (.ireturn, 1) := by decide +kernel
theorem dX8_isOneOfThreeLeft_34 : decode cX8_isOneOfThreeLeft 34 = .ok (.iinc 2 1, 3) := by decide +kernel
theorem dX8_isOneOfThreeLeft_37 : decode cX8_isOneOfThreeLeft 37 = .ok (.goto (-35), 3) := by decide +kernel
theorem dX8_isOneOfThreeLeft_40 : decode cX8_isOneOfThreeLeft 40 = .ok (.iconst 0, 1) := by decide +kernel
theorem dX8_isOneOfThreeLeft_41 : decode cX8_isOneOfThreeLeft 41 = .ok (.ireturn, 1) := by decide +kernel
set_option maxRecDepth 20000 in
theorem ggX8_doInstructions_X1_doNext : GoodIn wsX8_doInstructions wsX1_doNext := goodIn_r _ [10, 11, 12, 13, 14, 15, 16, 17, 18, 9, 19, 20, 21, 22, 23, 24, 25, 26, 27, 28, 29, 30, 31, 32, 33, 34, 35, 36, 37, 38, 39, 40, 41, 42, 43, 44, 45, 46, 47, 48, 49, 50, 51, 52, 53, 54, 55, 56, 57, 58, 59, 60, 61, 62, 104, 105, 106, 107, 108, 109, 110, 111, 112, 113, 114, 115, 116, 117, 118, 119, 120, 121, 122, 123, 124, 125, 126, 127, 128, 129] (by decide +kernel) (by decide +kernel)
set_option maxRecDepth 20000 in
theorem gX8_doInstructions_X1_doNext : GoodIn wsX8_doInstructions (wsV RX8 333 RX1 yX1_doNext wsX1_doNext) := goodIn_app (goodIn_of _ (by decide +kernel)) ggX8_doInstructions_X1_doNext
set_option maxRecDepth 20000 in
theorem ggX8_doInstructions_X8_shutOff : GoodIn wsX8_doInstructions wsX8_shutOff := goodIn_r _ [67, 1, 2, 68, 69, 70, 71, 72, 73, 74, 75, 76, 77, 78, 79, 80, 81, 82, 83, 88, 89, 90, 91, 92, 93, 94, 95, 96, 97, 98, 99, 100, 101, 102, 103, 104, 105, 106, 107, 108, 109, 110, 111, 112, 113, 114, 115, 116, 117, 130, 131, 132, 133] (by decide +kernel) (by decide +kernel)
set_option maxRecDepth 20000 in
theorem gX8_doInstructions_X8_shutOff : GoodIn wsX8_doInstructions (wsV RX8 171 RX8 yX8_shutOff wsX8_shutOff) := goodIn_app (goodIn_of _ (by decide +kernel)) ggX8_doInstructions_X8_shutOff
set_option maxRecDepth 20000 in
theorem ggX8_doInstructions_X1_handTo : GoodIn wsX8_doInstructions wsX1_handTo := goodIn_r _ [87, 11, 42, 104, 105, 106, 107, 108, 109, 110, 111, 112, 113, 114, 115, 116, 117] (by decide +kernel) (by decide +kernel)
set_option maxRecDepth 20000 in
theorem gX8_doInstructions_X1_handTo : GoodIn wsX8_doInstructions (wsV RX8 337 RX1 yX1_handTo wsX1_handTo) := goodIn_app (goodIn_of _ (by decide +kernel)) ggX8_doInstructions_X1_handTo
theorem dX8_doInstructions_0 : decode cX8_doInstructions 0 = .ok (.iconst 0, 1) := by decide +kernel
theorem dX8_doInstructions_1 : decode cX8_doInstructions 1 = .ok (.istore_n 3, 1) := by decide +kernel
theorem dX8_doInstructions_2 : decode cX8_doInstructions 2 = .ok (.iload_n 3, 1) := by decide +kernel
theorem dX8_doInstructions_3 : decode cX8_doInstructions 3 = .ok (.iconst 3, 1) := by decide +kernel
theorem dX8_doInstructions_4 : decode cX8_doInstructions 4 = .ok (.if_icmp .ge 49, 3) := by decide +kernel
theorem dX8_doInstructions_7 : decode cX8_doInstructions 7 = .ok (.aload_n 0, 1) := by decide +kernel
theorem dX8_doInstructions_8 : decode cX8_doInstructions 8 = .ok (.getfield 11, 3) := by decide +kernel
theorem dX8_doInstructions_11 : decode cX8_doInstructions 11 = .ok (.iload_n 3, 1) := by decide +kernel
theorem dX8_doInstructions_12 : decode cX8_doInstructions 12 = .ok (.aaload, 1) := by decide +kernel
theorem dX8_doInstructions_13 : decode cX8_doInstructions 13 = .ok (.getfield 162, 3) := by decide +kernel
theorem dX8_doInstructions_16 : decode cX8_doInstructions 16 = .ok (.ifCond .eq 31, 3) := by decide +kernel
theorem dX8_doInstructions_19 : decode cX8_doInstructions 19 = .ok (.aload_n 0, 1) := by decide +kernel
theorem dX8_doInstructions_20 : decode cX8_doInstructions 20 = .ok (.getfield 11, 3) := by decide +kernel
theorem dX8_doInstructions_23 : decode cX8_doInstructions 23 = .ok (.iload_n 3, 1) := by decide +kernel
theorem dX8_doInstructions_24 : decode cX8_doInstructions 24 = .ok (.aaload, 1) := by decide +kernel
theorem dX8_doInstructions_25 : decode cX8_doInstructions 25 = .ok (.aload_n 1, 1) := by decide +kernel
theorem dX8_doInstructions_26 : decode cX8_doInstructions 26 = .ok (.bipush 6, 2) := by decide +kernel
theorem dX8_doInstructions_28 : decode cX8_doInstructions 28 = .ok (.iload_n 2, 1) := by decide +kernel
theorem dX8_doInstructions_29 : decode cX8_doInstructions 29 = .ok (.imul, 1) := by decide +kernel
theorem dX8_doInstructions_30 : decode cX8_doInstructions 30 = .ok (.aload_n 0, 1) := by decide +kernel
theorem dX8_doInstructions_31 : decode cX8_doInstructions 31 = .ok (.getfield 39, 3) := by decide +kernel
theorem dX8_doInstructions_34 : decode cX8_doInstructions 34 = .ok (.invokevirtual 333, 3) := by decide +kernel
theorem dX8_doInstructions_37 : decode cX8_doInstructions 37 = .ok (.ifCond .ne 10, 3) := by decide +kernel
theorem dX8_doInstructions_40 : decode cX8_doInstructions 40 = .ok (.aload_n 0, 1) := by decide +kernel
theorem dX8_doInstructions_41 : decode cX8_doInstructions 41 = .ok (.iload_n 3, 1) := by decide +kernel
theorem dX8_doInstructions_42 : decode cX8_doInstructions 42 = .ok (.bipush 109, 2) := by decide +kernel
theorem dX8_doInstructions_44 : decode cX8_doInstructions 44 = .ok (.invokevirtual 171, 3) := by decide +kernel
theorem dX8_doInstructions_47 : decode cX8_doInstructions 47 = .ok (.iinc 3 1, 3) := by decide +kernel
theorem dX8_doInstructions_50 : decode cX8_doInstructions 50 = .ok (.goto (-48), 3) := by decide +kernel
theorem dX8_doInstructions_53 : decode cX8_doInstructions 53 = .ok (.aload_n 0, 1) := by decide +kernel
theorem dX8_doInstructions_54 : decode cX8_doInstructions 54 = .ok (.getfield 16, 3) := by decide +kernel
theorem dX8_doInstructions_57 : decode cX8_doInstructions 57 = .ok (.aload_n 1, 1) := by decide +kernel
theorem dX8_doInstructions_58 : decode cX8_doInstructions 58 = .ok (.bipush 6, 2) := by decide +kernel
theorem dX8_doInstructions_60 : decode cX8_doInstructions 60 = .ok (.iload_n 2, 1) := by decide +kernel
theorem dX8_doInstructions_61 : decode cX8_doInstructions 61 = .ok (.imul, 1) := by decide +kernel
theorem dX8_doInstructions_62 : decode cX8_doInstructions 62 = .ok (.aload_n 0, 1) := by decide +kernel
theorem dX8_doInstructions_63 : decode cX8_doInstructions 63 = .ok (.getfield 39, 3) := by decide +kernel
theorem dX8_doInstructions_66 : decode cX8_doInstructions 66 = .ok (.invokevirtual 333, 3) := by decide +kernel
theorem dX8_doInstructions_69 : decode cX8_doInstructions 69 = .ok (.pop, 1) := by decide +kernel
theorem dX8_doInstructions_70 : decode cX8_doInstructions 70 = .ok (.aload_n 0, 1) := by decide +kernel
theorem dX8_doInstructions_71 : decode cX8_doInstructions 71 = .ok (.getfield 16, 3) := by decide +kernel
theorem dX8_doInstructions_74 : decode cX8_doInstructions 74 = .ok (.aload_n 0, 1) := by decide +kernel
theorem dX8_doInstructions_75 : decode cX8_doInstructions 75 = .ok (.getfield 53, 3) := by decide +kernel
theorem dX8_doInstructions_78 : decode cX8_doInstructions 78 = .ok (.invokevirtual 337, 3) := by decide +kernel
theorem dX8_doInstructions_81 : decode cX8_doInstructions 81 = .ok (.return_, 1) := by decide +kernel
set_option maxRecDepth 20000 in
theorem ggX8_vote_X8_countOn : GoodIn wsX8_vote wsX8_countOn := goodIn_r _ [9, 1, 2, 25, 26, 27, 28, 29, 30, 31, 32, 33, 34, 35, 36, 37, 38, 39, 40, 41, 42, 43, 44, 45, 46, 47, 48, 49, 50, 51, 52, 53, 54] (by decide +kernel) (by decide +kernel)
set_option maxRecDepth 20000 in
theorem gX8_vote_X8_countOn : GoodIn wsX8_vote (wsV RX8 114 RX8 yX8_countOn wsX8_countOn) := goodIn_app (goodIn_of _ (by decide +kernel)) ggX8_vote_X8_countOn
set_option maxRecDepth 20000 in
theorem ggX8_vote_X8_countAlike : GoodIn wsX8_vote wsX8_countAlike := goodIn_r _ [13, 1, 2, 14, 15, 16, 17, 18, 19, 20, 25, 26, 27, 28, 29, 30, 31, 32, 33, 34, 35, 36, 37, 38, 39, 40, 41, 42, 43, 44, 45, 46, 47, 48, 49, 50, 51, 52, 53, 54] (by decide +kernel) (by decide +kernel)
set_option maxRecDepth 20000 in
theorem gX8_vote_X8_countAlike : GoodIn wsX8_vote (wsV RX8 341 RX8 yX8_countAlike wsX8_countAlike) := goodIn_app (goodIn_of _ (by decide +kernel)) ggX8_vote_X8_countAlike
set_option maxRecDepth 20000 in
theorem ggX8_vote_X1_handTo : GoodIn wsX8_vote wsX1_handTo := goodIn_r _ [24, 19, 20, 41, 42, 43, 44, 45, 46, 47, 48, 49, 50, 51, 52, 53, 54] (by decide +kernel) (by decide +kernel)
set_option maxRecDepth 20000 in
theorem gX8_vote_X1_handTo : GoodIn wsX8_vote (wsV RX8 337 RX1 yX1_handTo wsX1_handTo) := goodIn_app (goodIn_of _ (by decide +kernel)) ggX8_vote_X1_handTo
theorem dX8_vote_0 : decode cX8_vote 0 = .ok (.aload_n 0, 1) := by decide +kernel
theorem dX8_vote_1 : decode cX8_vote 1 = .ok (.invokevirtual 114, 3) := by decide +kernel
theorem dX8_vote_4 : decode cX8_vote 4 = .ok (.istore_n 1, 1) := by decide +kernel
theorem dX8_vote_5 : decode cX8_vote 5 = .ok (.iconst 0, 1) := by decide +kernel
theorem dX8_vote_6 : decode cX8_vote 6 = .ok (.istore_n 2, 1) := by decide +kernel
theorem dX8_vote_7 : decode cX8_vote 7 = .ok (.iload_n 2, 1) := by decide +kernel
theorem dX8_vote_8 : decode cX8_vote 8 = .ok (.iconst 3, 1) := by decide +kernel
theorem dX8_vote_9 : decode cX8_vote 9 = .ok (.if_icmp .ge 68, 3) := by decide +kernel
theorem dX8_vote_12 : decode cX8_vote 12 = .ok (.aload_n 0, 1) := by decide +kernel
theorem dX8_vote_13 : decode cX8_vote 13 = .ok (.getfield 11, 3) := by decide +kernel
theorem dX8_vote_16 : decode cX8_vote 16 = .ok (.iload_n 2, 1) := by decide +kernel
theorem dX8_vote_17 : decode cX8_vote 17 = .ok (.aaload, 1) := by decide +kernel
theorem dX8_vote_18 : decode cX8_vote 18 = .ok (.getfield 162, 3) := by decide +kernel
theorem dX8_vote_21 : decode cX8_vote 21 = .ok (.ifCond .eq 50, 3) := by decide +kernel
theorem dX8_vote_24 : decode cX8_vote 24 = .ok (.iconst 2, 1) := by decide +kernel
theorem dX8_vote_25 : decode cX8_vote 25 = .ok (.aload_n 0, 1) := by decide +kernel
theorem dX8_vote_26 : decode cX8_vote 26 = .ok (.aload_n 0, 1) := by decide +kernel
theorem dX8_vote_27 : decode cX8_vote 27 = .ok (.getfield 11, 3) := by decide +kernel
theorem dX8_vote_30 : decode cX8_vote 30 = .ok (.iload_n 2, 1) := by decide +kernel
theorem dX8_vote_31 : decode cX8_vote 31 = .ok (.aaload, 1) := by decide +kernel
theorem dX8_vote_32 : decode cX8_vote 32 = .ok (.invokevirtual 341, 3) := by decide +kernel
theorem dX8_vote_35 : decode cX8_vote 35 = .ok (.imul, 1) := by decide +kernel
theorem dX8_vote_36 : decode cX8_vote 36 = .ok (.iload_n 1, 1) := by decide +kernel
theorem dX8_vote_37 : decode cX8_vote 37 = .ok (.if_icmp .le 19, 3) := by decide +kernel
theorem dX8_vote_40 : decode cX8_vote 40 = .ok (.aload_n 0, 1) := by decide +kernel
theorem dX8_vote_41 : decode cX8_vote 41 = .ok (.getfield 11, 3) := by decide +kernel
theorem dX8_vote_44 : decode cX8_vote 44 = .ok (.iload_n 2, 1) := by decide +kernel
theorem dX8_vote_45 : decode cX8_vote 45 = .ok (.aaload, 1) := by decide +kernel
theorem dX8_vote_46 : decode cX8_vote 46 = .ok (.aload_n 0, 1) := by decide +kernel
theorem dX8_vote_47 : decode cX8_vote 47 = .ok (.getfield 49, 3) := by decide +kernel
theorem dX8_vote_50 : decode cX8_vote 50 = .ok (.invokevirtual 337, 3) := by decide +kernel
theorem dX8_vote_53 : decode cX8_vote 53 = .ok (.goto 18, 3) := by decide +kernel
theorem dX8_vote_56 : decode cX8_vote 56 = .ok (.aload_n 0, 1) := by decide +kernel
theorem dX8_vote_57 : decode cX8_vote 57 = .ok (.getfield 11, 3) := by decide +kernel
theorem dX8_vote_60 : decode cX8_vote 60 = .ok (.iload_n 2, 1) := by decide +kernel
theorem dX8_vote_61 : decode cX8_vote 61 = .ok (.aaload, 1) := by decide +kernel
theorem dX8_vote_62 : decode cX8_vote 62 = .ok (.dup, 1) := by decide +kernel
theorem dX8_vote_63 : decode cX8_vote 63 = .ok (.getfield 165, 3) := by decide +kernel
theorem dX8_vote_66 : decode cX8_vote 66 = .ok (.iconst 1, 1) := by decide +kernel
theorem dX8_vote_67 : decode cX8_vote 67 = .ok (.iadd, 1) := by decide +kernel
theorem dX8_vote_68 : decode cX8_vote 68 = .ok (.putfield 165, 3) := by decide +kernel
theorem dX8_vote_71 : decode cX8_vote 71 = .ok (.iinc 2 1, 3) := by decide +kernel
theorem dX8_vote_74 : decode cX8_vote 74 = .ok (.goto (-67), 3) := by decide +kernel
theorem dX8_vote_77 : decode cX8_vote 77 = .ok (.return_, 1) := by decide +kernel
set_option maxRecDepth 20000 in
theorem ggX8_countAlike_X1_givesLike : GoodIn wsX8_countAlike wsX1_givesLike := goodIn_r _ [7, 8, 9, 26, 27, 28, 29, 30, 31, 32, 33, 34, 35, 36, 37, 38, 39] (by decide +kernel) (by decide +kernel)
set_option maxRecDepth 20000 in
theorem gX8_countAlike_X1_givesLike : GoodIn wsX8_countAlike (wsV RX8 345 RX1 yX1_givesLike wsX1_givesLike) := goodIn_app (goodIn_of _ (by decide +kernel)) ggX8_countAlike_X1_givesLike
theorem dX8_countAlike_0 : decode cX8_countAlike 0 = .ok (.iconst 0, 1) := by decide +kernel
theorem dX8_countAlike_1 : decode cX8_countAlike 1 = .ok (.istore_n 2, 1) := by decide +kernel
theorem dX8_countAlike_2 : decode cX8_countAlike 2 = .ok (.iconst 0, 1) := by decide +kernel
theorem dX8_countAlike_3 : decode cX8_countAlike 3 = .ok (.istore_n 3, 1) := by decide +kernel
theorem dX8_countAlike_4 : decode cX8_countAlike 4 = .ok (.iload_n 3, 1) := by decide +kernel
theorem dX8_countAlike_5 : decode cX8_countAlike 5 = .ok (.iconst 3, 1) := by decide +kernel
theorem dX8_countAlike_6 : decode cX8_countAlike 6 = .ok (.if_icmp .ge 37, 3) := by decide +kernel
theorem dX8_countAlike_9 : decode cX8_countAlike 9 = .ok (.aload_n 0, 1) := by decide +kernel
theorem dX8_countAlike_10 : decode cX8_countAlike 10 = .ok (.getfield 11, 3) := by decide +kernel
theorem dX8_countAlike_13 : decode cX8_countAlike 13 = .ok (.iload_n 3, 1) := by decide +kernel
theorem dX8_countAlike_14 : decode cX8_countAlike 14 = .ok (.aaload, 1) := by decide +kernel
theorem dX8_countAlike_15 : decode cX8_countAlike 15 = .ok (.getfield 162, 3) := by decide +kernel
theorem dX8_countAlike_18 : decode cX8_countAlike 18 = .ok (.ifCond .eq 19, 3) := by decide +kernel
theorem dX8_countAlike_21 : decode cX8_countAlike 21 = .ok (.aload_n 0, 1) := by decide +kernel
theorem dX8_countAlike_22 : decode cX8_countAlike 22 = .ok (.getfield 11, 3) := by decide +kernel
theorem dX8_countAlike_25 : decode cX8_countAlike 25 = .ok (.iload_n 3, 1) := by decide +kernel
theorem dX8_countAlike_26 : decode cX8_countAlike 26 = .ok (.aaload, 1) := by decide +kernel
theorem dX8_countAlike_27 : decode cX8_countAlike 27 = .ok (.aload_n 1, 1) := by decide +kernel
theorem dX8_countAlike_28 : decode cX8_countAlike 28 = .ok (.invokevirtual 345, 3) := by decide +kernel
theorem dX8_countAlike_31 : decode cX8_countAlike 31 = .ok (.ifCond .eq 6, 3) := by decide +kernel
theorem dX8_countAlike_34 : decode cX8_countAlike 34 = .ok (.iinc 2 1, 3) := by decide +kernel
theorem dX8_countAlike_37 : decode cX8_countAlike 37 = .ok (.iinc 3 1, 3) := by decide +kernel
theorem dX8_countAlike_40 : decode cX8_countAlike 40 = .ok (.goto (-36), 3) := by decide +kernel
theorem dX8_countAlike_43 : decode cX8_countAlike 43 = .ok (.iload_n 2, 1) := by decide +kernel
theorem dX8_countAlike_44 : decode cX8_countAlike 44 = .ok (.ireturn, 1) := by decide +kernel
set_option maxRecDepth 20000 in
theorem ggX8_shutOffStruckOnes_X8_shutOff : GoodIn wsX8_shutOffStruckOnes wsX8_shutOff := goodIn_r _ [8, 1, 2, 9, 10, 11, 12, 13, 14, 15, 16, 17, 18, 19, 20, 21, 22, 23, 24, 25, 26, 27, 28, 29, 30, 31, 32, 33, 34, 35, 36, 37, 38, 39, 40, 41, 42, 43, 44, 45, 46, 47, 48, 49, 50, 51, 52, 53, 54, 55, 56, 57, 58] (by decide +kernel) (by decide +kernel)
set_option maxRecDepth 20000 in
theorem gX8_shutOffStruckOnes_X8_shutOff : GoodIn wsX8_shutOffStruckOnes (wsV RX8 171 RX8 yX8_shutOff wsX8_shutOff) := goodIn_app (goodIn_of _ (by decide +kernel)) ggX8_shutOffStruckOnes_X8_shutOff
theorem dX8_shutOffStruckOnes_0 : decode cX8_shutOffStruckOnes 0 = .ok (.iconst 0, 1) := by decide +kernel
theorem dX8_shutOffStruckOnes_1 : decode cX8_shutOffStruckOnes 1 = .ok (.istore_n 1, 1) := by decide +kernel
theorem dX8_shutOffStruckOnes_2 : decode cX8_shutOffStruckOnes 2 = .ok (.iload_n 1, 1) := by decide +kernel
theorem dX8_shutOffStruckOnes_3 : decode cX8_shutOffStruckOnes 3 = .ok (.iconst 3, 1) := by decide +kernel
theorem dX8_shutOffStruckOnes_4 : decode cX8_shutOffStruckOnes 4 = .ok (.if_icmp .ge 41, 3) := by decide +kernel
theorem dX8_shutOffStruckOnes_7 : decode cX8_shutOffStruckOnes 7 = .ok (.aload_n 0, 1) := by decide +kernel
theorem dX8_shutOffStruckOnes_8 : decode cX8_shutOffStruckOnes 8 = .ok (.getfield 11, 3) := by decide +kernel
theorem dX8_shutOffStruckOnes_11 : decode cX8_shutOffStruckOnes 11 = .ok (.iload_n 1, 1) := by decide +kernel
theorem dX8_shutOffStruckOnes_12 : decode cX8_shutOffStruckOnes 12 = .ok (.aaload, 1) := by decide +kernel
theorem dX8_shutOffStruckOnes_13 : decode cX8_shutOffStruckOnes 13 = .ok (.getfield 162, 3) := by decide +kernel
theorem dX8_shutOffStruckOnes_16 : decode cX8_shutOffStruckOnes 16 = .ok (.ifCond .eq 23, 3) := by decide +kernel
theorem dX8_shutOffStruckOnes_19 : decode cX8_shutOffStruckOnes 19 = .ok (.aload_n 0, 1) := by decide +kernel
theorem dX8_shutOffStruckOnes_20 : decode cX8_shutOffStruckOnes 20 = .ok (.getfield 11, 3) := by decide +kernel
theorem dX8_shutOffStruckOnes_23 : decode cX8_shutOffStruckOnes 23 = .ok (.iload_n 1, 1) := by decide +kernel
theorem dX8_shutOffStruckOnes_24 : decode cX8_shutOffStruckOnes 24 = .ok (.aaload, 1) := by decide +kernel
theorem dX8_shutOffStruckOnes_25 : decode cX8_shutOffStruckOnes 25 = .ok (.getfield 165, 3) := by decide +kernel
theorem dX8_shutOffStruckOnes_28 : decode cX8_shutOffStruckOnes 28 = .ok (.iconst 3, 1) := by decide +kernel
theorem dX8_shutOffStruckOnes_29 : decode cX8_shutOffStruckOnes 29 = .ok (.if_icmp .lt 10, 3) := by decide +kernel
theorem dX8_shutOffStruckOnes_32 : decode cX8_shutOffStruckOnes 32 = .ok (.aload_n 0, 1) := by decide +kernel
theorem dX8_shutOffStruckOnes_33 : decode cX8_shutOffStruckOnes 33 = .ok (.iload_n 1, 1) := by decide +kernel
theorem dX8_shutOffStruckOnes_34 : decode cX8_shutOffStruckOnes 34 = .ok (.bipush 118, 2) := by decide +kernel
theorem dX8_shutOffStruckOnes_36 : decode cX8_shutOffStruckOnes 36 = .ok (.invokevirtual 171, 3) := by decide +kernel
theorem dX8_shutOffStruckOnes_39 : decode cX8_shutOffStruckOnes 39 = .ok (.iinc 1 1, 3) := by decide +kernel
theorem dX8_shutOffStruckOnes_42 : decode cX8_shutOffStruckOnes 42 = .ok (.goto (-40), 3) := by decide +kernel
theorem dX8_shutOffStruckOnes_45 : decode cX8_shutOffStruckOnes 45 = .ok (.return_, 1) := by decide +kernel
set_option maxRecDepth 20000 in
theorem ggX8_scrub_J9_floorMod_7cf53 : GoodIn wsX8_scrub wsJ9_floorMod_7cf53 := goodIn_r _ [8] (by decide +kernel) (by decide +kernel)
set_option maxRecDepth 20000 in
theorem gX8_scrub_J9_floorMod_7cf53 : GoodIn wsX8_scrub (va_wsS RX8 349 yJ9_floorMod_7cf53 wsJ9_floorMod_7cf53) := goodIn_app (goodIn_of _ (by decide +kernel)) ggX8_scrub_J9_floorMod_7cf53
set_option maxRecDepth 20000 in
theorem ggX8_scrub_X4_mend : GoodIn wsX8_scrub wsX4_mend := goodIn_r _ [13, 14, 15, 16, 17, 18, 19, 20, 21, 22, 70, 71, 72] (by decide +kernel) (by decide +kernel)
set_option maxRecDepth 20000 in
theorem gX8_scrub_X4_mend : GoodIn wsX8_scrub (wsV RX8 354 RX4 yX4_mend wsX4_mend) := goodIn_app (goodIn_of _ (by decide +kernel)) ggX8_scrub_X4_mend
set_option maxRecDepth 20000 in
theorem ggX8_scrub_X8_shutOff : GoodIn wsX8_scrub wsX8_shutOff := goodIn_r _ [27, 2, 3, 28, 29, 1, 30, 31, 32, 33, 34, 35, 36, 37, 38, 39, 6, 7, 8, 40, 41, 42, 43, 44, 45, 46, 47, 48, 49, 50, 51, 52, 53, 54, 55, 56, 57, 58, 59, 60, 61, 62, 63, 64, 65, 66, 67, 68, 69, 73, 74, 75, 76] (by decide +kernel) (by decide +kernel)
set_option maxRecDepth 20000 in
theorem gX8_scrub_X8_shutOff : GoodIn wsX8_scrub (wsV RX8 171 RX8 yX8_shutOff wsX8_shutOff) := goodIn_app (goodIn_of _ (by decide +kernel)) ggX8_scrub_X8_shutOff
theorem dX8_scrub_0 : decode cX8_scrub 0 = .ok (.aload_n 0, 1) := by decide +kernel
theorem dX8_scrub_1 : decode cX8_scrub 1 = .ok (.getfield 63, 3) := by decide +kernel
theorem dX8_scrub_4 : decode cX8_scrub 4 = .ok (.bipush 18, 2) := by decide +kernel
theorem dX8_scrub_6 : decode cX8_scrub 6 = .ok (.invokestatic 349, 3) := by decide +kernel
theorem dX8_scrub_9 : decode cX8_scrub 9 = .ok (.istore_n 1, 1) := by decide +kernel
theorem dX8_scrub_10 : decode cX8_scrub 10 = .ok (.iconst 0, 1) := by decide +kernel
theorem dX8_scrub_11 : decode cX8_scrub 11 = .ok (.istore_n 2, 1) := by decide +kernel
theorem dX8_scrub_12 : decode cX8_scrub 12 = .ok (.iload_n 2, 1) := by decide +kernel
theorem dX8_scrub_13 : decode cX8_scrub 13 = .ok (.iconst 3, 1) := by decide +kernel
theorem dX8_scrub_14 : decode cX8_scrub 14 = .ok (.if_icmp .ge 44, 3) := by decide +kernel
theorem dX8_scrub_17 : decode cX8_scrub 17 = .ok (.aload_n 0, 1) := by decide +kernel
theorem dX8_scrub_18 : decode cX8_scrub 18 = .ok (.getfield 11, 3) := by decide +kernel
theorem dX8_scrub_21 : decode cX8_scrub 21 = .ok (.iload_n 2, 1) := by decide +kernel
theorem dX8_scrub_22 : decode cX8_scrub 22 = .ok (.aaload, 1) := by decide +kernel
theorem dX8_scrub_23 : decode cX8_scrub 23 = .ok (.getfield 162, 3) := by decide +kernel
theorem dX8_scrub_26 : decode cX8_scrub 26 = .ok (.ifCond .eq 26, 3) := by decide +kernel
theorem dX8_scrub_29 : decode cX8_scrub 29 = .ok (.aload_n 0, 1) := by decide +kernel
theorem dX8_scrub_30 : decode cX8_scrub 30 = .ok (.getfield 11, 3) := by decide +kernel
theorem dX8_scrub_33 : decode cX8_scrub 33 = .ok (.iload_n 2, 1) := by decide +kernel
theorem dX8_scrub_34 : decode cX8_scrub 34 = .ok (.aaload, 1) := by decide +kernel
theorem dX8_scrub_35 : decode cX8_scrub 35 = .ok (.getfield 137, 3) := by decide +kernel
theorem dX8_scrub_38 : decode cX8_scrub 38 = .ok (.iload_n 1, 1) := by decide +kernel
theorem dX8_scrub_39 : decode cX8_scrub 39 = .ok (.invokevirtual 354, 3) := by decide +kernel
theorem dX8_scrub_42 : decode cX8_scrub 42 = .ok (.ifCond .ne 10, 3) := by decide +kernel
theorem dX8_scrub_45 : decode cX8_scrub 45 = .ok (.aload_n 0, 1) := by decide +kernel
theorem dX8_scrub_46 : decode cX8_scrub 46 = .ok (.iload_n 2, 1) := by decide +kernel
theorem dX8_scrub_47 : decode cX8_scrub 47 = .ok (.bipush 109, 2) := by decide +kernel
theorem dX8_scrub_49 : decode cX8_scrub 49 = .ok (.invokevirtual 171, 3) := by decide +kernel
theorem dX8_scrub_52 : decode cX8_scrub 52 = .ok (.iinc 2 1, 3) := by decide +kernel
theorem dX8_scrub_55 : decode cX8_scrub 55 = .ok (.goto (-43), 3) := by decide +kernel
theorem dX8_scrub_58 : decode cX8_scrub 58 = .ok (.return_, 1) := by decide +kernel
theorem dX8_tickClocks_0 : decode cX8_tickClocks 0 = .ok (.iconst 0, 1) := by decide +kernel
theorem dX8_tickClocks_1 : decode cX8_tickClocks 1 = .ok (.istore_n 1, 1) := by decide +kernel
theorem dX8_tickClocks_2 : decode cX8_tickClocks 2 = .ok (.iload_n 1, 1) := by decide +kernel
theorem dX8_tickClocks_3 : decode cX8_tickClocks 3 = .ok (.iconst 3, 1) := by decide +kernel
theorem dX8_tickClocks_4 : decode cX8_tickClocks 4 = .ok (.if_icmp .ge 32, 3) := by decide +kernel
theorem dX8_tickClocks_7 : decode cX8_tickClocks 7 = .ok (.aload_n 0, 1) := by decide +kernel
theorem dX8_tickClocks_8 : decode cX8_tickClocks 8 = .ok (.getfield 11, 3) := by decide +kernel
theorem dX8_tickClocks_11 : decode cX8_tickClocks 11 = .ok (.iload_n 1, 1) := by decide +kernel
theorem dX8_tickClocks_12 : decode cX8_tickClocks 12 = .ok (.aaload, 1) := by decide +kernel
theorem dX8_tickClocks_13 : decode cX8_tickClocks 13 = .ok (.dup, 1) := by decide +kernel
theorem dX8_tickClocks_14 : decode cX8_tickClocks 14 = .ok (.getfield 222, 3) := by decide +kernel
theorem dX8_tickClocks_17 : decode cX8_tickClocks 17 = .ok (.aload_n 0, 1) := by decide +kernel
theorem dX8_tickClocks_18 : decode cX8_tickClocks 18 = .ok (.getfield 11, 3) := by decide +kernel
theorem dX8_tickClocks_21 : decode cX8_tickClocks 21 = .ok (.iload_n 1, 1) := by decide +kernel
theorem dX8_tickClocks_22 : decode cX8_tickClocks 22 = .ok (.aaload, 1) := by decide +kernel
theorem dX8_tickClocks_23 : decode cX8_tickClocks 23 = .ok (.getfield 216, 3) := by decide +kernel
theorem dX8_tickClocks_26 : decode cX8_tickClocks 26 = .ok (.iadd, 1) := by decide +kernel
theorem dX8_tickClocks_27 : decode cX8_tickClocks 27 = .ok (.putfield 222, 3) := by decide +kernel
theorem dX8_tickClocks_30 : decode cX8_tickClocks 30 = .ok (.iinc 1 1, 3) := by decide +kernel
theorem dX8_tickClocks_33 : decode cX8_tickClocks 33 = .ok (.goto (-31), 3) := by decide +kernel
theorem dX8_tickClocks_36 : decode cX8_tickClocks 36 = .ok (.return_, 1) := by decide +kernel
set_option maxRecDepth 20000 in
theorem ggX8_holdClocksTogether_X8_middleClock : GoodIn wsX8_holdClocksTogether wsX8_middleClock := goodIn_r _ [7, 1, 2, 8, 9, 10, 11, 12, 13, 14, 15, 16, 17, 18, 19, 20, 21, 22, 23, 24, 25, 26, 27, 28, 29, 30, 31, 32, 33, 34, 35, 36, 37, 38, 39, 40, 41, 42, 43, 44, 45, 46, 47, 48, 49, 50, 51, 52, 53, 54, 55] (by decide +kernel) (by decide +kernel)
set_option maxRecDepth 20000 in
theorem gX8_holdClocksTogether_X8_middleClock : GoodIn wsX8_holdClocksTogether (wsV RX8 357 RX8 yX8_middleClock wsX8_middleClock) := goodIn_app (goodIn_of _ (by decide +kernel)) ggX8_holdClocksTogether_X8_middleClock
theorem dX8_holdClocksTogether_0 : decode cX8_holdClocksTogether 0 = .ok (.aload_n 0, 1) := by decide +kernel
theorem dX8_holdClocksTogether_1 : decode cX8_holdClocksTogether 1 = .ok (.iconst 0, 1) := by decide +kernel
theorem dX8_holdClocksTogether_2 : decode cX8_holdClocksTogether 2 = .ok (.iconst 1, 1) := by decide +kernel
theorem dX8_holdClocksTogether_3 : decode cX8_holdClocksTogether 3 = .ok (.iconst 2, 1) := by decide +kernel
theorem dX8_holdClocksTogether_4 : decode cX8_holdClocksTogether 4 = .ok (.invokevirtual 357, 3) := by decide +kernel
theorem dX8_holdClocksTogether_7 : decode cX8_holdClocksTogether 7 = .ok (.istore_n 1, 1) := by decide +kernel
theorem dX8_holdClocksTogether_8 : decode cX8_holdClocksTogether 8 = .ok (.aload_n 0, 1) := by decide +kernel
theorem dX8_holdClocksTogether_9 : decode cX8_holdClocksTogether 9 = .ok (.iconst 1, 1) := by decide +kernel
theorem dX8_holdClocksTogether_10 : decode cX8_holdClocksTogether 10 = .ok (.iconst 0, 1) := by decide +kernel
theorem dX8_holdClocksTogether_11 : decode cX8_holdClocksTogether 11 = .ok (.iconst 2, 1) := by decide +kernel
theorem dX8_holdClocksTogether_12 : decode cX8_holdClocksTogether 12 = .ok (.invokevirtual 357, 3) := by decide +kernel
theorem dX8_holdClocksTogether_15 : decode cX8_holdClocksTogether 15 = .ok (.istore_n 2, 1) := by decide +kernel
theorem dX8_holdClocksTogether_16 : decode cX8_holdClocksTogether 16 = .ok (.aload_n 0, 1) := by decide +kernel
theorem dX8_holdClocksTogether_17 : decode cX8_holdClocksTogether 17 = .ok (.iconst 2, 1) := by decide +kernel
theorem dX8_holdClocksTogether_18 : decode cX8_holdClocksTogether 18 = .ok (.iconst 0, 1) := by decide +kernel
theorem dX8_holdClocksTogether_19 : decode cX8_holdClocksTogether 19 = .ok (.iconst 1, 1) := by decide +kernel
theorem dX8_holdClocksTogether_20 : decode cX8_holdClocksTogether 20 = .ok (.invokevirtual 357, 3) := by decide +kernel
theorem dX8_holdClocksTogether_23 : decode cX8_holdClocksTogether 23 = .ok (.istore_n 3, 1) := by decide +kernel
theorem dX8_holdClocksTogether_24 : decode cX8_holdClocksTogether 24 = .ok (.aload_n 0, 1) := by decide +kernel
theorem dX8_holdClocksTogether_25 : decode cX8_holdClocksTogether 25 = .ok (.getfield 11, 3) := by decide +kernel
theorem dX8_holdClocksTogether_28 : decode cX8_holdClocksTogether 28 = .ok (.iconst 0, 1) := by decide +kernel
theorem dX8_holdClocksTogether_29 : decode cX8_holdClocksTogether 29 = .ok (.aaload, 1) := by decide +kernel
theorem dX8_holdClocksTogether_30 : decode cX8_holdClocksTogether 30 = .ok (.iload_n 1, 1) := by decide +kernel
theorem dX8_holdClocksTogether_31 : decode cX8_holdClocksTogether 31 = .ok (.putfield 222, 3) := by decide +kernel
theorem dX8_holdClocksTogether_34 : decode cX8_holdClocksTogether 34 = .ok (.aload_n 0, 1) := by decide +kernel
theorem dX8_holdClocksTogether_35 : decode cX8_holdClocksTogether 35 = .ok (.getfield 11, 3) := by decide +kernel
theorem dX8_holdClocksTogether_38 : decode cX8_holdClocksTogether 38 = .ok (.iconst 1, 1) := by decide +kernel
theorem dX8_holdClocksTogether_39 : decode cX8_holdClocksTogether 39 = .ok (.aaload, 1) := by decide +kernel
theorem dX8_holdClocksTogether_40 : decode cX8_holdClocksTogether 40 = .ok (.iload_n 2, 1) := by decide +kernel
theorem dX8_holdClocksTogether_41 : decode cX8_holdClocksTogether 41 = .ok (.putfield 222, 3) := by decide +kernel
theorem dX8_holdClocksTogether_44 : decode cX8_holdClocksTogether 44 = .ok (.aload_n 0, 1) := by decide +kernel
theorem dX8_holdClocksTogether_45 : decode cX8_holdClocksTogether 45 = .ok (.getfield 11, 3) := by decide +kernel
theorem dX8_holdClocksTogether_48 : decode cX8_holdClocksTogether 48 = .ok (.iconst 2, 1) := by decide +kernel
theorem dX8_holdClocksTogether_49 : decode cX8_holdClocksTogether 49 = .ok (.aaload, 1) := by decide +kernel
theorem dX8_holdClocksTogether_50 : decode cX8_holdClocksTogether 50 = .ok (.iload_n 3, 1) := by decide +kernel
theorem dX8_holdClocksTogether_51 : decode cX8_holdClocksTogether 51 = .ok (.putfield 222, 3) := by decide +kernel
theorem dX8_holdClocksTogether_54 : decode cX8_holdClocksTogether 54 = .ok (.return_, 1) := by decide +kernel
set_option maxRecDepth 20000 in
theorem ggX8_middleClock_X1_clockToldTo : GoodIn wsX8_middleClock wsX1_clockToldTo := goodIn_r _ [7, 8, 9, 37, 38, 39, 40, 41, 42, 43, 44, 45, 46, 47, 48, 49, 50] (by decide +kernel) (by decide +kernel)
set_option maxRecDepth 20000 in
theorem gX8_middleClock_X1_clockToldTo : GoodIn wsX8_middleClock (wsV RX8 360 RX1 yX1_clockToldTo wsX1_clockToldTo) := goodIn_app (goodIn_of _ (by decide +kernel)) ggX8_middleClock_X1_clockToldTo
set_option maxRecDepth 20000 in
theorem ggX8_middleClock_X5_middle : GoodIn wsX8_middleClock wsX5_middle := goodIn_r _ [13, 14, 15, 16, 17, 18, 19, 20] (by decide +kernel) (by decide +kernel)
set_option maxRecDepth 20000 in
theorem gX8_middleClock_X5_middle : GoodIn wsX8_middleClock (va_wsS RX8 200 yX5_middle wsX5_middle) := goodIn_app (goodIn_of _ (by decide +kernel)) ggX8_middleClock_X5_middle
theorem dX8_middleClock_0 : decode cX8_middleClock 0 = .ok (.aload_n 0, 1) := by decide +kernel
theorem dX8_middleClock_1 : decode cX8_middleClock 1 = .ok (.getfield 11, 3) := by decide +kernel
theorem dX8_middleClock_4 : decode cX8_middleClock 4 = .ok (.iload_n 1, 1) := by decide +kernel
theorem dX8_middleClock_5 : decode cX8_middleClock 5 = .ok (.aaload, 1) := by decide +kernel
theorem dX8_middleClock_6 : decode cX8_middleClock 6 = .ok (.getfield 222, 3) := by decide +kernel
theorem dX8_middleClock_9 : decode cX8_middleClock 9 = .ok (.aload_n 0, 1) := by decide +kernel
theorem dX8_middleClock_10 : decode cX8_middleClock 10 = .ok (.getfield 11, 3) := by decide +kernel
theorem dX8_middleClock_13 : decode cX8_middleClock 13 = .ok (.iload_n 2, 1) := by decide +kernel
theorem dX8_middleClock_14 : decode cX8_middleClock 14 = .ok (.aaload, 1) := by decide +kernel
theorem dX8_middleClock_15 : decode cX8_middleClock 15 = .ok (.iload_n 1, 1) := by decide +kernel
theorem dX8_middleClock_16 : decode cX8_middleClock 16 = .ok (.invokevirtual 360, 3) := by decide +kernel
theorem dX8_middleClock_19 : decode cX8_middleClock 19 = .ok (.aload_n 0, 1) := by decide +kernel
theorem dX8_middleClock_20 : decode cX8_middleClock 20 = .ok (.getfield 11, 3) := by decide +kernel
theorem dX8_middleClock_23 : decode cX8_middleClock 23 = .ok (.iload_n 3, 1) := by decide +kernel
theorem dX8_middleClock_24 : decode cX8_middleClock 24 = .ok (.aaload, 1) := by decide +kernel
theorem dX8_middleClock_25 : decode cX8_middleClock 25 = .ok (.iload_n 1, 1) := by decide +kernel
theorem dX8_middleClock_26 : decode cX8_middleClock 26 = .ok (.invokevirtual 360, 3) := by decide +kernel
theorem dX8_middleClock_29 : decode cX8_middleClock 29 = .ok (.invokestatic 200, 3) := by decide +kernel
theorem dX8_middleClock_32 : decode cX8_middleClock 32 = .ok (.ireturn, 1) := by decide +kernel
theorem dX8_resetActuators_0 : decode cX8_resetActuators 0 = .ok (.iconst 0, 1) := by decide +kernel
theorem dX8_resetActuators_1 : decode cX8_resetActuators 1 = .ok (.istore_n 1, 1) := by decide +kernel
theorem dX8_resetActuators_2 : decode cX8_resetActuators 2 = .ok (.iconst 0, 1) := by decide +kernel
theorem dX8_resetActuators_3 : decode cX8_resetActuators 3 = .ok (.istore_n 2, 1) := by decide +kernel
theorem dX8_resetActuators_4 : decode cX8_resetActuators 4 = .ok (.iload_n 2, 1) := by decide +kernel
theorem dX8_resetActuators_5 : decode cX8_resetActuators 5 = .ok (.iconst 4, 1) := by decide +kernel
theorem dX8_resetActuators_6 : decode cX8_resetActuators 6 = .ok (.if_icmp .ge 34, 3) := by decide +kernel
theorem dX8_resetActuators_9 : decode cX8_resetActuators 9 = .ok (.aload_n 0, 1) := by decide +kernel
theorem dX8_resetActuators_10 : decode cX8_resetActuators 10 = .ok (.getfield 45, 3) := by decide +kernel
theorem dX8_resetActuators_13 : decode cX8_resetActuators 13 = .ok (.iload_n 2, 1) := by decide +kernel
theorem dX8_resetActuators_14 : decode cX8_resetActuators 14 = .ok (.aaload, 1) := by decide +kernel
theorem dX8_resetActuators_15 : decode cX8_resetActuators 15 = .ok (.getfield 255, 3) := by decide +kernel
theorem dX8_resetActuators_18 : decode cX8_resetActuators 18 = .ok (.ifCond .eq 16, 3) := by decide +kernel
theorem dX8_resetActuators_21 : decode cX8_resetActuators 21 = .ok (.aload_n 0, 1) := by decide +kernel
theorem dX8_resetActuators_22 : decode cX8_resetActuators 22 = .ok (.getfield 45, 3) := by decide +kernel
theorem dX8_resetActuators_25 : decode cX8_resetActuators 25 = .ok (.iload_n 2, 1) := by decide +kernel
theorem dX8_resetActuators_26 : decode cX8_resetActuators 26 = .ok (.aaload, 1) := by decide +kernel
theorem dX8_resetActuators_27 : decode cX8_resetActuators 27 = .ok (.iconst 0, 1) := by decide +kernel
theorem dX8_resetActuators_28 : decode cX8_resetActuators 28 = .ok (.putfield 255, 3) := by decide +kernel
theorem dX8_resetActuators_31 : decode cX8_resetActuators 31 = .ok (.iinc 1 1, 3) := by decide +kernel
theorem dX8_resetActuators_34 : decode cX8_resetActuators 34 = .ok (.iinc 2 1, 3) := by decide +kernel
theorem dX8_resetActuators_37 : decode cX8_resetActuators 37 = .ok (.goto (-33), 3) := by decide +kernel
theorem dX8_resetActuators_40 : decode cX8_resetActuators 40 = .ok (.iload_n 1, 1) := by decide +kernel
theorem dX8_resetActuators_41 : decode cX8_resetActuators 41 = .ok (.ireturn, 1) := by decide +kernel
