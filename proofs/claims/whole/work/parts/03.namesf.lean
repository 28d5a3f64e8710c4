set_option maxRecDepth 20000 in
theorem gX9_order_X9_number : GoodIn wsX9_order (wsV RX9 152 RX9 yX9_number wsX9_number) := goodIn_app (goodIn_of _ (by decide +kernel)) ggX9_order_X9_number
set_option maxRecDepth 20000 in
theorem ggX9_order_X9_presses : GoodIn wsX9_order wsX9_presses := goodIn_r _ [70, 2, 71, 72, 73, 74, 75, 76, 8, 77, 78, 79, 80, 81, 82, 83, 84, 85, 86, 87, 88, 89, 49, 50, 51, 43, 44, 45, 28, 29, 30, 25, 26, 27, 90, 91, 92, 93, 94, 95, 96, 97, 52, 53, 54, 98, 99, 100, 101, 102, 103, 104, 105, 106, 107, 108, 109, 110, 111, 112, 113, 114, 115, 116, 117] (by decide +kernel) (by decide +kernel)
set_option maxRecDepth 20000 in
theorem gX9_order_X9_presses : GoodIn wsX9_order (wsV RX9 119 RX9 yX9_presses wsX9_presses) := goodIn_app (goodIn_of _ (by decide +kernel)) ggX9_order_X9_presses
set_option maxRecDepth 20000 in
theorem ggX9_order_X9_least : GoodIn wsX9_order wsX9_least := goodIn_r _ [54] (by decide +kernel) (by decide +kernel)
set_option maxRecDepth 20000 in
theorem gX9_order_X9_least : GoodIn wsX9_order (va_wsS RX9 64 yX9_least wsX9_least) := goodIn_app (goodIn_of _ (by decide +kernel)) ggX9_order_X9_least
theorem dX9_order_0 : decode cX9_order 0 = .ok (.aload_n 0, 1) := by decide +kernel
theorem dX9_order_1 : decode cX9_order 1 = .ok (.bipush 100, 2) := by decide +kernel
theorem dX9_order_3 : decode cX9_order 3 = .ok (.invokevirtual 146, 3) := by decide +kernel
theorem dX9_order_6 : decode cX9_order 6 = .ok (.ifCond .eq 38, 3) := by decide +kernel
theorem dX9_order_9 : decode cX9_order 9 = .ok (.aload_n 0, 1) := by decide +kernel
theorem dX9_order_10 : decode cX9_order 10 = .ok (.dup, 1) := by decide +kernel
theorem dX9_order_11 : decode cX9_order 11 = .ok (.getfield 129, 3) := by decide +kernel
theorem dX9_order_14 : decode cX9_order 14 = .ok (.iconst 1, 1) := by decide +kernel
theorem dX9_order_15 : decode cX9_order 15 = .ok (.iadd, 1) := by decide +kernel
theorem dX9_order_16 : decode cX9_order 16 = .ok (.putfield 129, 3) := by decide +kernel
theorem dX9_order_19 : decode cX9_order 19 = .ok (.aload_n 0, 1) := by decide +kernel
theorem dX9_order_20 : decode cX9_order 20 = .ok (.invokevirtual 149, 3) := by decide +kernel
theorem dX9_order_23 : decode cX9_order 23 = .ok (.istore_n 2, 1) := by decide +kernel
theorem dX9_order_24 : decode cX9_order 24 = .ok (.iload_n 1, 1) := by decide +kernel
theorem dX9_order_25 : decode cX9_order 25 = .ok (.ifCond .eq 14, 3) := by decide +kernel
theorem dX9_order_28 : decode cX9_order 28 = .ok (.aload_n 0, 1) := by decide +kernel
theorem dX9_order_29 : decode cX9_order 29 = .ok (.iload_n 2, 1) := by decide +kernel
theorem dX9_order_30 : decode cX9_order 30 = .ok (.invokestatic 139, 3) := by decide +kernel
theorem dX9_order_33 : decode cX9_order 33 = .ok (.invokevirtual 113, 3) := by decide +kernel
theorem dX9_order_36 : decode cX9_order 36 = .ok (.goto 4, 3) := by decide +kernel
theorem dX9_order_39 : decode cX9_order 39 = .ok (.iconst 0, 1) := by decide +kernel
theorem dX9_order_40 : decode cX9_order 40 = .ok (.istore_n 3, 1) := by decide +kernel
theorem dX9_order_41 : decode cX9_order 41 = .ok (.goto 231, 3) := by decide +kernel
theorem dX9_order_44 : decode cX9_order 44 = .ok (.aload_n 0, 1) := by decide +kernel
theorem dX9_order_45 : decode cX9_order 45 = .ok (.bipush 97, 2) := by decide +kernel
theorem dX9_order_47 : decode cX9_order 47 = .ok (.invokevirtual 146, 3) := by decide +kernel
theorem dX9_order_50 : decode cX9_order 50 = .ok (.ifCond .eq 35, 3) := by decide +kernel
theorem dX9_order_53 : decode cX9_order 53 = .ok (.aload_n 0, 1) := by decide +kernel
theorem dX9_order_54 : decode cX9_order 54 = .ok (.dup, 1) := by decide +kernel
theorem dX9_order_55 : decode cX9_order 55 = .ok (.getfield 129, 3) := by decide +kernel
theorem dX9_order_58 : decode cX9_order 58 = .ok (.iconst 1, 1) := by decide +kernel
theorem dX9_order_59 : decode cX9_order 59 = .ok (.iadd, 1) := by decide +kernel
theorem dX9_order_60 : decode cX9_order 60 = .ok (.putfield 129, 3) := by decide +kernel
theorem dX9_order_63 : decode cX9_order 63 = .ok (.iload_n 1, 1) := by decide +kernel
theorem dX9_order_64 : decode cX9_order 64 = .ok (.ifCond .eq 16, 3) := by decide +kernel
theorem dX9_order_67 : decode cX9_order 67 = .ok (.aload_n 0, 1) := by decide +kernel
theorem dX9_order_68 : decode cX9_order 68 = .ok (.aload_n 0, 1) := by decide +kernel
theorem dX9_order_69 : decode cX9_order 69 = .ok (.getfield 7, 3) := by decide +kernel
theorem dX9_order_72 : decode cX9_order 72 = .ok (.iconst 3, 1) := by decide +kernel
theorem dX9_order_73 : decode cX9_order 73 = .ok (.iaload, 1) := by decide +kernel
theorem dX9_order_74 : decode cX9_order 74 = .ok (.invokevirtual 113, 3) := by decide +kernel
theorem dX9_order_77 : decode cX9_order 77 = .ok (.goto 4, 3) := by decide +kernel
theorem dX9_order_80 : decode cX9_order 80 = .ok (.iconst 0, 1) := by decide +kernel
theorem dX9_order_81 : decode cX9_order 81 = .ok (.istore_n 2, 1) := by decide +kernel
theorem dX9_order_82 : decode cX9_order 82 = .ok (.goto 190, 3) := by decide +kernel
theorem dX9_order_85 : decode cX9_order 85 = .ok (.aload_n 0, 1) := by decide +kernel
theorem dX9_order_86 : decode cX9_order 86 = .ok (.bipush 112, 2) := by decide +kernel
theorem dX9_order_88 : decode cX9_order 88 = .ok (.invokevirtual 146, 3) := by decide +kernel
theorem dX9_order_91 : decode cX9_order 91 = .ok (.ifCond .eq 72, 3) := by decide +kernel
theorem dX9_order_94 : decode cX9_order 94 = .ok (.aload_n 0, 1) := by decide +kernel
theorem dX9_order_95 : decode cX9_order 95 = .ok (.dup, 1) := by decide +kernel
theorem dX9_order_96 : decode cX9_order 96 = .ok (.getfield 129, 3) := by decide +kernel
theorem dX9_order_99 : decode cX9_order 99 = .ok (.iconst 1, 1) := by decide +kernel
theorem dX9_order_100 : decode cX9_order 100 = .ok (.iadd, 1) := by decide +kernel
theorem dX9_order_101 : decode cX9_order 101 = .ok (.putfield 129, 3) := by decide +kernel
theorem dX9_order_104 : decode cX9_order 104 = .ok (.aload_n 0, 1) := by decide +kernel
theorem dX9_order_105 : decode cX9_order 105 = .ok (.bipush 49, 2) := by decide +kernel
theorem dX9_order_107 : decode cX9_order 107 = .ok (.bipush 57, 2) := by decide +kernel
theorem dX9_order_109 : decode cX9_order 109 = .ok (.invokevirtual 136, 3) := by decide +kernel
theorem dX9_order_112 : decode cX9_order 112 = .ok (.bipush 48, 2) := by decide +kernel
theorem dX9_order_114 : decode cX9_order 114 = .ok (.isub, 1) := by decide +kernel
theorem dX9_order_115 : decode cX9_order 115 = .ok (.istore_n 2, 1) := by decide +kernel
theorem dX9_order_116 : decode cX9_order 116 = .ok (.iconst 1, 1) := by decide +kernel
theorem dX9_order_117 : decode cX9_order 117 = .ok (.istore_n 3, 1) := by decide +kernel
theorem dX9_order_118 : decode cX9_order 118 = .ok (.aload_n 0, 1) := by decide +kernel
theorem dX9_order_119 : decode cX9_order 119 = .ok (.bipush 120, 2) := by decide +kernel
theorem dX9_order_121 : decode cX9_order 121 = .ok (.invokevirtual 146, 3) := by decide +kernel
theorem dX9_order_124 : decode cX9_order 124 = .ok (.ifCond .eq 20, 3) := by decide +kernel
theorem dX9_order_127 : decode cX9_order 127 = .ok (.aload_n 0, 1) := by decide +kernel
theorem dX9_order_128 : decode cX9_order 128 = .ok (.dup, 1) := by decide +kernel
theorem dX9_order_129 : decode cX9_order 129 = .ok (.getfield 129, 3) := by decide +kernel
theorem dX9_order_132 : decode cX9_order 132 = .ok (.iconst 1, 1) := by decide +kernel
theorem dX9_order_133 : decode cX9_order 133 = .ok (.iadd, 1) := by decide +kernel
theorem dX9_order_134 : decode cX9_order 134 = .ok (.putfield 129, 3) := by decide +kernel
theorem dX9_order_137 : decode cX9_order 137 = .ok (.aload_n 0, 1) := by decide +kernel
theorem dX9_order_138 : decode cX9_order 138 = .ok (.bipush 99, 2) := by decide +kernel
theorem dX9_order_140 : decode cX9_order 140 = .ok (.invokevirtual 152, 3) := by decide +kernel
theorem dX9_order_143 : decode cX9_order 143 = .ok (.istore_n 3, 1) := by decide +kernel
theorem dX9_order_144 : decode cX9_order 144 = .ok (.iload_n 1, 1) := by decide +kernel
theorem dX9_order_145 : decode cX9_order 145 = .ok (.ifCond .eq 12, 3) := by decide +kernel
theorem dX9_order_148 : decode cX9_order 148 = .ok (.aload_n 0, 1) := by decide +kernel
theorem dX9_order_149 : decode cX9_order 149 = .ok (.iload_n 2, 1) := by decide +kernel
theorem dX9_order_150 : decode cX9_order 150 = .ok (.iload_n 3, 1) := by decide +kernel
theorem dX9_order_151 : decode cX9_order 151 = .ok (.invokevirtual 119, 3) := by decide +kernel
theorem dX9_order_154 : decode cX9_order 154 = .ok (.goto 4, 3) := by decide +kernel
theorem dX9_order_157 : decode cX9_order 157 = .ok (.iconst 0, 1) := by decide +kernel
theorem dX9_order_158 : decode cX9_order 158 = .ok (.istore 4, 2) := by decide +kernel
theorem dX9_order_160 : decode cX9_order 160 = .ok (.goto 112, 3) := by decide +kernel
theorem dX9_order_163 : decode cX9_order 163 = .ok (.aload_n 0, 1) := by decide +kernel
theorem dX9_order_164 : decode cX9_order 164 = .ok (.bipush 43, 2) := by decide +kernel
theorem dX9_order_166 : decode cX9_order 166 = .ok (.invokevirtual 146, 3) := by decide +kernel
theorem dX9_order_169 : decode cX9_order 169 = .ok (.ifCond .eq 42, 3) := by decide +kernel
theorem dX9_order_172 : decode cX9_order 172 = .ok (.aload_n 0, 1) := by decide +kernel
theorem dX9_order_173 : decode cX9_order 173 = .ok (.dup, 1) := by decide +kernel
theorem dX9_order_174 : decode cX9_order 174 = .ok (.getfield 129, 3) := by decide +kernel
theorem dX9_order_177 : decode cX9_order 177 = .ok (.iconst 1, 1) := by decide +kernel
theorem dX9_order_178 : decode cX9_order 178 = .ok (.iadd, 1) := by decide +kernel
theorem dX9_order_179 : decode cX9_order 179 = .ok (.putfield 129, 3) := by decide +kernel
theorem dX9_order_182 : decode cX9_order 182 = .ok (.aload_n 0, 1) := by decide +kernel
theorem dX9_order_183 : decode cX9_order 183 = .ok (.sipush 999, 3) := by decide +kernel
theorem dX9_order_186 : decode cX9_order 186 = .ok (.invokevirtual 152, 3) := by decide +kernel
theorem dX9_order_189 : decode cX9_order 189 = .ok (.istore_n 2, 1) := by decide +kernel
theorem dX9_order_190 : decode cX9_order 190 = .ok (.aload_n 0, 1) := by decide +kernel
theorem dX9_order_191 : decode cX9_order 191 = .ok (.getfield 7, 3) := by decide +kernel
theorem dX9_order_194 : decode cX9_order 194 = .ok (.iconst 3, 1) := by decide +kernel
theorem dX9_order_195 : decode cX9_order 195 = .ok (.dup2, 1) := by decide +kernel
theorem dX9_order_196 : decode cX9_order 196 = .ok (.iaload, 1) := by decide +kernel
theorem dX9_order_197 : decode cX9_order 197 = .ok (.iload_n 1, 1) := by decide +kernel
theorem dX9_order_198 : decode cX9_order 198 = .ok (.ifCond .eq 7, 3) := by decide +kernel
theorem dX9_order_201 : decode cX9_order 201 = .ok (.iload_n 2, 1) := by decide +kernel
theorem dX9_order_202 : decode cX9_order 202 = .ok (.goto 4, 3) := by decide +kernel
theorem dX9_order_205 : decode cX9_order 205 = .ok (.iconst 0, 1) := by decide +kernel
theorem dX9_order_206 : decode cX9_order 206 = .ok (.iadd, 1) := by decide +kernel
theorem dX9_order_207 : decode cX9_order 207 = .ok (.iastore, 1) := by decide +kernel
theorem dX9_order_208 : decode cX9_order 208 = .ok (.goto 64, 3) := by decide +kernel
theorem dX9_order_211 : decode cX9_order 211 = .ok (.aload_n 0, 1) := by decide +kernel
theorem dX9_order_212 : decode cX9_order 212 = .ok (.bipush 105, 2) := by decide +kernel
theorem dX9_order_214 : decode cX9_order 214 = .ok (.bipush 105, 2) := by decide +kernel
theorem dX9_order_216 : decode cX9_order 216 = .ok (.invokevirtual 136, 3) := by decide +kernel
theorem dX9_order_219 : decode cX9_order 219 = .ok (.istore_n 2, 1) := by decide +kernel
theorem dX9_order_220 : decode cX9_order 220 = .ok (.aload_n 0, 1) := by decide +kernel
theorem dX9_order_221 : decode cX9_order 221 = .ok (.getfield 132, 3) := by decide +kernel
theorem dX9_order_224 : decode cX9_order 224 = .ok (.ifCond .eq 7, 3) := by decide +kernel
theorem dX9_order_227 : decode cX9_order 227 = .ok (.iconst 0, 1) := by decide +kernel
theorem dX9_order_228 : decode cX9_order 228 = .ok (.goto 10, 3) := by decide +kernel
theorem dX9_order_231 : decode cX9_order 231 = .ok (.aload_n 0, 1) := by decide +kernel
theorem dX9_order_232 : decode cX9_order 232 = .ok (.sipush 200, 3) := by decide +kernel
theorem dX9_order_235 : decode cX9_order 235 = .ok (.invokevirtual 152, 3) := by decide +kernel
theorem dX9_order_238 : decode cX9_order 238 = .ok (.istore_n 3, 1) := by decide +kernel
theorem dX9_order_239 : decode cX9_order 239 = .ok (.aload_n 0, 1) := by decide +kernel
theorem dX9_order_240 : decode cX9_order 240 = .ok (.getfield 7, 3) := by decide +kernel
theorem dX9_order_243 : decode cX9_order 243 = .ok (.iconst 4, 1) := by decide +kernel
theorem dX9_order_244 : decode cX9_order 244 = .ok (.iload_n 1, 1) := by decide +kernel
theorem dX9_order_245 : decode cX9_order 245 = .ok (.ifCond .eq 20, 3) := by decide +kernel
theorem dX9_order_248 : decode cX9_order 248 = .ok (.aload_n 0, 1) := by decide +kernel
theorem dX9_order_249 : decode cX9_order 249 = .ok (.getfield 7, 3) := by decide +kernel
theorem dX9_order_252 : decode cX9_order 252 = .ok (.iconst 4, 1) := by decide +kernel
theorem dX9_order_253 : decode cX9_order 253 = .ok (.iaload, 1) := by decide +kernel
theorem dX9_order_254 : decode cX9_order 254 = .ok (.iload_n 3, 1) := by decide +kernel
theorem dX9_order_255 : decode cX9_order 255 = .ok (.iadd, 1) := by decide +kernel
theorem dX9_order_256 : decode cX9_order 256 = .ok (.sipush 200, 3) := by decide +kernel
theorem dX9_order_259 : decode cX9_order 259 = .ok (.invokestatic 64, 3) := by decide +kernel
theorem dX9_order_262 : decode cX9_order 262 = .ok (.goto 9, 3) := by decide +kernel
theorem dX9_order_265 : decode cX9_order 265 = .ok (.aload_n 0, 1) := by decide +kernel
theorem dX9_order_266 : decode cX9_order 266 = .ok (.getfield 7, 3) := by decide +kernel
theorem dX9_order_269 : decode cX9_order 269 = .ok (.iconst 4, 1) := by decide +kernel
theorem dX9_order_270 : decode cX9_order 270 = .ok (.iaload, 1) := by decide +kernel
theorem dX9_order_271 : decode cX9_order 271 = .ok (.iastore, 1) := by decide +kernel
theorem dX9_order_272 : decode cX9_order 272 = .ok (.aload_n 0, 1) := by decide +kernel
theorem dX9_order_273 : decode cX9_order 273 = .ok (.getfield 7, 3) := by decide +kernel
theorem dX9_order_276 : decode cX9_order 276 = .ok (.iconst 3, 1) := by decide +kernel
theorem dX9_order_277 : decode cX9_order 277 = .ok (.iaload, 1) := by decide +kernel
theorem dX9_order_278 : decode cX9_order 278 = .ok (.ldc 36, 2) := by decide +kernel
theorem dX9_order_280 : decode cX9_order 280 = .ok (.if_icmp .gt 7, 3) := by decide +kernel
theorem dX9_order_283 : decode cX9_order 283 = .ok (.iconst 1, 1) := by decide +kernel
theorem dX9_order_284 : decode cX9_order 284 = .ok (.goto 4, 3) := by decide +kernel
theorem dX9_order_287 : decode cX9_order 287 = .ok (.iconst 0, 1) := by decide +kernel
theorem dX9_order_288 : decode cX9_order 288 = .ok (.ireturn, 1) := by decide +kernel
set_option maxRecDepth 20000 in
theorem ggX9_go_X9_order : GoodIn wsX9_go wsX9_order := goodIn_r _ [8, 1, 9, 2, 10, 11, 12, 13, 7, 14, 3, 15, 16, 17, 18, 19, 20, 21, 22, 23, 24, 25, 26, 27, 28, 29, 30, 31, 32, 33, 34, 35, 36, 37, 38, 39, 40, 41, 42, 43, 44, 45, 46, 47, 48, 49, 50, 51, 52, 53, 54, 55, 56, 57, 58, 59, 60, 61, 62, 63, 64, 65, 66, 67, 68, 69, 70, 71, 72, 73, 74, 75, 76, 77, 78, 79, 80, 81, 82, 83, 84, 85, 86, 87, 88, 89, 90, 91, 92, 93, 94, 95, 96, 97, 98, 99, 100, 101, 102, 103, 104, 105, 106, 107, 108, 109, 110, 111, 112, 113, 114, 115, 116, 117, 118, 119, 120, 121] (by decide +kernel) (by decide +kernel)
set_option maxRecDepth 20000 in
theorem gX9_go_X9_order : GoodIn wsX9_go (wsV RX9 155 RX9 yX9_order wsX9_order) := goodIn_app (goodIn_of _ (by decide +kernel)) ggX9_go_X9_order
set_option maxRecDepth 20000 in
theorem ggX9_go_X9_sign : GoodIn wsX9_go wsX9_sign := goodIn_r _ [66, 1, 3, 15, 2, 20, 21, 7, 22, 109, 110, 111, 112, 113, 114, 115, 116, 117, 118, 119, 120, 121] (by decide +kernel) (by decide +kernel)
set_option maxRecDepth 20000 in
theorem gX9_go_X9_sign : GoodIn wsX9_go (wsV RX9 136 RX9 yX9_sign wsX9_sign) := goodIn_app (goodIn_of _ (by decide +kernel)) ggX9_go_X9_sign
theorem dX9_go_0 : decode cX9_go 0 = .ok (.aload_n 0, 1) := by decide +kernel
theorem dX9_go_1 : decode cX9_go 1 = .ok (.iconst 0, 1) := by decide +kernel
theorem dX9_go_2 : decode cX9_go 2 = .ok (.putfield 129, 3) := by decide +kernel
theorem dX9_go_5 : decode cX9_go 5 = .ok (.aload_n 0, 1) := by decide +kernel
theorem dX9_go_6 : decode cX9_go 6 = .ok (.iconst 0, 1) := by decide +kernel
theorem dX9_go_7 : decode cX9_go 7 = .ok (.putfield 132, 3) := by decide +kernel
theorem dX9_go_10 : decode cX9_go 10 = .ok (.iconst 0, 1) := by decide +kernel
theorem dX9_go_11 : decode cX9_go 11 = .ok (.istore_n 2, 1) := by decide +kernel
theorem dX9_go_12 : decode cX9_go 12 = .ok (.iconst 1, 1) := by decide +kernel
theorem dX9_go_13 : decode cX9_go 13 = .ok (.istore_n 3, 1) := by decide +kernel
theorem dX9_go_14 : decode cX9_go 14 = .ok (.iload_n 3, 1) := by decide +kernel
theorem dX9_go_15 : decode cX9_go 15 = .ok (.ifCond .eq 71, 3) := by decide +kernel
theorem dX9_go_18 : decode cX9_go 18 = .ok (.aload_n 0, 1) := by decide +kernel
theorem dX9_go_19 : decode cX9_go 19 = .ok (.iload_n 1, 1) := by decide +kernel
theorem dX9_go_20 : decode cX9_go 20 = .ok (.invokevirtual 155, 3) := by decide +kernel
theorem dX9_go_23 : decode cX9_go 23 = .ok (.ifCond .ne 6, 3) := by decide +kernel
theorem dX9_go_26 : decode cX9_go 26 = .ok (.bipush (-3), 2) := by decide +kernel
theorem dX9_go_28 : decode cX9_go 28 = .ok (.ireturn, 1) := by decide +kernel
theorem dX9_go_29 : decode cX9_go 29 = .ok (.iinc 2 1, 3) := by decide +kernel
theorem dX9_go_32 : decode cX9_go 32 = .ok (.aload_n 0, 1) := by decide +kernel
theorem dX9_go_33 : decode cX9_go 33 = .ok (.getfield 132, 3) := by decide +kernel
theorem dX9_go_36 : decode cX9_go 36 = .ok (.ifCond .ne 18, 3) := by decide +kernel
theorem dX9_go_39 : decode cX9_go 39 = .ok (.aload_n 0, 1) := by decide +kernel
theorem dX9_go_40 : decode cX9_go 40 = .ok (.getfield 129, 3) := by decide +kernel
theorem dX9_go_43 : decode cX9_go 43 = .ok (.aload_n 0, 1) := by decide +kernel
theorem dX9_go_44 : decode cX9_go 44 = .ok (.getfield 126, 3) := by decide +kernel
theorem dX9_go_47 : decode cX9_go 47 = .ok (.if_icmp .ge 7, 3) := by decide +kernel
theorem dX9_go_50 : decode cX9_go 50 = .ok (.iconst 1, 1) := by decide +kernel
theorem dX9_go_51 : decode cX9_go 51 = .ok (.goto 4, 3) := by decide +kernel
theorem dX9_go_54 : decode cX9_go 54 = .ok (.iconst 0, 1) := by decide +kernel
theorem dX9_go_55 : decode cX9_go 55 = .ok (.istore_n 3, 1) := by decide +kernel
theorem dX9_go_56 : decode cX9_go 56 = .ok (.iload_n 3, 1) := by decide +kernel
theorem dX9_go_57 : decode cX9_go 57 = .ok (.ifCond .eq (-43), 3) := by decide +kernel
theorem dX9_go_60 : decode cX9_go 60 = .ok (.aload_n 0, 1) := by decide +kernel
theorem dX9_go_61 : decode cX9_go 61 = .ok (.bipush 59, 2) := by decide +kernel
theorem dX9_go_63 : decode cX9_go 63 = .ok (.bipush 59, 2) := by decide +kernel
theorem dX9_go_65 : decode cX9_go 65 = .ok (.invokevirtual 136, 3) := by decide +kernel
theorem dX9_go_68 : decode cX9_go 68 = .ok (.istore 4, 2) := by decide +kernel
theorem dX9_go_70 : decode cX9_go 70 = .ok (.aload_n 0, 1) := by decide +kernel
theorem dX9_go_71 : decode cX9_go 71 = .ok (.getfield 132, 3) := by decide +kernel
theorem dX9_go_74 : decode cX9_go 74 = .ok (.ifCond .ne 7, 3) := by decide +kernel
theorem dX9_go_77 : decode cX9_go 77 = .ok (.iconst 1, 1) := by decide +kernel
theorem dX9_go_78 : decode cX9_go 78 = .ok (.goto 4, 3) := by decide +kernel
theorem dX9_go_81 : decode cX9_go 81 = .ok (.iconst 0, 1) := by decide +kernel
theorem dX9_go_82 : decode cX9_go 82 = .ok (.istore_n 3, 1) := by decide +kernel
theorem dX9_go_83 : decode cX9_go 83 = .ok (.goto (-69), 3) := by decide +kernel
theorem dX9_go_86 : decode cX9_go 86 = .ok (.iload_n 2, 1) := by decide +kernel
theorem dX9_go_87 : decode cX9_go 87 = .ok (.ireturn, 1) := by decide +kernel
set_option maxRecDepth 20000 in
theorem ggX9_fault_X9_go : GoodIn wsX9_fault wsX9_go := goodIn_r _ [7, 2, 1, 8, 9, 10, 11, 6, 12, 13, 14, 15, 16, 17, 18, 19, 20, 21, 22, 23, 24, 25, 26, 27, 28, 29, 30, 31, 32, 33, 34, 35, 36, 37, 38, 39, 40, 41, 42, 43, 44, 45, 46, 47, 48, 49, 50, 51, 52, 53, 54, 55, 56, 57, 58, 59, 60, 61, 62, 63, 64, 65, 66, 67, 68, 69, 70, 71, 72, 73, 74, 75, 76, 77, 78, 79, 80, 81, 82, 83, 84, 85, 86, 87, 88, 89, 90, 91, 92, 93, 94, 95, 96, 97, 98, 99, 100, 101, 102, 103, 104, 105, 106, 107, 108, 109, 110, 111, 112, 113, 114, 115, 116, 117, 118, 119, 120, 121, 122, 123, 124, 125] (by decide +kernel) (by decide +kernel)
set_option maxRecDepth 20000 in
theorem gX9_fault_X9_go : GoodIn wsX9_fault (wsV RX9 159 RX9 yX9_go wsX9_go) := goodIn_app (goodIn_of _ (by decide +kernel)) ggX9_fault_X9_go
theorem dX9_fault_0 : decode cX9_fault 0 = .ok (.aload_n 0, 1) := by decide +kernel
theorem dX9_fault_1 : decode cX9_fault 1 = .ok (.iconst 0, 1) := by decide +kernel
theorem dX9_fault_2 : decode cX9_fault 2 = .ok (.invokevirtual 159, 3) := by decide +kernel
theorem dX9_fault_5 : decode cX9_fault 5 = .ok (.istore_n 1, 1) := by decide +kernel
theorem dX9_fault_6 : decode cX9_fault 6 = .ok (.aload_n 0, 1) := by decide +kernel
theorem dX9_fault_7 : decode cX9_fault 7 = .ok (.getfield 132, 3) := by decide +kernel
theorem dX9_fault_10 : decode cX9_fault 10 = .ok (.ifCond .eq 10, 3) := by decide +kernel
theorem dX9_fault_13 : decode cX9_fault 13 = .ok (.aload_n 0, 1) := by decide +kernel
theorem dX9_fault_14 : decode cX9_fault 14 = .ok (.getfield 129, 3) := by decide +kernel
theorem dX9_fault_17 : decode cX9_fault 17 = .ok (.goto 5, 3) := by decide +kernel
theorem dX9_fault_20 : decode cX9_fault 20 = .ok (.bipush (-5), 2) := by decide +kernel
theorem dX9_fault_22 : decode cX9_fault 22 = .ok (.ireturn, 1) := by decide +kernel
set_option maxRecDepth 20000 in
theorem ggX9_doAll_X9_go : GoodIn wsX9_doAll wsX9_go := goodIn_r _ [7, 2, 1, 8, 9, 10, 11, 6, 12, 13, 14, 15, 16, 17, 18, 19, 20, 21, 22, 23, 24, 25, 26, 27, 28, 29, 30, 31, 32, 33, 34, 35, 36, 37, 38, 39, 40, 41, 42, 43, 44, 45, 46, 47, 48, 49, 50, 51, 52, 53, 54, 55, 56, 57, 58, 59, 60, 61, 62, 63, 64, 65, 66, 67, 68, 69, 70, 71, 72, 73, 74, 75, 76, 77, 78, 79, 80, 81, 82, 83, 84, 85, 86, 87, 88, 89, 90, 91, 92, 93, 94, 95, 96, 97, 98, 99, 100, 101, 102, 103, 104, 105, 106, 107, 108, 109, 110, 111, 112, 128, 129, 130, 131, 132, 133, 134, 135, 136, 137, 138, 139, 140] (by decide +kernel) (by decide +kernel)
set_option maxRecDepth 20000 in
theorem gX9_doAll_X9_go : GoodIn wsX9_doAll (wsV RX9 159 RX9 yX9_go wsX9_go) := goodIn_app (goodIn_of _ (by decide +kernel)) ggX9_doAll_X9_go
set_option maxRecDepth 20000 in
theorem ggX9_doAll_X9_putAside : GoodIn wsX9_doAll wsX9_putAside := goodIn_r _ [116, 117, 13, 81, 80, 128, 129, 130, 131, 132, 133, 134, 135, 136, 137, 138, 139, 140] (by decide +kernel) (by decide +kernel)
set_option maxRecDepth 20000 in
theorem gX9_doAll_X9_putAside : GoodIn wsX9_doAll (wsV RX9 104 RX9 yX9_putAside wsX9_putAside) := goodIn_app (goodIn_of _ (by decide +kernel)) ggX9_doAll_X9_putAside
set_option maxRecDepth 20000 in
theorem ggX9_doAll_X9_act : GoodIn wsX9_doAll wsX9_act := goodIn_r _ [121, 122, 123, 117, 124, 125, 126, 6, 127, 13, 80, 81, 128, 129, 130, 131, 132, 133, 134, 135, 136, 137, 138, 139, 140] (by decide +kernel) (by decide +kernel)
set_option maxRecDepth 20000 in
theorem gX9_doAll_X9_act : GoodIn wsX9_doAll (wsV RX9 107 RX9 yX9_act wsX9_act) := goodIn_app (goodIn_of _ (by decide +kernel)) ggX9_doAll_X9_act
theorem dX9_doAll_0 : decode cX9_doAll 0 = .ok (.aload_n 0, 1) := by decide +kernel
theorem dX9_doAll_1 : decode cX9_doAll 1 = .ok (.iconst 0, 1) := by decide +kernel
theorem dX9_doAll_2 : decode cX9_doAll 2 = .ok (.invokevirtual 159, 3) := by decide +kernel
theorem dX9_doAll_5 : decode cX9_doAll 5 = .ok (.istore_n 1, 1) := by decide +kernel
theorem dX9_doAll_6 : decode cX9_doAll 6 = .ok (.aload_n 0, 1) := by decide +kernel
theorem dX9_doAll_7 : decode cX9_doAll 7 = .ok (.getfield 132, 3) := by decide +kernel
theorem dX9_doAll_10 : decode cX9_doAll 10 = .ok (.ifCond .eq 11, 3) := by decide +kernel
theorem dX9_doAll_13 : decode cX9_doAll 13 = .ok (.bipush (-100), 2) := by decide +kernel
theorem dX9_doAll_15 : decode cX9_doAll 15 = .ok (.aload_n 0, 1) := by decide +kernel
theorem dX9_doAll_16 : decode cX9_doAll 16 = .ok (.getfield 129, 3) := by decide +kernel
theorem dX9_doAll_19 : decode cX9_doAll 19 = .ok (.isub, 1) := by decide +kernel
theorem dX9_doAll_20 : decode cX9_doAll 20 = .ok (.ireturn, 1) := by decide +kernel
theorem dX9_doAll_21 : decode cX9_doAll 21 = .ok (.aload_n 0, 1) := by decide +kernel
theorem dX9_doAll_22 : decode cX9_doAll 22 = .ok (.invokevirtual 104, 3) := by decide +kernel
theorem dX9_doAll_25 : decode cX9_doAll 25 = .ok (.aload_n 0, 1) := by decide +kernel
theorem dX9_doAll_26 : decode cX9_doAll 26 = .ok (.aload_n 0, 1) := by decide +kernel
theorem dX9_doAll_27 : decode cX9_doAll 27 = .ok (.iconst 1, 1) := by decide +kernel
theorem dX9_doAll_28 : decode cX9_doAll 28 = .ok (.invokevirtual 159, 3) := by decide +kernel
theorem dX9_doAll_31 : decode cX9_doAll 31 = .ok (.invokevirtual 107, 3) := by decide +kernel
theorem dX9_doAll_34 : decode cX9_doAll 34 = .ok (.ireturn, 1) := by decide +kernel
theorem dX9_undo_0 : decode cX9_undo 0 = .ok (.aload_n 0, 1) := by decide +kernel
theorem dX9_undo_1 : decode cX9_undo 1 = .ok (.getfield 47, 3) := by decide +kernel
theorem dX9_undo_4 : decode cX9_undo 4 = .ok (.ifCond .ne 6, 3) := by decide +kernel
theorem dX9_undo_7 : decode cX9_undo 7 = .ok (.bipush (-5), 2) := by decide +kernel
theorem dX9_undo_9 : decode cX9_undo 9 = .ok (.ireturn, 1) := by decide +kernel
theorem dX9_undo_10 : decode cX9_undo 10 = .ok (.aload_n 0, 1) := by decide +kernel
theorem dX9_undo_11 : decode cX9_undo 11 = .ok (.dup, 1) := by decide +kernel
theorem dX9_undo_12 : decode cX9_undo 12 = .ok (.getfield 47, 3) := by decide +kernel
theorem dX9_undo_15 : decode cX9_undo 15 = .ok (.iconst 1, 1) := by decide +kernel
theorem dX9_undo_16 : decode cX9_undo 16 = .ok (.isub, 1) := by decide +kernel
theorem dX9_undo_17 : decode cX9_undo 17 = .ok (.putfield 47, 3) := by decide +kernel
theorem dX9_undo_20 : decode cX9_undo 20 = .ok (.iconst 0, 1) := by decide +kernel
theorem dX9_undo_21 : decode cX9_undo 21 = .ok (.istore_n 1, 1) := by decide +kernel
theorem dX9_undo_22 : decode cX9_undo 22 = .ok (.iload_n 1, 1) := by decide +kernel
theorem dX9_undo_23 : decode cX9_undo 23 = .ok (.sipush 163, 3) := by decide +kernel
theorem dX9_undo_26 : decode cX9_undo 26 = .ok (.if_icmp .ge 30, 3) := by decide +kernel
theorem dX9_undo_29 : decode cX9_undo 29 = .ok (.aload_n 0, 1) := by decide +kernel
theorem dX9_undo_30 : decode cX9_undo 30 = .ok (.getfield 7, 3) := by decide +kernel
theorem dX9_undo_33 : decode cX9_undo 33 = .ok (.iload_n 1, 1) := by decide +kernel
theorem dX9_undo_34 : decode cX9_undo 34 = .ok (.aload_n 0, 1) := by decide +kernel
theorem dX9_undo_35 : decode cX9_undo 35 = .ok (.getfield 16, 3) := by decide +kernel
theorem dX9_undo_38 : decode cX9_undo 38 = .ok (.sipush 163, 3) := by decide +kernel
theorem dX9_undo_41 : decode cX9_undo 41 = .ok (.aload_n 0, 1) := by decide +kernel
theorem dX9_undo_42 : decode cX9_undo 42 = .ok (.getfield 47, 3) := by decide +kernel
theorem dX9_undo_45 : decode cX9_undo 45 = .ok (.imul, 1) := by decide +kernel
theorem dX9_undo_46 : decode cX9_undo 46 = .ok (.iload_n 1, 1) := by decide +kernel
theorem dX9_undo_47 : decode cX9_undo 47 = .ok (.iadd, 1) := by decide +kernel
theorem dX9_undo_48 : decode cX9_undo 48 = .ok (.iaload, 1) := by decide +kernel
theorem dX9_undo_49 : decode cX9_undo 49 = .ok (.iastore, 1) := by decide +kernel
theorem dX9_undo_50 : decode cX9_undo 50 = .ok (.iinc 1 1, 3) := by decide +kernel
theorem dX9_undo_53 : decode cX9_undo 53 = .ok (.goto (-31), 3) := by decide +kernel
theorem dX9_undo_56 : decode cX9_undo 56 = .ok (.aload_n 0, 1) := by decide +kernel
theorem dX9_undo_57 : decode cX9_undo 57 = .ok (.getfield 47, 3) := by decide +kernel
theorem dX9_undo_60 : decode cX9_undo 60 = .ok (.ireturn, 1) := by decide +kernel
theorem dX9_keep_0 : decode cX9_keep 0 = .ok (.iconst 0, 1) := by decide +kernel
theorem dX9_keep_1 : decode cX9_keep 1 = .ok (.istore_n 1, 1) := by decide +kernel
theorem dX9_keep_2 : decode cX9_keep 2 = .ok (.iload_n 1, 1) := by decide +kernel
theorem dX9_keep_3 : decode cX9_keep 3 = .ok (.sipush 163, 3) := by decide +kernel
theorem dX9_keep_6 : decode cX9_keep 6 = .ok (.if_icmp .ge 21, 3) := by decide +kernel
theorem dX9_keep_9 : decode cX9_keep 9 = .ok (.aload_n 0, 1) := by decide +kernel
theorem dX9_keep_10 : decode cX9_keep 10 = .ok (.getfield 19, 3) := by decide +kernel
theorem dX9_keep_13 : decode cX9_keep 13 = .ok (.iload_n 1, 1) := by decide +kernel
theorem dX9_keep_14 : decode cX9_keep 14 = .ok (.aload_n 0, 1) := by decide +kernel
theorem dX9_keep_15 : decode cX9_keep 15 = .ok (.getfield 7, 3) := by decide +kernel
theorem dX9_keep_18 : decode cX9_keep 18 = .ok (.iload_n 1, 1) := by decide +kernel
theorem dX9_keep_19 : decode cX9_keep 19 = .ok (.iaload, 1) := by decide +kernel
theorem dX9_keep_20 : decode cX9_keep 20 = .ok (.iastore, 1) := by decide +kernel
theorem dX9_keep_21 : decode cX9_keep 21 = .ok (.iinc 1 1, 3) := by decide +kernel
theorem dX9_keep_24 : decode cX9_keep 24 = .ok (.goto (-22), 3) := by decide +kernel
theorem dX9_keep_27 : decode cX9_keep 27 = .ok (.aload_n 0, 1) := by decide +kernel
theorem dX9_keep_28 : decode cX9_keep 28 = .ok (.iconst 1, 1) := by decide +kernel
theorem dX9_keep_29 : decode cX9_keep 29 = .ok (.putfield 163, 3) := by decide +kernel
theorem dX9_keep_32 : decode cX9_keep 32 = .ok (.aload_n 0, 1) := by decide +kernel
theorem dX9_keep_33 : decode cX9_keep 33 = .ok (.getfield 7, 3) := by decide +kernel
theorem dX9_keep_36 : decode cX9_keep 36 = .ok (.iconst 3, 1) := by decide +kernel
theorem dX9_keep_37 : decode cX9_keep 37 = .ok (.iaload, 1) := by decide +kernel
theorem dX9_keep_38 : decode cX9_keep 38 = .ok (.ireturn, 1) := by decide +kernel
set_option maxRecDepth 20000 in
theorem ggX9_restore_X9_putAside : GoodIn wsX9_restore wsX9_putAside := goodIn_r _ [8, 9, 2, 10, 11, 22, 23, 24, 25, 26, 27, 28, 29, 30, 31, 32, 33, 34] (by decide +kernel) (by decide +kernel)
set_option maxRecDepth 20000 in
theorem gX9_restore_X9_putAside : GoodIn wsX9_restore (wsV RX9 104 RX9 yX9_putAside wsX9_putAside) := goodIn_app (goodIn_of _ (by decide +kernel)) ggX9_restore_X9_putAside
set_option maxRecDepth 20000 in
theorem ggX9_restore_X9_act : GoodIn wsX9_restore wsX9_act := goodIn_r _ [15, 16, 17, 9, 18, 19, 20, 7, 21, 2, 11, 10, 22, 23, 24, 25, 26, 27, 28, 29, 30, 31, 32, 33, 34] (by decide +kernel) (by decide +kernel)
set_option maxRecDepth 20000 in
theorem gX9_restore_X9_act : GoodIn wsX9_restore (wsV RX9 107 RX9 yX9_act wsX9_act) := goodIn_app (goodIn_of _ (by decide +kernel)) ggX9_restore_X9_act
theorem dX9_restore_0 : decode cX9_restore 0 = .ok (.aload_n 0, 1) := by decide +kernel
theorem dX9_restore_1 : decode cX9_restore 1 = .ok (.getfield 163, 3) := by decide +kernel
theorem dX9_restore_4 : decode cX9_restore 4 = .ok (.ifCond .ne 6, 3) := by decide +kernel
theorem dX9_restore_7 : decode cX9_restore 7 = .ok (.bipush (-5), 2) := by decide +kernel
theorem dX9_restore_9 : decode cX9_restore 9 = .ok (.ireturn, 1) := by decide +kernel
theorem dX9_restore_10 : decode cX9_restore 10 = .ok (.aload_n 0, 1) := by decide +kernel
theorem dX9_restore_11 : decode cX9_restore 11 = .ok (.invokevirtual 104, 3) := by decide +kernel
theorem dX9_restore_14 : decode cX9_restore 14 = .ok (.iconst 0, 1) := by decide +kernel
theorem dX9_restore_15 : decode cX9_restore 15 = .ok (.istore_n 1, 1) := by decide +kernel
theorem dX9_restore_16 : decode cX9_restore 16 = .ok (.iload_n 1, 1) := by decide +kernel
theorem dX9_restore_17 : decode cX9_restore 17 = .ok (.sipush 163, 3) := by decide +kernel
theorem dX9_restore_20 : decode cX9_restore 20 = .ok (.if_icmp .ge 21, 3) := by decide +kernel
theorem dX9_restore_23 : decode cX9_restore 23 = .ok (.aload_n 0, 1) := by decide +kernel
theorem dX9_restore_24 : decode cX9_restore 24 = .ok (.getfield 7, 3) := by decide +kernel
theorem dX9_restore_27 : decode cX9_restore 27 = .ok (.iload_n 1, 1) := by decide +kernel
theorem dX9_restore_28 : decode cX9_restore 28 = .ok (.aload_n 0, 1) := by decide +kernel
theorem dX9_restore_29 : decode cX9_restore 29 = .ok (.getfield 19, 3) := by decide +kernel
theorem dX9_restore_32 : decode cX9_restore 32 = .ok (.iload_n 1, 1) := by decide +kernel
theorem dX9_restore_33 : decode cX9_restore 33 = .ok (.iaload, 1) := by decide +kernel
theorem dX9_restore_34 : decode cX9_restore 34 = .ok (.iastore, 1) := by decide +kernel
theorem dX9_restore_35 : decode cX9_restore 35 = .ok (.iinc 1 1, 3) := by decide +kernel
theorem dX9_restore_38 : decode cX9_restore 38 = .ok (.goto (-22), 3) := by decide +kernel
theorem dX9_restore_41 : decode cX9_restore 41 = .ok (.aload_n 0, 1) := by decide +kernel
theorem dX9_restore_42 : decode cX9_restore 42 = .ok (.aload_n 0, 1) := by decide +kernel
theorem dX9_restore_43 : decode cX9_restore 43 = .ok (.getfield 7, 3) := by decide +kernel
theorem dX9_restore_46 : decode cX9_restore 46 = .ok (.iconst 3, 1) := by decide +kernel
theorem dX9_restore_47 : decode cX9_restore 47 = .ok (.iaload, 1) := by decide +kernel
theorem dX9_restore_48 : decode cX9_restore 48 = .ok (.invokevirtual 107, 3) := by decide +kernel
theorem dX9_restore_51 : decode cX9_restore 51 = .ok (.ireturn, 1) := by decide +kernel
set_option maxRecDepth 20000 in
theorem ggX9_date__X9_isDay : GoodIn wsX9_date_ wsX9_isDay := goodIn_r _ [4, 5, 6, 7, 3, 8] (by decide +kernel) (by decide +kernel)
set_option maxRecDepth 20000 in
theorem gX9_date__X9_isDay : GoodIn wsX9_date_ (va_wsS RX9 110 yX9_isDay wsX9_isDay) := goodIn_app (goodIn_of _ (by decide +kernel)) ggX9_date__X9_isDay
set_option maxRecDepth 20000 in
theorem ggX9_date__X9_digitsOf : GoodIn wsX9_date_ wsX9_digitsOf := goodIn_r _ [11, 12, 13, 3, 14, 15, 16, 17] (by decide +kernel) (by decide +kernel)
set_option maxRecDepth 20000 in
theorem gX9_date__X9_digitsOf : GoodIn wsX9_date_ (va_wsS RX9 61 yX9_digitsOf wsX9_digitsOf) := goodIn_app (goodIn_of _ (by decide +kernel)) ggX9_date__X9_digitsOf
theorem dX9_date__0 : decode cX9_date_ 0 = .ok (.iload_n 1, 1) := by decide +kernel
theorem dX9_date__1 : decode cX9_date_ 1 = .ok (.invokestatic 110, 3) := by decide +kernel
theorem dX9_date__4 : decode cX9_date_ 4 = .ok (.ifCond .ne 5, 3) := by decide +kernel
theorem dX9_date__7 : decode cX9_date_ 7 = .ok (.iconst (-1), 1) := by decide +kernel
theorem dX9_date__8 : decode cX9_date_ 8 = .ok (.ireturn, 1) := by decide +kernel
theorem dX9_date__9 : decode cX9_date_ 9 = .ok (.iload_n 1, 1) := by decide +kernel
theorem dX9_date__10 : decode cX9_date_ 10 = .ok (.invokestatic 61, 3) := by decide +kernel
theorem dX9_date__13 : decode cX9_date_ 13 = .ok (.istore_n 3, 1) := by decide +kernel
theorem dX9_date__14 : decode cX9_date_ 14 = .ok (.iload_n 2, 1) := by decide +kernel
theorem dX9_date__15 : decode cX9_date_ 15 = .ok (.tableswitch 50 0 3 #[29, 35, 43, 48], 29) := by decide +kernel
theorem dX9_date__44 : decode cX9_date_ 44 = .ok (.iload_n 3, 1) := by decide +kernel
theorem dX9_date__45 : decode cX9_date_ 45 = .ok (.sipush 10000, 3) := by decide +kernel
theorem dX9_date__48 : decode cX9_date_ 48 = .ok (.idiv, 1) := by decide +kernel
theorem dX9_date__49 : decode cX9_date_ 49 = .ok (.ireturn, 1) := by decide +kernel
theorem dX9_date__50 : decode cX9_date_ 50 = .ok (.iload_n 3, 1) := by decide +kernel
theorem dX9_date__51 : decode cX9_date_ 51 = .ok (.bipush 100, 2) := by decide +kernel
theorem dX9_date__53 : decode cX9_date_ 53 = .ok (.idiv, 1) := by decide +kernel
theorem dX9_date__54 : decode cX9_date_ 54 = .ok (.bipush 100, 2) := by decide +kernel
theorem dX9_date__56 : decode cX9_date_ 56 = .ok (.irem, 1) := by decide +kernel
theorem dX9_date__57 : decode cX9_date_ 57 = .ok (.ireturn, 1) := by decide +kernel
theorem dX9_date__58 : decode cX9_date_ 58 = .ok (.iload_n 3, 1) := by decide +kernel
theorem dX9_date__59 : decode cX9_date_ 59 = .ok (.bipush 100, 2) := by decide +kernel
theorem dX9_date__61 : decode cX9_date_ 61 = .ok (.irem, 1) := by decide +kernel
theorem dX9_date__62 : decode cX9_date_ 62 = .ok (.ireturn, 1) := by decide +kernel
theorem dX9_date__63 : decode cX9_date_ 63 = .ok (.iload_n 3, 1) := by decide +kernel
theorem dX9_date__64 : decode cX9_date_ 64 = .ok (.ireturn, 1) := by decide +kernel
theorem dX9_date__65 : decode cX9_date_ 65 = .ok (.bipush (-2), 2) := by decide +kernel
theorem dX9_date__67 : decode cX9_date_ 67 = .ok (.ireturn, 1) := by decide +kernel
set_option maxRecDepth 20000 in
theorem ggX9_day_X9_in : GoodIn wsX9_day wsX9_in := goodIn_r _ [5] (by decide +kernel) (by decide +kernel)
set_option maxRecDepth 20000 in
theorem gX9_day_X9_in : GoodIn wsX9_day (va_wsS RX9 32 yX9_in wsX9_in) := goodIn_app (goodIn_of _ (by decide +kernel)) ggX9_day_X9_in
set_option maxRecDepth 20000 in
theorem ggX9_day_X9_dayOf : GoodIn wsX9_day wsX9_dayOf := goodIn_r _ [8, 2, 3, 4, 5, 9, 10, 11, 12, 13, 14] (by decide +kernel) (by decide +kernel)
set_option maxRecDepth 20000 in
theorem gX9_day_X9_dayOf : GoodIn wsX9_day (va_wsS RX9 139 yX9_dayOf wsX9_dayOf) := goodIn_app (goodIn_of _ (by decide +kernel)) ggX9_day_X9_dayOf
theorem dX9_day_0 : decode cX9_day 0 = .ok (.iload_n 1, 1) := by decide +kernel
theorem dX9_day_1 : decode cX9_day 1 = .ok (.iconst 0, 1) := by decide +kernel
theorem dX9_day_2 : decode cX9_day 2 = .ok (.ldc 166, 2) := by decide +kernel
theorem dX9_day_4 : decode cX9_day 4 = .ok (.invokestatic 32, 3) := by decide +kernel
theorem dX9_day_7 : decode cX9_day 7 = .ok (.ifCond .eq 10, 3) := by decide +kernel
theorem dX9_day_10 : decode cX9_day 10 = .ok (.iload_n 1, 1) := by decide +kernel
theorem dX9_day_11 : decode cX9_day 11 = .ok (.invokestatic 139, 3) := by decide +kernel
theorem dX9_day_14 : decode cX9_day 14 = .ok (.goto 5, 3) := by decide +kernel
theorem dX9_day_17 : decode cX9_day 17 = .ok (.bipush (-2), 2) := by decide +kernel
theorem dX9_day_19 : decode cX9_day 19 = .ok (.ireturn, 1) := by decide +kernel
set_option maxRecDepth 20000 in
theorem ggX9_worn_X9_of : GoodIn wsX9_worn wsX9_of := goodIn_r _ [5] (by decide +kernel) (by decide +kernel)
set_option maxRecDepth 20000 in
theorem gX9_worn_X9_of : GoodIn wsX9_worn (va_wsS RX9 28 yX9_of wsX9_of) := goodIn_app (goodIn_of _ (by decide +kernel)) ggX9_worn_X9_of
theorem dX9_worn_0 : decode cX9_worn 0 = .ok (.iconst 0, 1) := by decide +kernel
theorem dX9_worn_1 : decode cX9_worn 1 = .ok (.istore_n 3, 1) := by decide +kernel
theorem dX9_worn_2 : decode cX9_worn 2 = .ok (.iconst 1, 1) := by decide +kernel
theorem dX9_worn_3 : decode cX9_worn 3 = .ok (.istore 4, 2) := by decide +kernel
theorem dX9_worn_5 : decode cX9_worn 5 = .ok (.iload 4, 2) := by decide +kernel
theorem dX9_worn_7 : decode cX9_worn 7 = .ok (.bipush 10, 2) := by decide +kernel
theorem dX9_worn_9 : decode cX9_worn 9 = .ok (.if_icmp .ge 61, 3) := by decide +kernel
theorem dX9_worn_12 : decode cX9_worn 12 = .ok (.aload_n 0, 1) := by decide +kernel
theorem dX9_worn_13 : decode cX9_worn 13 = .ok (.getfield 7, 3) := by decide +kernel
theorem dX9_worn_16 : decode cX9_worn 16 = .ok (.iload_n 1, 1) := by decide +kernel
theorem dX9_worn_17 : decode cX9_worn 17 = .ok (.iconst 3, 1) := by decide +kernel
theorem dX9_worn_18 : decode cX9_worn 18 = .ok (.iload 4, 2) := by decide +kernel
theorem dX9_worn_20 : decode cX9_worn 20 = .ok (.iadd, 1) := by decide +kernel
theorem dX9_worn_21 : decode cX9_worn 21 = .ok (.invokestatic 28, 3) := by decide +kernel
theorem dX9_worn_24 : decode cX9_worn 24 = .ok (.iaload, 1) := by decide +kernel
theorem dX9_worn_25 : decode cX9_worn 25 = .ok (.aload_n 0, 1) := by decide +kernel
theorem dX9_worn_26 : decode cX9_worn 26 = .ok (.getfield 7, 3) := by decide +kernel
theorem dX9_worn_29 : decode cX9_worn 29 = .ok (.iload_n 1, 1) := by decide +kernel
theorem dX9_worn_30 : decode cX9_worn 30 = .ok (.iconst 3, 1) := by decide +kernel
theorem dX9_worn_31 : decode cX9_worn 31 = .ok (.iload_n 3, 1) := by decide +kernel
theorem dX9_worn_32 : decode cX9_worn 32 = .ok (.iadd, 1) := by decide +kernel
theorem dX9_worn_33 : decode cX9_worn 33 = .ok (.invokestatic 28, 3) := by decide +kernel
theorem dX9_worn_36 : decode cX9_worn 36 = .ok (.iaload, 1) := by decide +kernel
theorem dX9_worn_37 : decode cX9_worn 37 = .ok (.isub, 1) := by decide +kernel
theorem dX9_worn_38 : decode cX9_worn 38 = .ok (.istore 5, 2) := by decide +kernel
theorem dX9_worn_40 : decode cX9_worn 40 = .ok (.iload_n 2, 1) := by decide +kernel
theorem dX9_worn_41 : decode cX9_worn 41 = .ok (.ifCond .eq 11, 3) := by decide +kernel
theorem dX9_worn_44 : decode cX9_worn 44 = .ok (.iload 5, 2) := by decide +kernel
theorem dX9_worn_46 : decode cX9_worn 46 = .ok (.ifCond .le 16, 3) := by decide +kernel
theorem dX9_worn_49 : decode cX9_worn 49 = .ok (.goto 8, 3) := by decide +kernel
theorem dX9_worn_52 : decode cX9_worn 52 = .ok (.iload 5, 2) := by decide +kernel
theorem dX9_worn_54 : decode cX9_worn 54 = .ok (.ifCond .ge 8, 3) := by decide +kernel
theorem dX9_worn_57 : decode cX9_worn 57 = .ok (.iload 4, 2) := by decide +kernel
theorem dX9_worn_59 : decode cX9_worn 59 = .ok (.goto 4, 3) := by decide +kernel
theorem dX9_worn_62 : decode cX9_worn 62 = .ok (.iload_n 3, 1) := by decide +kernel
theorem dX9_worn_63 : decode cX9_worn 63 = .ok (.istore_n 3, 1) := by decide +kernel
theorem dX9_worn_64 : decode cX9_worn 64 = .ok (.iinc 4 1, 3) := by decide +kernel
theorem dX9_worn_67 : decode cX9_worn 67 = .ok (.goto (-62), 3) := by decide +kernel
theorem dX9_worn_70 : decode cX9_worn 70 = .ok (.iload_n 3, 1) := by decide +kernel
theorem dX9_worn_71 : decode cX9_worn 71 = .ok (.ireturn, 1) := by decide +kernel
set_option maxRecDepth 20000 in
theorem ggX9_band_X9_isPlace : GoodIn wsX9_band wsX9_isPlace := goodIn_r _ [5, 6, 7, 4, 8] (by decide +kernel) (by decide +kernel)
set_option maxRecDepth 20000 in
theorem gX9_band_X9_isPlace : GoodIn wsX9_band (va_wsS RX9 116 yX9_isPlace wsX9_isPlace) := goodIn_app (goodIn_of _ (by decide +kernel)) ggX9_band_X9_isPlace
set_option maxRecDepth 20000 in
theorem ggX9_band_X9_of : GoodIn wsX9_band wsX9_of := goodIn_r _ [11] (by decide +kernel) (by decide +kernel)
set_option maxRecDepth 20000 in
theorem gX9_band_X9_of : GoodIn wsX9_band (va_wsS RX9 28 yX9_of wsX9_of) := goodIn_app (goodIn_of _ (by decide +kernel)) ggX9_band_X9_of
set_option maxRecDepth 20000 in
theorem ggX9_band_X9_worn : GoodIn wsX9_band wsX9_worn := goodIn_r _ [15, 1, 9, 10, 4, 11, 20, 21, 22, 23, 24, 25, 26, 27, 28, 29, 30, 31, 32] (by decide +kernel) (by decide +kernel)
set_option maxRecDepth 20000 in
theorem gX9_band_X9_worn : GoodIn wsX9_band (wsV RX9 167 RX9 yX9_worn wsX9_worn) := goodIn_app (goodIn_of _ (by decide +kernel)) ggX9_band_X9_worn
set_option maxRecDepth 20000 in
theorem ggX9_band_X9_darkness : GoodIn wsX9_band wsX9_darkness := goodIn_r _ [19, 1, 9, 10, 4, 11, 20, 21, 22, 23, 24, 25, 26, 27, 28, 29, 30, 31, 32] (by decide +kernel) (by decide +kernel)
set_option maxRecDepth 20000 in
theorem gX9_band_X9_darkness : GoodIn wsX9_band (wsV RX9 80 RX9 yX9_darkness wsX9_darkness) := goodIn_app (goodIn_of _ (by decide +kernel)) ggX9_band_X9_darkness
theorem dX9_band_0 : decode cX9_band 0 = .ok (.iload_n 1, 1) := by decide +kernel
theorem dX9_band_1 : decode cX9_band 1 = .ok (.invokestatic 116, 3) := by decide +kernel
theorem dX9_band_4 : decode cX9_band 4 = .ok (.ifCond .ne 5, 3) := by decide +kernel
theorem dX9_band_7 : decode cX9_band 7 = .ok (.iconst (-1), 1) := by decide +kernel
theorem dX9_band_8 : decode cX9_band 8 = .ok (.ireturn, 1) := by decide +kernel
theorem dX9_band_9 : decode cX9_band 9 = .ok (.iload_n 2, 1) := by decide +kernel
theorem dX9_band_10 : decode cX9_band 10 = .ok (.tableswitch 106 0 6 #[42, 42, 42, 53, 71, 89, 96], 42) := by decide +kernel
theorem dX9_band_52 : decode cX9_band 52 = .ok (.aload_n 0, 1) := by decide +kernel
theorem dX9_band_53 : decode cX9_band 53 = .ok (.getfield 7, 3) := by decide +kernel
theorem dX9_band_56 : decode cX9_band 56 = .ok (.iload_n 1, 1) := by decide +kernel
theorem dX9_band_57 : decode cX9_band 57 = .ok (.iload_n 2, 1) := by decide +kernel
theorem dX9_band_58 : decode cX9_band 58 = .ok (.invokestatic 28, 3) := by decide +kernel
theorem dX9_band_61 : decode cX9_band 61 = .ok (.iaload, 1) := by decide +kernel
theorem dX9_band_62 : decode cX9_band 62 = .ok (.ireturn, 1) := by decide +kernel
theorem dX9_band_63 : decode cX9_band 63 = .ok (.aload_n 0, 1) := by decide +kernel
theorem dX9_band_64 : decode cX9_band 64 = .ok (.getfield 7, 3) := by decide +kernel
theorem dX9_band_67 : decode cX9_band 67 = .ok (.iload_n 1, 1) := by decide +kernel
theorem dX9_band_68 : decode cX9_band 68 = .ok (.iconst 3, 1) := by decide +kernel
theorem dX9_band_69 : decode cX9_band 69 = .ok (.aload_n 0, 1) := by decide +kernel
theorem dX9_band_70 : decode cX9_band 70 = .ok (.iload_n 1, 1) := by decide +kernel
theorem dX9_band_71 : decode cX9_band 71 = .ok (.iconst 1, 1) := by decide +kernel
theorem dX9_band_72 : decode cX9_band 72 = .ok (.invokevirtual 167, 3) := by decide +kernel
theorem dX9_band_75 : decode cX9_band 75 = .ok (.iadd, 1) := by decide +kernel
theorem dX9_band_76 : decode cX9_band 76 = .ok (.invokestatic 28, 3) := by decide +kernel
theorem dX9_band_79 : decode cX9_band 79 = .ok (.iaload, 1) := by decide +kernel
theorem dX9_band_80 : decode cX9_band 80 = .ok (.ireturn, 1) := by decide +kernel
theorem dX9_band_81 : decode cX9_band 81 = .ok (.aload_n 0, 1) := by decide +kernel
theorem dX9_band_82 : decode cX9_band 82 = .ok (.getfield 7, 3) := by decide +kernel
theorem dX9_band_85 : decode cX9_band 85 = .ok (.iload_n 1, 1) := by decide +kernel
theorem dX9_band_86 : decode cX9_band 86 = .ok (.iconst 3, 1) := by decide +kernel
theorem dX9_band_87 : decode cX9_band 87 = .ok (.aload_n 0, 1) := by decide +kernel
theorem dX9_band_88 : decode cX9_band 88 = .ok (.iload_n 1, 1) := by decide +kernel
theorem dX9_band_89 : decode cX9_band 89 = .ok (.iconst 0, 1) := by decide +kernel
theorem dX9_band_90 : decode cX9_band 90 = .ok (.invokevirtual 167, 3) := by decide +kernel
theorem dX9_band_93 : decode cX9_band 93 = .ok (.iadd, 1) := by decide +kernel
theorem dX9_band_94 : decode cX9_band 94 = .ok (.invokestatic 28, 3) := by decide +kernel
theorem dX9_band_97 : decode cX9_band 97 = .ok (.iaload, 1) := by decide +kernel
theorem dX9_band_98 : decode cX9_band 98 = .ok (.ireturn, 1) := by decide +kernel
theorem dX9_band_99 : decode cX9_band 99 = .ok (.aload_n 0, 1) := by decide +kernel
theorem dX9_band_100 : decode cX9_band 100 = .ok (.iload_n 1, 1) := by decide +kernel
theorem dX9_band_101 : decode cX9_band 101 = .ok (.iconst 1, 1) := by decide +kernel
theorem dX9_band_102 : decode cX9_band 102 = .ok (.invokevirtual 167, 3) := by decide +kernel
theorem dX9_band_105 : decode cX9_band 105 = .ok (.ireturn, 1) := by decide +kernel
theorem dX9_band_106 : decode cX9_band 106 = .ok (.aload_n 0, 1) := by decide +kernel
theorem dX9_band_107 : decode cX9_band 107 = .ok (.iload_n 1, 1) := by decide +kernel
theorem dX9_band_108 : decode cX9_band 108 = .ok (.iconst 5, 1) := by decide +kernel
theorem dX9_band_109 : decode cX9_band 109 = .ok (.invokevirtual 80, 3) := by decide +kernel
theorem dX9_band_112 : decode cX9_band 112 = .ok (.bipush 100, 2) := by decide +kernel
theorem dX9_band_114 : decode cX9_band 114 = .ok (.iadd, 1) := by decide +kernel
theorem dX9_band_115 : decode cX9_band 115 = .ok (.ireturn, 1) := by decide +kernel
theorem dX9_band_116 : decode cX9_band 116 = .ok (.bipush (-2), 2) := by decide +kernel
theorem dX9_band_118 : decode cX9_band 118 = .ok (.ireturn, 1) := by decide +kernel
set_option maxRecDepth 20000 in
theorem ggX9_wear_X9_isPlace : GoodIn wsX9_wear wsX9_isPlace := goodIn_r _ [5, 6, 7, 4, 8] (by decide +kernel) (by decide +kernel)
set_option maxRecDepth 20000 in
theorem gX9_wear_X9_isPlace : GoodIn wsX9_wear (va_wsS RX9 116 yX9_isPlace wsX9_isPlace) := goodIn_app (goodIn_of _ (by decide +kernel)) ggX9_wear_X9_isPlace
set_option maxRecDepth 20000 in
theorem ggX9_wear_X9_in : GoodIn wsX9_wear wsX9_in := goodIn_r _ [8] (by decide +kernel) (by decide +kernel)
set_option maxRecDepth 20000 in
theorem gX9_wear_X9_in : GoodIn wsX9_wear (va_wsS RX9 32 yX9_in wsX9_in) := goodIn_app (goodIn_of _ (by decide +kernel)) ggX9_wear_X9_in
set_option maxRecDepth 20000 in
theorem ggX9_wear_X9_of : GoodIn wsX9_wear wsX9_of := goodIn_r _ [11] (by decide +kernel) (by decide +kernel)
set_option maxRecDepth 20000 in
theorem gX9_wear_X9_of : GoodIn wsX9_wear (va_wsS RX9 28 yX9_of wsX9_of) := goodIn_app (goodIn_of _ (by decide +kernel)) ggX9_wear_X9_of
theorem dX9_wear_0 : decode cX9_wear 0 = .ok (.iload_n 1, 1) := by decide +kernel
theorem dX9_wear_1 : decode cX9_wear 1 = .ok (.invokestatic 116, 3) := by decide +kernel
theorem dX9_wear_4 : decode cX9_wear 4 = .ok (.ifCond .ne 5, 3) := by decide +kernel
theorem dX9_wear_7 : decode cX9_wear 7 = .ok (.iconst (-1), 1) := by decide +kernel
theorem dX9_wear_8 : decode cX9_wear 8 = .ok (.ireturn, 1) := by decide +kernel
theorem dX9_wear_9 : decode cX9_wear 9 = .ok (.iload_n 2, 1) := by decide +kernel
theorem dX9_wear_10 : decode cX9_wear 10 = .ok (.iconst 0, 1) := by decide +kernel
theorem dX9_wear_11 : decode cX9_wear 11 = .ok (.bipush 9, 2) := by decide +kernel
theorem dX9_wear_13 : decode cX9_wear 13 = .ok (.invokestatic 32, 3) := by decide +kernel
theorem dX9_wear_16 : decode cX9_wear 16 = .ok (.ifCond .eq 18, 3) := by decide +kernel
theorem dX9_wear_19 : decode cX9_wear 19 = .ok (.aload_n 0, 1) := by decide +kernel
theorem dX9_wear_20 : decode cX9_wear 20 = .ok (.getfield 7, 3) := by decide +kernel
theorem dX9_wear_23 : decode cX9_wear 23 = .ok (.iload_n 1, 1) := by decide +kernel
theorem dX9_wear_24 : decode cX9_wear 24 = .ok (.iconst 3, 1) := by decide +kernel
theorem dX9_wear_25 : decode cX9_wear 25 = .ok (.iload_n 2, 1) := by decide +kernel
theorem dX9_wear_26 : decode cX9_wear 26 = .ok (.iadd, 1) := by decide +kernel
theorem dX9_wear_27 : decode cX9_wear 27 = .ok (.invokestatic 28, 3) := by decide +kernel
theorem dX9_wear_30 : decode cX9_wear 30 = .ok (.iaload, 1) := by decide +kernel
theorem dX9_wear_31 : decode cX9_wear 31 = .ok (.goto 5, 3) := by decide +kernel
theorem dX9_wear_34 : decode cX9_wear 34 = .ok (.bipush (-2), 2) := by decide +kernel
theorem dX9_wear_36 : decode cX9_wear 36 = .ok (.ireturn, 1) := by decide +kernel
set_option maxRecDepth 20000 in
theorem ggX9_agrees_X9_digitAt : GoodIn wsX9_agrees wsX9_digitAt := goodIn_r _ [4] (by decide +kernel) (by decide +kernel)
set_option maxRecDepth 20000 in
theorem gX9_agrees_X9_digitAt : GoodIn wsX9_agrees (va_wsS RX9 67 yX9_digitAt wsX9_digitAt) := goodIn_app (goodIn_of _ (by decide +kernel)) ggX9_agrees_X9_digitAt
theorem dX9_agrees_0 : decode cX9_agrees 0 = .ok (.iconst 1, 1) := by decide +kernel
theorem dX9_agrees_1 : decode cX9_agrees 1 = .ok (.istore_n 3, 1) := by decide +kernel
theorem dX9_agrees_2 : decode cX9_agrees 2 = .ok (.iconst 0, 1) := by decide +kernel
theorem dX9_agrees_3 : decode cX9_agrees 3 = .ok (.istore 4, 2) := by decide +kernel
theorem dX9_agrees_5 : decode cX9_agrees 5 = .ok (.iload 4, 2) := by decide +kernel
theorem dX9_agrees_7 : decode cX9_agrees 7 = .ok (.bipush 6, 2) := by decide +kernel
theorem dX9_agrees_9 : decode cX9_agrees 9 = .ok (.if_icmp .ge 44, 3) := by decide +kernel
theorem dX9_agrees_12 : decode cX9_agrees 12 = .ok (.iload_n 3, 1) := by decide +kernel
theorem dX9_agrees_13 : decode cX9_agrees 13 = .ok (.ifCond .eq 32, 3) := by decide +kernel
theorem dX9_agrees_16 : decode cX9_agrees 16 = .ok (.iload_n 2, 1) := by decide +kernel
theorem dX9_agrees_17 : decode cX9_agrees 17 = .ok (.iload 4, 2) := by decide +kernel
theorem dX9_agrees_19 : decode cX9_agrees 19 = .ok (.ishr, 1) := by decide +kernel
theorem dX9_agrees_20 : decode cX9_agrees 20 = .ok (.iconst 1, 1) := by decide +kernel
theorem dX9_agrees_21 : decode cX9_agrees 21 = .ok (.iand, 1) := by decide +kernel
theorem dX9_agrees_22 : decode cX9_agrees 22 = .ok (.iconst 1, 1) := by decide +kernel
theorem dX9_agrees_23 : decode cX9_agrees 23 = .ok (.if_icmp .eq 18, 3) := by decide +kernel
theorem dX9_agrees_26 : decode cX9_agrees 26 = .ok (.iload_n 0, 1) := by decide +kernel
theorem dX9_agrees_27 : decode cX9_agrees 27 = .ok (.iload 4, 2) := by decide +kernel
theorem dX9_agrees_29 : decode cX9_agrees 29 = .ok (.invokestatic 67, 3) := by decide +kernel
theorem dX9_agrees_32 : decode cX9_agrees 32 = .ok (.iload_n 1, 1) := by decide +kernel
theorem dX9_agrees_33 : decode cX9_agrees 33 = .ok (.iload 4, 2) := by decide +kernel
theorem dX9_agrees_35 : decode cX9_agrees 35 = .ok (.invokestatic 67, 3) := by decide +kernel
theorem dX9_agrees_38 : decode cX9_agrees 38 = .ok (.if_icmp .ne 7, 3) := by decide +kernel
theorem dX9_agrees_41 : decode cX9_agrees 41 = .ok (.iconst 1, 1) := by decide +kernel
theorem dX9_agrees_42 : decode cX9_agrees 42 = .ok (.goto 4, 3) := by decide +kernel
theorem dX9_agrees_45 : decode cX9_agrees 45 = .ok (.iconst 0, 1) := by decide +kernel
theorem dX9_agrees_46 : decode cX9_agrees 46 = .ok (.istore_n 3, 1) := by decide +kernel
theorem dX9_agrees_47 : decode cX9_agrees 47 = .ok (.iinc 4 1, 3) := by decide +kernel
theorem dX9_agrees_50 : decode cX9_agrees 50 = .ok (.goto (-45), 3) := by decide +kernel
theorem dX9_agrees_53 : decode cX9_agrees 53 = .ok (.iload_n 3, 1) := by decide +kernel
theorem dX9_agrees_54 : decode cX9_agrees 54 = .ok (.ireturn, 1) := by decide +kernel
set_option maxRecDepth 20000 in
theorem ggX9_agreeing_X9_monthDays : GoodIn wsX9_agreeing wsX9_monthDays := goodIn_r _ [4] (by decide +kernel) (by decide +kernel)
set_option maxRecDepth 20000 in
theorem gX9_agreeing_X9_monthDays : GoodIn wsX9_agreeing (va_wsS RX9 54 yX9_monthDays wsX9_monthDays) := goodIn_app (goodIn_of _ (by decide +kernel)) ggX9_agreeing_X9_monthDays
set_option maxRecDepth 20000 in
theorem ggX9_agreeing_X9_agrees : GoodIn wsX9_agreeing wsX9_agrees := goodIn_r _ [7, 8, 9, 3, 10] (by decide +kernel) (by decide +kernel)
set_option maxRecDepth 20000 in
theorem gX9_agreeing_X9_agrees : GoodIn wsX9_agreeing (va_wsS RX9 170 yX9_agrees wsX9_agrees) := goodIn_app (goodIn_of _ (by decide +kernel)) ggX9_agreeing_X9_agrees
theorem dX9_agreeing_0 : decode cX9_agreeing 0 = .ok (.iconst 0, 1) := by decide +kernel
theorem dX9_agreeing_1 : decode cX9_agreeing 1 = .ok (.istore_n 3, 1) := by decide +kernel
theorem dX9_agreeing_2 : decode cX9_agreeing 2 = .ok (.bipush (-5), 2) := by decide +kernel
theorem dX9_agreeing_4 : decode cX9_agreeing 4 = .ok (.istore 4, 2) := by decide +kernel
theorem dX9_agreeing_6 : decode cX9_agreeing 6 = .ok (.iconst 0, 1) := by decide +kernel
theorem dX9_agreeing_7 : decode cX9_agreeing 7 = .ok (.istore 5, 2) := by decide +kernel
theorem dX9_agreeing_9 : decode cX9_agreeing 9 = .ok (.iconst 0, 1) := by decide +kernel
theorem dX9_agreeing_10 : decode cX9_agreeing 10 = .ok (.istore 6, 2) := by decide +kernel
theorem dX9_agreeing_12 : decode cX9_agreeing 12 = .ok (.iload 6, 2) := by decide +kernel
theorem dX9_agreeing_14 : decode cX9_agreeing 14 = .ok (.sipush 1200, 3) := by decide +kernel
theorem dX9_agreeing_17 : decode cX9_agreeing 17 = .ok (.if_icmp .ge 91, 3) := by decide +kernel
theorem dX9_agreeing_20 : decode cX9_agreeing 20 = .ok (.iload 6, 2) := by decide +kernel
theorem dX9_agreeing_22 : decode cX9_agreeing 22 = .ok (.bipush 12, 2) := by decide +kernel
theorem dX9_agreeing_24 : decode cX9_agreeing 24 = .ok (.irem, 1) := by decide +kernel
theorem dX9_agreeing_25 : decode cX9_agreeing 25 = .ok (.iconst 1, 1) := by decide +kernel
theorem dX9_agreeing_26 : decode cX9_agreeing 26 = .ok (.iadd, 1) := by decide +kernel
theorem dX9_agreeing_27 : decode cX9_agreeing 27 = .ok (.istore 7, 2) := by decide +kernel
theorem dX9_agreeing_29 : decode cX9_agreeing 29 = .ok (.iload 7, 2) := by decide +kernel
theorem dX9_agreeing_31 : decode cX9_agreeing 31 = .ok (.iload 6, 2) := by decide +kernel
theorem dX9_agreeing_33 : decode cX9_agreeing 33 = .ok (.bipush 12, 2) := by decide +kernel
theorem dX9_agreeing_35 : decode cX9_agreeing 35 = .ok (.idiv, 1) := by decide +kernel
theorem dX9_agreeing_36 : decode cX9_agreeing 36 = .ok (.invokestatic 54, 3) := by decide +kernel
theorem dX9_agreeing_39 : decode cX9_agreeing 39 = .ok (.istore 8, 2) := by decide +kernel
theorem dX9_agreeing_41 : decode cX9_agreeing 41 = .ok (.iconst 1, 1) := by decide +kernel
theorem dX9_agreeing_42 : decode cX9_agreeing 42 = .ok (.istore 9, 2) := by decide +kernel
theorem dX9_agreeing_44 : decode cX9_agreeing 44 = .ok (.iload 9, 2) := by decide +kernel
theorem dX9_agreeing_46 : decode cX9_agreeing 46 = .ok (.iload 8, 2) := by decide +kernel
theorem dX9_agreeing_48 : decode cX9_agreeing 48 = .ok (.if_icmp .gt 54, 3) := by decide +kernel
theorem dX9_agreeing_51 : decode cX9_agreeing 51 = .ok (.sipush 10000, 3) := by decide +kernel
theorem dX9_agreeing_54 : decode cX9_agreeing 54 = .ok (.iload 9, 2) := by decide +kernel
theorem dX9_agreeing_56 : decode cX9_agreeing 56 = .ok (.imul, 1) := by decide +kernel
theorem dX9_agreeing_57 : decode cX9_agreeing 57 = .ok (.bipush 100, 2) := by decide +kernel
theorem dX9_agreeing_59 : decode cX9_agreeing 59 = .ok (.iload 7, 2) := by decide +kernel
theorem dX9_agreeing_61 : decode cX9_agreeing 61 = .ok (.imul, 1) := by decide +kernel
theorem dX9_agreeing_62 : decode cX9_agreeing 62 = .ok (.iadd, 1) := by decide +kernel
theorem dX9_agreeing_63 : decode cX9_agreeing 63 = .ok (.iload 6, 2) := by decide +kernel
theorem dX9_agreeing_65 : decode cX9_agreeing 65 = .ok (.bipush 12, 2) := by decide +kernel
theorem dX9_agreeing_67 : decode cX9_agreeing 67 = .ok (.idiv, 1) := by decide +kernel
theorem dX9_agreeing_68 : decode cX9_agreeing 68 = .ok (.iadd, 1) := by decide +kernel
theorem dX9_agreeing_69 : decode cX9_agreeing 69 = .ok (.iload_n 0, 1) := by decide +kernel
theorem dX9_agreeing_70 : decode cX9_agreeing 70 = .ok (.iload_n 1, 1) := by decide +kernel
theorem dX9_agreeing_71 : decode cX9_agreeing 71 = .ok (.invokestatic 170, 3) := by decide +kernel
theorem dX9_agreeing_74 : decode cX9_agreeing 74 = .ok (.ifCond .eq 19, 3) := by decide +kernel
theorem dX9_agreeing_77 : decode cX9_agreeing 77 = .ok (.iload_n 3, 1) := by decide +kernel
theorem dX9_agreeing_78 : decode cX9_agreeing 78 = .ok (.ifCond .ne 8, 3) := by decide +kernel
theorem dX9_agreeing_81 : decode cX9_agreeing 81 = .ok (.iload 5, 2) := by decide +kernel
theorem dX9_agreeing_83 : decode cX9_agreeing 83 = .ok (.goto 5, 3) := by decide +kernel
theorem dX9_agreeing_86 : decode cX9_agreeing 86 = .ok (.iload 4, 2) := by decide +kernel
theorem dX9_agreeing_88 : decode cX9_agreeing 88 = .ok (.istore 4, 2) := by decide +kernel
theorem dX9_agreeing_90 : decode cX9_agreeing 90 = .ok (.iinc 3 1, 3) := by decide +kernel
theorem dX9_agreeing_93 : decode cX9_agreeing 93 = .ok (.iinc 5 1, 3) := by decide +kernel
theorem dX9_agreeing_96 : decode cX9_agreeing 96 = .ok (.iinc 9 1, 3) := by decide +kernel
theorem dX9_agreeing_99 : decode cX9_agreeing 99 = .ok (.goto (-55), 3) := by decide +kernel
theorem dX9_agreeing_102 : decode cX9_agreeing 102 = .ok (.iinc 6 1, 3) := by decide +kernel
theorem dX9_agreeing_105 : decode cX9_agreeing 105 = .ok (.goto (-93), 3) := by decide +kernel
theorem dX9_agreeing_108 : decode cX9_agreeing 108 = .ok (.iload_n 2, 1) := by decide +kernel
theorem dX9_agreeing_109 : decode cX9_agreeing 109 = .ok (.ifCond .eq 8, 3) := by decide +kernel
theorem dX9_agreeing_112 : decode cX9_agreeing 112 = .ok (.iload 4, 2) := by decide +kernel
theorem dX9_agreeing_114 : decode cX9_agreeing 114 = .ok (.goto 4, 3) := by decide +kernel
theorem dX9_agreeing_117 : decode cX9_agreeing 117 = .ok (.iload_n 3, 1) := by decide +kernel
theorem dX9_agreeing_118 : decode cX9_agreeing 118 = .ok (.ireturn, 1) := by decide +kernel
set_option maxRecDepth 20000 in
theorem ggX9_print_X9_in : GoodIn wsX9_print wsX9_in := goodIn_r _ [5] (by decide +kernel) (by decide +kernel)
set_option maxRecDepth 20000 in
theorem gX9_print_X9_in : GoodIn wsX9_print (va_wsS RX9 32 yX9_in wsX9_in) := goodIn_app (goodIn_of _ (by decide +kernel)) ggX9_print_X9_in
set_option maxRecDepth 20000 in
theorem ggX9_print_X9_agreeing : GoodIn wsX9_print wsX9_agreeing := goodIn_r _ [8, 9, 10, 4, 11, 12, 13, 14, 15, 16, 17] (by decide +kernel) (by decide +kernel)
set_option maxRecDepth 20000 in
theorem gX9_print_X9_agreeing : GoodIn wsX9_print (va_wsS RX9 173 yX9_agreeing wsX9_agreeing) := goodIn_app (goodIn_of _ (by decide +kernel)) ggX9_print_X9_agreeing
theorem dX9_print_0 : decode cX9_print 0 = .ok (.iload_n 1, 1) := by decide +kernel
theorem dX9_print_1 : decode cX9_print 1 = .ok (.iconst 0, 1) := by decide +kernel
theorem dX9_print_2 : decode cX9_print 2 = .ok (.aload_n 0, 1) := by decide +kernel
theorem dX9_print_3 : decode cX9_print 3 = .ok (.getfield 7, 3) := by decide +kernel
theorem dX9_print_6 : decode cX9_print 6 = .ok (.bipush 12, 2) := by decide +kernel
theorem dX9_print_8 : decode cX9_print 8 = .ok (.iaload, 1) := by decide +kernel
theorem dX9_print_9 : decode cX9_print 9 = .ok (.iconst 1, 1) := by decide +kernel
theorem dX9_print_10 : decode cX9_print 10 = .ok (.isub, 1) := by decide +kernel
theorem dX9_print_11 : decode cX9_print 11 = .ok (.invokestatic 32, 3) := by decide +kernel
theorem dX9_print_14 : decode cX9_print 14 = .ok (.ifCond .ne 5, 3) := by decide +kernel
theorem dX9_print_17 : decode cX9_print 17 = .ok (.iconst (-1), 1) := by decide +kernel
theorem dX9_print_18 : decode cX9_print 18 = .ok (.ireturn, 1) := by decide +kernel
theorem dX9_print_19 : decode cX9_print 19 = .ok (.iload_n 2, 1) := by decide +kernel
theorem dX9_print_20 : decode cX9_print 20 = .ok (.iconst 0, 1) := by decide +kernel
theorem dX9_print_21 : decode cX9_print 21 = .ok (.bipush 7, 2) := by decide +kernel
theorem dX9_print_23 : decode cX9_print 23 = .ok (.invokestatic 32, 3) := by decide +kernel
theorem dX9_print_26 : decode cX9_print 26 = .ok (.ifCond .ne 6, 3) := by decide +kernel
theorem dX9_print_29 : decode cX9_print 29 = .ok (.bipush (-2), 2) := by decide +kernel
theorem dX9_print_31 : decode cX9_print 31 = .ok (.ireturn, 1) := by decide +kernel
theorem dX9_print_32 : decode cX9_print 32 = .ok (.bipush 13, 2) := by decide +kernel
theorem dX9_print_34 : decode cX9_print 34 = .ok (.bipush 6, 2) := by decide +kernel
theorem dX9_print_36 : decode cX9_print 36 = .ok (.iload_n 1, 1) := by decide +kernel
theorem dX9_print_37 : decode cX9_print 37 = .ok (.imul, 1) := by decide +kernel
theorem dX9_print_38 : decode cX9_print 38 = .ok (.iadd, 1) := by decide +kernel
theorem dX9_print_39 : decode cX9_print 39 = .ok (.istore_n 3, 1) := by decide +kernel
theorem dX9_print_40 : decode cX9_print 40 = .ok (.iload_n 2, 1) := by decide +kernel
theorem dX9_print_41 : decode cX9_print 41 = .ok (.bipush 6, 2) := by decide +kernel
theorem dX9_print_43 : decode cX9_print 43 = .ok (.if_icmp .ge 14, 3) := by decide +kernel
theorem dX9_print_46 : decode cX9_print 46 = .ok (.aload_n 0, 1) := by decide +kernel
theorem dX9_print_47 : decode cX9_print 47 = .ok (.getfield 7, 3) := by decide +kernel
theorem dX9_print_50 : decode cX9_print 50 = .ok (.iload_n 3, 1) := by decide +kernel
theorem dX9_print_51 : decode cX9_print 51 = .ok (.iload_n 2, 1) := by decide +kernel
theorem dX9_print_52 : decode cX9_print 52 = .ok (.iadd, 1) := by decide +kernel
theorem dX9_print_53 : decode cX9_print 53 = .ok (.iaload, 1) := by decide +kernel
theorem dX9_print_54 : decode cX9_print 54 = .ok (.goto 40, 3) := by decide +kernel
theorem dX9_print_57 : decode cX9_print 57 = .ok (.aload_n 0, 1) := by decide +kernel
theorem dX9_print_58 : decode cX9_print 58 = .ok (.getfield 7, 3) := by decide +kernel
theorem dX9_print_61 : decode cX9_print 61 = .ok (.iload_n 3, 1) := by decide +kernel
theorem dX9_print_62 : decode cX9_print 62 = .ok (.iaload, 1) := by decide +kernel
theorem dX9_print_63 : decode cX9_print 63 = .ok (.aload_n 0, 1) := by decide +kernel
theorem dX9_print_64 : decode cX9_print 64 = .ok (.getfield 7, 3) := by decide +kernel
theorem dX9_print_67 : decode cX9_print 67 = .ok (.iload_n 3, 1) := by decide +kernel
theorem dX9_print_68 : decode cX9_print 68 = .ok (.iconst 2, 1) := by decide +kernel
theorem dX9_print_69 : decode cX9_print 69 = .ok (.iadd, 1) := by decide +kernel
theorem dX9_print_70 : decode cX9_print 70 = .ok (.iaload, 1) := by decide +kernel
theorem dX9_print_71 : decode cX9_print 71 = .ok (.aload_n 0, 1) := by decide +kernel
theorem dX9_print_72 : decode cX9_print 72 = .ok (.getfield 7, 3) := by decide +kernel
theorem dX9_print_75 : decode cX9_print 75 = .ok (.iload_n 3, 1) := by decide +kernel
theorem dX9_print_76 : decode cX9_print 76 = .ok (.iconst 3, 1) := by decide +kernel
theorem dX9_print_77 : decode cX9_print 77 = .ok (.iadd, 1) := by decide +kernel
theorem dX9_print_78 : decode cX9_print 78 = .ok (.iaload, 1) := by decide +kernel
theorem dX9_print_79 : decode cX9_print 79 = .ok (.ior, 1) := by decide +kernel
theorem dX9_print_80 : decode cX9_print 80 = .ok (.iload_n 2, 1) := by decide +kernel
theorem dX9_print_81 : decode cX9_print 81 = .ok (.bipush 7, 2) := by decide +kernel
theorem dX9_print_83 : decode cX9_print 83 = .ok (.if_icmp .ne 7, 3) := by decide +kernel
theorem dX9_print_86 : decode cX9_print 86 = .ok (.iconst 1, 1) := by decide +kernel
theorem dX9_print_87 : decode cX9_print 87 = .ok (.goto 4, 3) := by decide +kernel
theorem dX9_print_90 : decode cX9_print 90 = .ok (.iconst 0, 1) := by decide +kernel
theorem dX9_print_91 : decode cX9_print 91 = .ok (.invokestatic 173, 3) := by decide +kernel
theorem dX9_print_94 : decode cX9_print 94 = .ok (.ireturn, 1) := by decide +kernel
set_option maxRecDepth 20000 in
theorem ggX9_rightOf_X9_isDay : GoodIn wsX9_rightOf wsX9_isDay := goodIn_r _ [6, 7, 8, 9, 5, 10] (by decide +kernel) (by decide +kernel)
set_option maxRecDepth 20000 in
theorem gX9_rightOf_X9_isDay : GoodIn wsX9_rightOf (va_wsS RX9 110 yX9_isDay wsX9_isDay) := goodIn_app (goodIn_of _ (by decide +kernel)) ggX9_rightOf_X9_isDay
theorem dX9_rightOf_0 : decode cX9_rightOf 0 = .ok (.iload_n 1, 1) := by decide +kernel
theorem dX9_rightOf_1 : decode cX9_rightOf 1 = .ok (.invokestatic 110, 3) := by decide +kernel
theorem dX9_rightOf_4 : decode cX9_rightOf 4 = .ok (.ifCond .ne 5, 3) := by decide +kernel
theorem dX9_rightOf_7 : decode cX9_rightOf 7 = .ok (.iconst (-1), 1) := by decide +kernel
theorem dX9_rightOf_8 : decode cX9_rightOf 8 = .ok (.ireturn, 1) := by decide +kernel
theorem dX9_rightOf_9 : decode cX9_rightOf 9 = .ok (.aload_n 0, 1) := by decide +kernel
theorem dX9_rightOf_10 : decode cX9_rightOf 10 = .ok (.getfield 7, 3) := by decide +kernel
theorem dX9_rightOf_13 : decode cX9_rightOf 13 = .ok (.bipush 11, 2) := by decide +kernel
theorem dX9_rightOf_15 : decode cX9_rightOf 15 = .ok (.iaload, 1) := by decide +kernel
theorem dX9_rightOf_16 : decode cX9_rightOf 16 = .ok (.istore_n 2, 1) := by decide +kernel
theorem dX9_rightOf_17 : decode cX9_rightOf 17 = .ok (.iload_n 2, 1) := by decide +kernel
theorem dX9_rightOf_18 : decode cX9_rightOf 18 = .ok (.ifCond .le 31, 3) := by decide +kernel
theorem dX9_rightOf_21 : decode cX9_rightOf 21 = .ok (.aload_n 0, 1) := by decide +kernel
theorem dX9_rightOf_22 : decode cX9_rightOf 22 = .ok (.getfield 25, 3) := by decide +kernel
theorem dX9_rightOf_25 : decode cX9_rightOf 25 = .ok (.iconst 4, 1) := by decide +kernel
theorem dX9_rightOf_26 : decode cX9_rightOf 26 = .ok (.iload_n 2, 1) := by decide +kernel
theorem dX9_rightOf_27 : decode cX9_rightOf 27 = .ok (.imul, 1) := by decide +kernel
theorem dX9_rightOf_28 : decode cX9_rightOf 28 = .ok (.iconst 4, 1) := by decide +kernel
theorem dX9_rightOf_29 : decode cX9_rightOf 29 = .ok (.isub, 1) := by decide +kernel
theorem dX9_rightOf_30 : decode cX9_rightOf 30 = .ok (.iaload, 1) := by decide +kernel
theorem dX9_rightOf_31 : decode cX9_rightOf 31 = .ok (.iload_n 1, 1) := by decide +kernel
theorem dX9_rightOf_32 : decode cX9_rightOf 32 = .ok (.if_icmp .le 17, 3) := by decide +kernel
theorem dX9_rightOf_35 : decode cX9_rightOf 35 = .ok (.aload_n 0, 1) := by decide +kernel
theorem dX9_rightOf_36 : decode cX9_rightOf 36 = .ok (.getfield 25, 3) := by decide +kernel
theorem dX9_rightOf_39 : decode cX9_rightOf 39 = .ok (.iconst 4, 1) := by decide +kernel
theorem dX9_rightOf_40 : decode cX9_rightOf 40 = .ok (.iload_n 2, 1) := by decide +kernel
theorem dX9_rightOf_41 : decode cX9_rightOf 41 = .ok (.imul, 1) := by decide +kernel
theorem dX9_rightOf_42 : decode cX9_rightOf 42 = .ok (.iconst 2, 1) := by decide +kernel
theorem dX9_rightOf_43 : decode cX9_rightOf 43 = .ok (.isub, 1) := by decide +kernel
theorem dX9_rightOf_44 : decode cX9_rightOf 44 = .ok (.iaload, 1) := by decide +kernel
theorem dX9_rightOf_45 : decode cX9_rightOf 45 = .ok (.istore_n 2, 1) := by decide +kernel
theorem dX9_rightOf_46 : decode cX9_rightOf 46 = .ok (.goto (-29), 3) := by decide +kernel
theorem dX9_rightOf_49 : decode cX9_rightOf 49 = .ok (.iload_n 2, 1) := by decide +kernel
theorem dX9_rightOf_50 : decode cX9_rightOf 50 = .ok (.ifCond .le 30, 3) := by decide +kernel
theorem dX9_rightOf_53 : decode cX9_rightOf 53 = .ok (.aload_n 0, 1) := by decide +kernel
theorem dX9_rightOf_54 : decode cX9_rightOf 54 = .ok (.getfield 25, 3) := by decide +kernel
theorem dX9_rightOf_57 : decode cX9_rightOf 57 = .ok (.iconst 4, 1) := by decide +kernel
theorem dX9_rightOf_58 : decode cX9_rightOf 58 = .ok (.iload_n 2, 1) := by decide +kernel
theorem dX9_rightOf_59 : decode cX9_rightOf 59 = .ok (.imul, 1) := by decide +kernel
theorem dX9_rightOf_60 : decode cX9_rightOf 60 = .ok (.iconst 4, 1) := by decide +kernel
theorem dX9_rightOf_61 : decode cX9_rightOf 61 = .ok (.isub, 1) := by decide +kernel
theorem dX9_rightOf_62 : decode cX9_rightOf 62 = .ok (.iaload, 1) := by decide +kernel
theorem dX9_rightOf_63 : decode cX9_rightOf 63 = .ok (.iload_n 1, 1) := by decide +kernel
theorem dX9_rightOf_64 : decode cX9_rightOf 64 = .ok (.if_icmp .ne 16, 3) := by decide +kernel
theorem dX9_rightOf_67 : decode cX9_rightOf 67 = .ok (.aload_n 0, 1) := by decide +kernel
theorem dX9_rightOf_68 : decode cX9_rightOf 68 = .ok (.getfield 25, 3) := by decide +kernel
theorem dX9_rightOf_71 : decode cX9_rightOf 71 = .ok (.iconst 4, 1) := by decide +kernel
theorem dX9_rightOf_72 : decode cX9_rightOf 72 = .ok (.iload_n 2, 1) := by decide +kernel
theorem dX9_rightOf_73 : decode cX9_rightOf 73 = .ok (.imul, 1) := by decide +kernel
theorem dX9_rightOf_74 : decode cX9_rightOf 74 = .ok (.iconst 3, 1) := by decide +kernel
theorem dX9_rightOf_75 : decode cX9_rightOf 75 = .ok (.isub, 1) := by decide +kernel
theorem dX9_rightOf_76 : decode cX9_rightOf 76 = .ok (.iaload, 1) := by decide +kernel
theorem dX9_rightOf_77 : decode cX9_rightOf 77 = .ok (.goto 4, 3) := by decide +kernel
theorem dX9_rightOf_80 : decode cX9_rightOf 80 = .ok (.iconst 0, 1) := by decide +kernel
theorem dX9_rightOf_81 : decode cX9_rightOf 81 = .ok (.ireturn, 1) := by decide +kernel
set_option maxRecDepth 20000 in
theorem ggX9_count_X9_showsDay : GoodIn wsX9_count wsX9_showsDay := goodIn_r _ [9, 10, 11, 12, 8, 13, 1, 14, 15, 16, 17, 18, 19, 20, 21, 22, 23, 24, 25, 32, 33, 34, 35, 36, 37, 38, 39, 40, 41, 42, 43, 44] (by decide +kernel) (by decide +kernel)
set_option maxRecDepth 20000 in
theorem gX9_count_X9_showsDay : GoodIn wsX9_count (wsV RX9 83 RX9 yX9_showsDay wsX9_showsDay) := goodIn_app (goodIn_of _ (by decide +kernel)) ggX9_count_X9_showsDay
set_option maxRecDepth 20000 in
theorem ggX9_count_X9_shows : GoodIn wsX9_count wsX9_shows := goodIn_r _ [13, 1, 14, 15, 8, 16, 32, 33, 34, 35, 36, 37, 38, 39, 40, 41, 42, 43, 44] (by decide +kernel) (by decide +kernel)
set_option maxRecDepth 20000 in
theorem gX9_count_X9_shows : GoodIn wsX9_count (wsV RX9 57 RX9 yX9_shows wsX9_shows) := goodIn_app (goodIn_of _ (by decide +kernel)) ggX9_count_X9_shows
set_option maxRecDepth 20000 in
theorem ggX9_count_X9_dayOf : GoodIn wsX9_count wsX9_dayOf := goodIn_r _ [28, 29, 30, 8, 31, 23, 24, 25, 20, 21, 22] (by decide +kernel) (by decide +kernel)
set_option maxRecDepth 20000 in
theorem gX9_count_X9_dayOf : GoodIn wsX9_count (va_wsS RX9 139 yX9_dayOf wsX9_dayOf) := goodIn_app (goodIn_of _ (by decide +kernel)) ggX9_count_X9_dayOf
theorem dX9_count_0 : decode cX9_count 0 = .ok (.iload_n 1, 1) := by decide +kernel
theorem dX9_count_1 : decode cX9_count 1 = .ok (.tableswitch 182 0 15 #[79, 86, 93, 93, 93, 93, 93, 93, 104, 123, 131, 162, 167, 172, 172, 172], 79) := by decide +kernel
theorem dX9_count_80 : decode cX9_count 80 = .ok (.aload_n 0, 1) := by decide +kernel
theorem dX9_count_81 : decode cX9_count 81 = .ok (.getfield 7, 3) := by decide +kernel
theorem dX9_count_84 : decode cX9_count 84 = .ok (.iconst 3, 1) := by decide +kernel
theorem dX9_count_85 : decode cX9_count 85 = .ok (.iaload, 1) := by decide +kernel
theorem dX9_count_86 : decode cX9_count 86 = .ok (.ireturn, 1) := by decide +kernel
theorem dX9_count_87 : decode cX9_count 87 = .ok (.aload_n 0, 1) := by decide +kernel
theorem dX9_count_88 : decode cX9_count 88 = .ok (.getfield 7, 3) := by decide +kernel
theorem dX9_count_91 : decode cX9_count 91 = .ok (.iconst 4, 1) := by decide +kernel
theorem dX9_count_92 : decode cX9_count 92 = .ok (.iaload, 1) := by decide +kernel
theorem dX9_count_93 : decode cX9_count 93 = .ok (.ireturn, 1) := by decide +kernel
theorem dX9_count_94 : decode cX9_count 94 = .ok (.aload_n 0, 1) := by decide +kernel
theorem dX9_count_95 : decode cX9_count 95 = .ok (.getfield 7, 3) := by decide +kernel
theorem dX9_count_98 : decode cX9_count 98 = .ok (.iconst 5, 1) := by decide +kernel
theorem dX9_count_99 : decode cX9_count 99 = .ok (.iload_n 1, 1) := by decide +kernel
theorem dX9_count_100 : decode cX9_count 100 = .ok (.iadd, 1) := by decide +kernel
theorem dX9_count_101 : decode cX9_count 101 = .ok (.iconst 2, 1) := by decide +kernel
theorem dX9_count_102 : decode cX9_count 102 = .ok (.isub, 1) := by decide +kernel
theorem dX9_count_103 : decode cX9_count 103 = .ok (.iaload, 1) := by decide +kernel
theorem dX9_count_104 : decode cX9_count 104 = .ok (.ireturn, 1) := by decide +kernel
theorem dX9_count_105 : decode cX9_count 105 = .ok (.aload_n 0, 1) := by decide +kernel
theorem dX9_count_106 : decode cX9_count 106 = .ok (.aload_n 0, 1) := by decide +kernel
theorem dX9_count_107 : decode cX9_count 107 = .ok (.getfield 7, 3) := by decide +kernel
theorem dX9_count_110 : decode cX9_count 110 = .ok (.iconst 3, 1) := by decide +kernel
theorem dX9_count_111 : decode cX9_count 111 = .ok (.iaload, 1) := by decide +kernel
theorem dX9_count_112 : decode cX9_count 112 = .ok (.invokevirtual 83, 3) := by decide +kernel
theorem dX9_count_115 : decode cX9_count 115 = .ok (.ifCond .eq 7, 3) := by decide +kernel
theorem dX9_count_118 : decode cX9_count 118 = .ok (.iconst 1, 1) := by decide +kernel
theorem dX9_count_119 : decode cX9_count 119 = .ok (.goto 4, 3) := by decide +kernel
theorem dX9_count_122 : decode cX9_count 122 = .ok (.iconst 0, 1) := by decide +kernel
theorem dX9_count_123 : decode cX9_count 123 = .ok (.ireturn, 1) := by decide +kernel
theorem dX9_count_124 : decode cX9_count 124 = .ok (.aload_n 0, 1) := by decide +kernel
theorem dX9_count_125 : decode cX9_count 125 = .ok (.invokevirtual 57, 3) := by decide +kernel
theorem dX9_count_128 : decode cX9_count 128 = .ok (.invokestatic 139, 3) := by decide +kernel
theorem dX9_count_131 : decode cX9_count 131 = .ok (.ireturn, 1) := by decide +kernel
theorem dX9_count_132 : decode cX9_count 132 = .ok (.aload_n 0, 1) := by decide +kernel
theorem dX9_count_133 : decode cX9_count 133 = .ok (.getfield 7, 3) := by decide +kernel
theorem dX9_count_136 : decode cX9_count 136 = .ok (.bipush 11, 2) := by decide +kernel
theorem dX9_count_138 : decode cX9_count 138 = .ok (.iaload, 1) := by decide +kernel
theorem dX9_count_139 : decode cX9_count 139 = .ok (.ifCond .ne 7, 3) := by decide +kernel
theorem dX9_count_142 : decode cX9_count 142 = .ok (.iconst 0, 1) := by decide +kernel
theorem dX9_count_143 : decode cX9_count 143 = .ok (.goto 19, 3) := by decide +kernel
theorem dX9_count_146 : decode cX9_count 146 = .ok (.aload_n 0, 1) := by decide +kernel
theorem dX9_count_147 : decode cX9_count 147 = .ok (.getfield 25, 3) := by decide +kernel
theorem dX9_count_150 : decode cX9_count 150 = .ok (.iconst 4, 1) := by decide +kernel
theorem dX9_count_151 : decode cX9_count 151 = .ok (.aload_n 0, 1) := by decide +kernel
theorem dX9_count_152 : decode cX9_count 152 = .ok (.getfield 7, 3) := by decide +kernel
theorem dX9_count_155 : decode cX9_count 155 = .ok (.bipush 11, 2) := by decide +kernel
theorem dX9_count_157 : decode cX9_count 157 = .ok (.iaload, 1) := by decide +kernel
theorem dX9_count_158 : decode cX9_count 158 = .ok (.imul, 1) := by decide +kernel
theorem dX9_count_159 : decode cX9_count 159 = .ok (.iconst 1, 1) := by decide +kernel
theorem dX9_count_160 : decode cX9_count 160 = .ok (.isub, 1) := by decide +kernel
theorem dX9_count_161 : decode cX9_count 161 = .ok (.iaload, 1) := by decide +kernel
theorem dX9_count_162 : decode cX9_count 162 = .ok (.ireturn, 1) := by decide +kernel
theorem dX9_count_163 : decode cX9_count 163 = .ok (.aload_n 0, 1) := by decide +kernel
theorem dX9_count_164 : decode cX9_count 164 = .ok (.getfield 47, 3) := by decide +kernel
theorem dX9_count_167 : decode cX9_count 167 = .ok (.ireturn, 1) := by decide +kernel
theorem dX9_count_168 : decode cX9_count 168 = .ok (.aload_n 0, 1) := by decide +kernel
theorem dX9_count_169 : decode cX9_count 169 = .ok (.getfield 126, 3) := by decide +kernel
theorem dX9_count_172 : decode cX9_count 172 = .ok (.ireturn, 1) := by decide +kernel
theorem dX9_count_173 : decode cX9_count 173 = .ok (.aload_n 0, 1) := by decide +kernel
theorem dX9_count_174 : decode cX9_count 174 = .ok (.getfield 7, 3) := by decide +kernel
theorem dX9_count_177 : decode cX9_count 177 = .ok (.iload_n 1, 1) := by decide +kernel
theorem dX9_count_178 : decode cX9_count 178 = .ok (.bipush 13, 2) := by decide +kernel
theorem dX9_count_180 : decode cX9_count 180 = .ok (.isub, 1) := by decide +kernel
theorem dX9_count_181 : decode cX9_count 181 = .ok (.iaload, 1) := by decide +kernel
theorem dX9_count_182 : decode cX9_count 182 = .ok (.ireturn, 1) := by decide +kernel
theorem dX9_count_183 : decode cX9_count 183 = .ok (.bipush (-2), 2) := by decide +kernel
theorem dX9_count_185 : decode cX9_count 185 = .ok (.ireturn, 1) := by decide +kernel
set_option maxRecDepth 20000 in
theorem ggX9_even_X9_of : GoodIn wsX9_even wsX9_of := goodIn_r _ [6] (by decide +kernel) (by decide +kernel)
set_option maxRecDepth 20000 in
theorem gX9_even_X9_of : GoodIn wsX9_even (va_wsS RX9 28 yX9_of wsX9_of) := goodIn_app (goodIn_of _ (by decide +kernel)) ggX9_even_X9_of
theorem dX9_even_0 : decode cX9_even 0 = .ok (.iconst 0, 1) := by decide +kernel
theorem dX9_even_1 : decode cX9_even 1 = .ok (.istore_n 1, 1) := by decide +kernel
theorem dX9_even_2 : decode cX9_even 2 = .ok (.iconst 0, 1) := by decide +kernel
theorem dX9_even_3 : decode cX9_even 3 = .ok (.istore_n 2, 1) := by decide +kernel
theorem dX9_even_4 : decode cX9_even 4 = .ok (.iconst 0, 1) := by decide +kernel
theorem dX9_even_5 : decode cX9_even 5 = .ok (.istore_n 3, 1) := by decide +kernel
theorem dX9_even_6 : decode cX9_even 6 = .ok (.iload_n 3, 1) := by decide +kernel
theorem dX9_even_7 : decode cX9_even 7 = .ok (.bipush 60, 2) := by decide +kernel
theorem dX9_even_9 : decode cX9_even 9 = .ok (.if_icmp .ge 47, 3) := by decide +kernel
theorem dX9_even_12 : decode cX9_even 12 = .ok (.aload_n 0, 1) := by decide +kernel
theorem dX9_even_13 : decode cX9_even 13 = .ok (.getfield 7, 3) := by decide +kernel
theorem dX9_even_16 : decode cX9_even 16 = .ok (.iload_n 3, 1) := by decide +kernel
theorem dX9_even_17 : decode cX9_even 17 = .ok (.bipush 10, 2) := by decide +kernel
theorem dX9_even_19 : decode cX9_even 19 = .ok (.idiv, 1) := by decide +kernel
theorem dX9_even_20 : decode cX9_even 20 = .ok (.iconst 3, 1) := by decide +kernel
theorem dX9_even_21 : decode cX9_even 21 = .ok (.iload_n 3, 1) := by decide +kernel
theorem dX9_even_22 : decode cX9_even 22 = .ok (.bipush 10, 2) := by decide +kernel
theorem dX9_even_24 : decode cX9_even 24 = .ok (.irem, 1) := by decide +kernel
theorem dX9_even_25 : decode cX9_even 25 = .ok (.iadd, 1) := by decide +kernel
theorem dX9_even_26 : decode cX9_even 26 = .ok (.invokestatic 28, 3) := by decide +kernel
theorem dX9_even_29 : decode cX9_even 29 = .ok (.iaload, 1) := by decide +kernel
theorem dX9_even_30 : decode cX9_even 30 = .ok (.istore 4, 2) := by decide +kernel
theorem dX9_even_32 : decode cX9_even 32 = .ok (.iload_n 1, 1) := by decide +kernel
theorem dX9_even_33 : decode cX9_even 33 = .ok (.iload 4, 2) := by decide +kernel
theorem dX9_even_35 : decode cX9_even 35 = .ok (.iadd, 1) := by decide +kernel
theorem dX9_even_36 : decode cX9_even 36 = .ok (.istore_n 1, 1) := by decide +kernel
theorem dX9_even_37 : decode cX9_even 37 = .ok (.iload 4, 2) := by decide +kernel
theorem dX9_even_39 : decode cX9_even 39 = .ok (.iload_n 2, 1) := by decide +kernel
theorem dX9_even_40 : decode cX9_even 40 = .ok (.if_icmp .le 8, 3) := by decide +kernel
theorem dX9_even_43 : decode cX9_even 43 = .ok (.iload 4, 2) := by decide +kernel
theorem dX9_even_45 : decode cX9_even 45 = .ok (.goto 4, 3) := by decide +kernel
theorem dX9_even_48 : decode cX9_even 48 = .ok (.iload_n 2, 1) := by decide +kernel
theorem dX9_even_49 : decode cX9_even 49 = .ok (.istore_n 2, 1) := by decide +kernel
theorem dX9_even_50 : decode cX9_even 50 = .ok (.iinc 3 1, 3) := by decide +kernel
theorem dX9_even_53 : decode cX9_even 53 = .ok (.goto (-47), 3) := by decide +kernel
theorem dX9_even_56 : decode cX9_even 56 = .ok (.iload_n 2, 1) := by decide +kernel
theorem dX9_even_57 : decode cX9_even 57 = .ok (.ifCond .ne 7, 3) := by decide +kernel
theorem dX9_even_60 : decode cX9_even 60 = .ok (.dconst 1, 1) := by decide +kernel
theorem dX9_even_61 : decode cX9_even 61 = .ok (.goto 12, 3) := by decide +kernel
theorem dX9_even_64 : decode cX9_even 64 = .ok (.iload_n 1, 1) := by decide +kernel
theorem dX9_even_65 : decode cX9_even 65 = .ok (.i2d, 1) := by decide +kernel
theorem dX9_even_66 : decode cX9_even 66 = .ok (.ldc2_w 177, 3) := by decide +kernel
theorem dX9_even_69 : decode cX9_even 69 = .ok (.ddiv, 1) := by decide +kernel
theorem dX9_even_70 : decode cX9_even 70 = .ok (.iload_n 2, 1) := by decide +kernel
theorem dX9_even_71 : decode cX9_even 71 = .ok (.i2d, 1) := by decide +kernel
theorem dX9_even_72 : decode cX9_even 72 = .ok (.ddiv, 1) := by decide +kernel
theorem dX9_even_73 : decode cX9_even 73 = .ok (.dreturn, 1) := by decide +kernel
set_option maxRecDepth 20000 in
theorem ggX9_stepsTo_X9_isDay : GoodIn wsX9_stepsTo wsX9_isDay := goodIn_r _ [4, 5, 6, 7, 3, 8] (by decide +kernel) (by decide +kernel)
set_option maxRecDepth 20000 in
theorem gX9_stepsTo_X9_isDay : GoodIn wsX9_stepsTo (va_wsS RX9 110 yX9_isDay wsX9_isDay) := goodIn_app (goodIn_of _ (by decide +kernel)) ggX9_stepsTo_X9_isDay
set_option maxRecDepth 20000 in
theorem ggX9_stepsTo_X9_stepsFor : GoodIn wsX9_stepsTo wsX9_stepsFor := goodIn_r _ [12, 13, 14, 15, 3, 16, 17, 18, 19, 20, 21, 22, 23, 24, 25, 26, 27, 28, 29, 30, 31, 32, 33, 34, 35, 36, 37, 38, 39, 40, 41, 42, 43, 44, 45, 46, 47, 48] (by decide +kernel) (by decide +kernel)
set_option maxRecDepth 20000 in
theorem gX9_stepsTo_X9_stepsFor : GoodIn wsX9_stepsTo (wsV RX9 73 RX9 yX9_stepsFor wsX9_stepsFor) := goodIn_app (goodIn_of _ (by decide +kernel)) ggX9_stepsTo_X9_stepsFor
theorem dX9_stepsTo_0 : decode cX9_stepsTo 0 = .ok (.iload_n 1, 1) := by decide +kernel
theorem dX9_stepsTo_1 : decode cX9_stepsTo 1 = .ok (.invokestatic 110, 3) := by decide +kernel
theorem dX9_stepsTo_4 : decode cX9_stepsTo 4 = .ok (.ifCond .eq 11, 3) := by decide +kernel
theorem dX9_stepsTo_7 : decode cX9_stepsTo 7 = .ok (.aload_n 0, 1) := by decide +kernel
theorem dX9_stepsTo_8 : decode cX9_stepsTo 8 = .ok (.iload_n 1, 1) := by decide +kernel
theorem dX9_stepsTo_9 : decode cX9_stepsTo 9 = .ok (.invokevirtual 73, 3) := by decide +kernel
theorem dX9_stepsTo_12 : decode cX9_stepsTo 12 = .ok (.goto 4, 3) := by decide +kernel
theorem dX9_stepsTo_15 : decode cX9_stepsTo 15 = .ok (.iconst (-1), 1) := by decide +kernel
theorem dX9_stepsTo_16 : decode cX9_stepsTo 16 = .ok (.ireturn, 1) := by decide +kernel
set_option maxRecDepth 20000 in
theorem ggX9_leastPress_X9_unclear : GoodIn wsX9_leastPress wsX9_unclear := goodIn_r _ [5, 6, 7, 8, 9, 4, 10, 11, 12, 13, 14, 15, 16, 17, 18, 19, 20, 21, 22, 23, 24, 25, 26] (by decide +kernel) (by decide +kernel)
set_option maxRecDepth 20000 in
theorem gX9_leastPress_X9_unclear : GoodIn wsX9_leastPress (wsV RX9 87 RX9 yX9_unclear wsX9_unclear) := goodIn_app (goodIn_of _ (by decide +kernel)) ggX9_leastPress_X9_unclear
theorem dX9_leastPress_0 : decode cX9_leastPress 0 = .ok (.iconst 1, 1) := by decide +kernel
theorem dX9_leastPress_1 : decode cX9_leastPress 1 = .ok (.istore_n 1, 1) := by decide +kernel
theorem dX9_leastPress_2 : decode cX9_leastPress 2 = .ok (.iload_n 1, 1) := by decide +kernel
theorem dX9_leastPress_3 : decode cX9_leastPress 3 = .ok (.bipush 10, 2) := by decide +kernel
theorem dX9_leastPress_5 : decode cX9_leastPress 5 = .ok (.if_icmp .ge 27, 3) := by decide +kernel
theorem dX9_leastPress_8 : decode cX9_leastPress 8 = .ok (.aload_n 0, 1) := by decide +kernel
theorem dX9_leastPress_9 : decode cX9_leastPress 9 = .ok (.iload_n 1, 1) := by decide +kernel
theorem dX9_leastPress_10 : decode cX9_leastPress 10 = .ok (.iconst 1, 1) := by decide +kernel
theorem dX9_leastPress_11 : decode cX9_leastPress 11 = .ok (.invokevirtual 87, 3) := by decide +kernel
theorem dX9_leastPress_14 : decode cX9_leastPress 14 = .ok (.aload_n 0, 1) := by decide +kernel
theorem dX9_leastPress_15 : decode cX9_leastPress 15 = .ok (.iload_n 1, 1) := by decide +kernel
theorem dX9_leastPress_16 : decode cX9_leastPress 16 = .ok (.iconst 0, 1) := by decide +kernel
theorem dX9_leastPress_17 : decode cX9_leastPress 17 = .ok (.invokevirtual 87, 3) := by decide +kernel
theorem dX9_leastPress_20 : decode cX9_leastPress 20 = .ok (.ior, 1) := by decide +kernel
theorem dX9_leastPress_21 : decode cX9_leastPress 21 = .ok (.ifCond .ne 5, 3) := by decide +kernel
theorem dX9_leastPress_24 : decode cX9_leastPress 24 = .ok (.iload_n 1, 1) := by decide +kernel
theorem dX9_leastPress_25 : decode cX9_leastPress 25 = .ok (.ireturn, 1) := by decide +kernel
theorem dX9_leastPress_26 : decode cX9_leastPress 26 = .ok (.iinc 1 1, 3) := by decide +kernel
theorem dX9_leastPress_29 : decode cX9_leastPress 29 = .ok (.goto (-27), 3) := by decide +kernel
theorem dX9_leastPress_32 : decode cX9_leastPress 32 = .ok (.bipush (-5), 2) := by decide +kernel
theorem dX9_leastPress_34 : decode cX9_leastPress 34 = .ok (.ireturn, 1) := by decide +kernel
set_option maxRecDepth 20000 in
theorem ggX9_lastsFor_X9_adjusts : GoodIn wsX9_lastsFor wsX9_adjusts := goodIn_r _ [8, 9, 10, 11, 7, 12, 13, 14, 15, 16, 1, 17, 18, 19, 20, 21, 22, 23, 24, 25, 26, 27, 28, 29, 30, 31, 32, 33, 34, 35, 36, 37, 38, 63, 64, 65, 66, 67, 68, 69, 70, 71, 72, 73, 74, 75] (by decide +kernel) (by decide +kernel)
set_option maxRecDepth 20000 in
theorem gX9_lastsFor_X9_adjusts : GoodIn wsX9_lastsFor (wsV RX9 113 RX9 yX9_adjusts wsX9_adjusts) := goodIn_app (goodIn_of _ (by decide +kernel)) ggX9_lastsFor_X9_adjusts
set_option maxRecDepth 20000 in
theorem ggX9_lastsFor_X9_isRight : GoodIn wsX9_lastsFor wsX9_isRight := goodIn_r _ [42, 1, 43, 44, 45, 7, 46, 47, 48, 49, 50, 29, 30, 31, 17, 18, 19, 20, 21, 22, 23, 24, 25, 51, 52, 53, 54, 55, 56, 57, 58, 63, 64, 65, 66, 67, 68, 69, 70, 71, 72, 73, 74, 75] (by decide +kernel) (by decide +kernel)
set_option maxRecDepth 20000 in
theorem gX9_lastsFor_X9_isRight : GoodIn wsX9_lastsFor (wsV RX9 91 RX9 yX9_isRight wsX9_isRight) := goodIn_app (goodIn_of _ (by decide +kernel)) ggX9_lastsFor_X9_isRight
set_option maxRecDepth 20000 in
theorem ggX9_lastsFor_X9_wearOut : GoodIn wsX9_lastsFor wsX9_wearOut := goodIn_r _ [62, 1, 29, 30, 7, 31, 32, 33, 34, 63, 64, 65, 66, 67, 68, 69, 70, 71, 72, 73, 74, 75] (by decide +kernel) (by decide +kernel)
set_option maxRecDepth 20000 in
theorem gX9_lastsFor_X9_wearOut : GoodIn wsX9_lastsFor (wsV RX9 97 RX9 yX9_wearOut wsX9_wearOut) := goodIn_app (goodIn_of _ (by decide +kernel)) ggX9_lastsFor_X9_wearOut
theorem dX9_lastsFor_0 : decode cX9_lastsFor 0 = .ok (.aload_n 0, 1) := by decide +kernel
theorem dX9_lastsFor_1 : decode cX9_lastsFor 1 = .ok (.getfield 7, 3) := by decide +kernel
theorem dX9_lastsFor_4 : decode cX9_lastsFor 4 = .ok (.iconst 4, 1) := by decide +kernel
theorem dX9_lastsFor_5 : decode cX9_lastsFor 5 = .ok (.iaload, 1) := by decide +kernel
theorem dX9_lastsFor_6 : decode cX9_lastsFor 6 = .ok (.istore_n 3, 1) := by decide +kernel
theorem dX9_lastsFor_7 : decode cX9_lastsFor 7 = .ok (.iconst 0, 1) := by decide +kernel
theorem dX9_lastsFor_8 : decode cX9_lastsFor 8 = .ok (.istore 4, 2) := by decide +kernel
theorem dX9_lastsFor_10 : decode cX9_lastsFor 10 = .ok (.iload 4, 2) := by decide +kernel
theorem dX9_lastsFor_12 : decode cX9_lastsFor 12 = .ok (.sipush 200, 3) := by decide +kernel
theorem dX9_lastsFor_15 : decode cX9_lastsFor 15 = .ok (.if_icmp .ge 80, 3) := by decide +kernel
theorem dX9_lastsFor_18 : decode cX9_lastsFor 18 = .ok (.aload_n 0, 1) := by decide +kernel
theorem dX9_lastsFor_19 : decode cX9_lastsFor 19 = .ok (.getfield 7, 3) := by decide +kernel
theorem dX9_lastsFor_22 : decode cX9_lastsFor 22 = .ok (.iconst 3, 1) := by decide +kernel
theorem dX9_lastsFor_23 : decode cX9_lastsFor 23 = .ok (.iaload, 1) := by decide +kernel
theorem dX9_lastsFor_24 : decode cX9_lastsFor 24 = .ok (.ldc 36, 2) := by decide +kernel
theorem dX9_lastsFor_26 : decode cX9_lastsFor 26 = .ok (.if_icmp .gt 69, 3) := by decide +kernel
theorem dX9_lastsFor_29 : decode cX9_lastsFor 29 = .ok (.aload_n 0, 1) := by decide +kernel
theorem dX9_lastsFor_30 : decode cX9_lastsFor 30 = .ok (.aload_n 0, 1) := by decide +kernel
theorem dX9_lastsFor_31 : decode cX9_lastsFor 31 = .ok (.getfield 7, 3) := by decide +kernel
theorem dX9_lastsFor_34 : decode cX9_lastsFor 34 = .ok (.iconst 3, 1) := by decide +kernel
theorem dX9_lastsFor_35 : decode cX9_lastsFor 35 = .ok (.iaload, 1) := by decide +kernel
theorem dX9_lastsFor_36 : decode cX9_lastsFor 36 = .ok (.invokevirtual 113, 3) := by decide +kernel
theorem dX9_lastsFor_39 : decode cX9_lastsFor 39 = .ok (.istore 5, 2) := by decide +kernel
theorem dX9_lastsFor_41 : decode cX9_lastsFor 41 = .ok (.iconst 0, 1) := by decide +kernel
theorem dX9_lastsFor_42 : decode cX9_lastsFor 42 = .ok (.istore 6, 2) := by decide +kernel
theorem dX9_lastsFor_44 : decode cX9_lastsFor 44 = .ok (.iload 6, 2) := by decide +kernel
theorem dX9_lastsFor_46 : decode cX9_lastsFor 46 = .ok (.iload_n 2, 1) := by decide +kernel
theorem dX9_lastsFor_47 : decode cX9_lastsFor 47 = .ok (.if_icmp .ge 25, 3) := by decide +kernel
theorem dX9_lastsFor_50 : decode cX9_lastsFor 50 = .ok (.aload_n 0, 1) := by decide +kernel
theorem dX9_lastsFor_51 : decode cX9_lastsFor 51 = .ok (.iload_n 1, 1) := by decide +kernel
theorem dX9_lastsFor_52 : decode cX9_lastsFor 52 = .ok (.invokevirtual 91, 3) := by decide +kernel
theorem dX9_lastsFor_55 : decode cX9_lastsFor 55 = .ok (.ifCond .ne 6, 3) := by decide +kernel
theorem dX9_lastsFor_58 : decode cX9_lastsFor 58 = .ok (.iload 4, 2) := by decide +kernel
theorem dX9_lastsFor_60 : decode cX9_lastsFor 60 = .ok (.ireturn, 1) := by decide +kernel
theorem dX9_lastsFor_61 : decode cX9_lastsFor 61 = .ok (.aload_n 0, 1) := by decide +kernel
theorem dX9_lastsFor_62 : decode cX9_lastsFor 62 = .ok (.iload_n 1, 1) := by decide +kernel
theorem dX9_lastsFor_63 : decode cX9_lastsFor 63 = .ok (.invokevirtual 97, 3) := by decide +kernel
theorem dX9_lastsFor_66 : decode cX9_lastsFor 66 = .ok (.iinc 6 1, 3) := by decide +kernel
theorem dX9_lastsFor_69 : decode cX9_lastsFor 69 = .ok (.goto (-25), 3) := by decide +kernel
theorem dX9_lastsFor_72 : decode cX9_lastsFor 72 = .ok (.aload_n 0, 1) := by decide +kernel
theorem dX9_lastsFor_73 : decode cX9_lastsFor 73 = .ok (.getfield 7, 3) := by decide +kernel
theorem dX9_lastsFor_76 : decode cX9_lastsFor 76 = .ok (.iconst 4, 1) := by decide +kernel
theorem dX9_lastsFor_77 : decode cX9_lastsFor 77 = .ok (.iload_n 3, 1) := by decide +kernel
theorem dX9_lastsFor_78 : decode cX9_lastsFor 78 = .ok (.iastore, 1) := by decide +kernel
theorem dX9_lastsFor_79 : decode cX9_lastsFor 79 = .ok (.aload_n 0, 1) := by decide +kernel
theorem dX9_lastsFor_80 : decode cX9_lastsFor 80 = .ok (.getfield 7, 3) := by decide +kernel
theorem dX9_lastsFor_83 : decode cX9_lastsFor 83 = .ok (.iconst 3, 1) := by decide +kernel
theorem dX9_lastsFor_84 : decode cX9_lastsFor 84 = .ok (.dup2, 1) := by decide +kernel
theorem dX9_lastsFor_85 : decode cX9_lastsFor 85 = .ok (.iaload, 1) := by decide +kernel
theorem dX9_lastsFor_86 : decode cX9_lastsFor 86 = .ok (.iconst 1, 1) := by decide +kernel
theorem dX9_lastsFor_87 : decode cX9_lastsFor 87 = .ok (.iadd, 1) := by decide +kernel
theorem dX9_lastsFor_88 : decode cX9_lastsFor 88 = .ok (.iastore, 1) := by decide +kernel
theorem dX9_lastsFor_89 : decode cX9_lastsFor 89 = .ok (.iinc 4 1, 3) := by decide +kernel
theorem dX9_lastsFor_92 : decode cX9_lastsFor 92 = .ok (.goto (-82), 3) := by decide +kernel
theorem dX9_lastsFor_95 : decode cX9_lastsFor 95 = .ok (.ldc 179, 2) := by decide +kernel
theorem dX9_lastsFor_97 : decode cX9_lastsFor 97 = .ok (.ireturn, 1) := by decide +kernel
set_option maxRecDepth 20000 in
theorem ggX9_arePresses_X9_in : GoodIn wsX9_arePresses wsX9_in := goodIn_r _ [4] (by decide +kernel) (by decide +kernel)
set_option maxRecDepth 20000 in
theorem gX9_arePresses_X9_in : GoodIn wsX9_arePresses (va_wsS RX9 32 yX9_in wsX9_in) := goodIn_app (goodIn_of _ (by decide +kernel)) ggX9_arePresses_X9_in
theorem dX9_arePresses_0 : decode cX9_arePresses 0 = .ok (.iload_n 0, 1) := by decide +kernel
theorem dX9_arePresses_1 : decode cX9_arePresses 1 = .ok (.iconst 1, 1) := by decide +kernel
theorem dX9_arePresses_2 : decode cX9_arePresses 2 = .ok (.bipush 9, 2) := by decide +kernel
theorem dX9_arePresses_4 : decode cX9_arePresses 4 = .ok (.invokestatic 32, 3) := by decide +kernel
theorem dX9_arePresses_7 : decode cX9_arePresses 7 = .ok (.ifCond .eq 17, 3) := by decide +kernel
theorem dX9_arePresses_10 : decode cX9_arePresses 10 = .ok (.iload_n 1, 1) := by decide +kernel
theorem dX9_arePresses_11 : decode cX9_arePresses 11 = .ok (.iconst 1, 1) := by decide +kernel
theorem dX9_arePresses_12 : decode cX9_arePresses 12 = .ok (.bipush 20, 2) := by decide +kernel
theorem dX9_arePresses_14 : decode cX9_arePresses 14 = .ok (.invokestatic 32, 3) := by decide +kernel
theorem dX9_arePresses_17 : decode cX9_arePresses 17 = .ok (.ifCond .eq 7, 3) := by decide +kernel
theorem dX9_arePresses_20 : decode cX9_arePresses 20 = .ok (.iconst 1, 1) := by decide +kernel
theorem dX9_arePresses_21 : decode cX9_arePresses 21 = .ok (.goto 4, 3) := by decide +kernel
theorem dX9_arePresses_24 : decode cX9_arePresses 24 = .ok (.iconst 0, 1) := by decide +kernel
theorem dX9_arePresses_25 : decode cX9_arePresses 25 = .ok (.ireturn, 1) := by decide +kernel
set_option maxRecDepth 20000 in
theorem ggX9_lasts_X9_arePresses : GoodIn wsX9_lasts wsX9_arePresses := goodIn_r _ [5, 6, 7, 4, 8] (by decide +kernel) (by decide +kernel)
set_option maxRecDepth 20000 in
theorem gX9_lasts_X9_arePresses : GoodIn wsX9_lasts (va_wsS RX9 180 yX9_arePresses wsX9_arePresses) := goodIn_app (goodIn_of _ (by decide +kernel)) ggX9_lasts_X9_arePresses
set_option maxRecDepth 20000 in
theorem ggX9_lasts_X9_putAside : GoodIn wsX9_lasts wsX9_putAside := goodIn_r _ [12, 13, 14, 15, 16, 84, 85, 86, 87, 88, 89, 90, 91, 92, 93, 94, 95, 96] (by decide +kernel) (by decide +kernel)
set_option maxRecDepth 20000 in
theorem gX9_lasts_X9_putAside : GoodIn wsX9_lasts (wsV RX9 104 RX9 yX9_putAside wsX9_putAside) := goodIn_app (goodIn_of _ (by decide +kernel)) ggX9_lasts_X9_putAside
set_option maxRecDepth 20000 in
theorem ggX9_lasts_X9_lastsFor : GoodIn wsX9_lasts wsX9_lastsFor := goodIn_r _ [20, 14, 21, 1, 22, 23, 24, 4, 25, 26, 27, 28, 29, 30, 31, 32, 33, 34, 35, 36, 37, 38, 39, 40, 41, 42, 43, 44, 45, 46, 47, 48, 49, 50, 51, 52, 53, 54, 55, 56, 57, 58, 59, 60, 61, 62, 63, 64, 65, 66, 67, 68, 69, 70, 71, 72, 73, 74, 75, 76, 77, 78, 79, 84, 85, 86, 87, 88, 89, 90, 91, 92, 93, 94, 95, 96] (by decide +kernel) (by decide +kernel)
set_option maxRecDepth 20000 in
theorem gX9_lasts_X9_lastsFor : GoodIn wsX9_lasts (wsV RX9 183 RX9 yX9_lastsFor wsX9_lastsFor) := goodIn_app (goodIn_of _ (by decide +kernel)) ggX9_lasts_X9_lastsFor
set_option maxRecDepth 20000 in
theorem ggX9_lasts_X9_putBack : GoodIn wsX9_lasts wsX9_putBack := goodIn_r _ [83, 14, 13, 16, 15, 84, 85, 86, 87, 88, 89, 90, 91, 92, 93, 94, 95, 96] (by decide +kernel) (by decide +kernel)
set_option maxRecDepth 20000 in
theorem gX9_lasts_X9_putBack : GoodIn wsX9_lasts (wsV RX9 44 RX9 yX9_putBack wsX9_putBack) := goodIn_app (goodIn_of _ (by decide +kernel)) ggX9_lasts_X9_putBack
theorem dX9_lasts_0 : decode cX9_lasts 0 = .ok (.iload_n 1, 1) := by decide +kernel
theorem dX9_lasts_1 : decode cX9_lasts 1 = .ok (.iload_n 2, 1) := by decide +kernel
theorem dX9_lasts_2 : decode cX9_lasts 2 = .ok (.invokestatic 180, 3) := by decide +kernel
theorem dX9_lasts_5 : decode cX9_lasts 5 = .ok (.ifCond .ne 6, 3) := by decide +kernel
theorem dX9_lasts_8 : decode cX9_lasts 8 = .ok (.bipush (-2), 2) := by decide +kernel
theorem dX9_lasts_10 : decode cX9_lasts 10 = .ok (.ireturn, 1) := by decide +kernel
theorem dX9_lasts_11 : decode cX9_lasts 11 = .ok (.aload_n 0, 1) := by decide +kernel
theorem dX9_lasts_12 : decode cX9_lasts 12 = .ok (.invokevirtual 104, 3) := by decide +kernel
theorem dX9_lasts_15 : decode cX9_lasts 15 = .ok (.aload_n 0, 1) := by decide +kernel
theorem dX9_lasts_16 : decode cX9_lasts 16 = .ok (.iload_n 1, 1) := by decide +kernel
theorem dX9_lasts_17 : decode cX9_lasts 17 = .ok (.iload_n 2, 1) := by decide +kernel
theorem dX9_lasts_18 : decode cX9_lasts 18 = .ok (.invokevirtual 183, 3) := by decide +kernel
theorem dX9_lasts_21 : decode cX9_lasts 21 = .ok (.istore_n 3, 1) := by decide +kernel
theorem dX9_lasts_22 : decode cX9_lasts 22 = .ok (.aload_n 0, 1) := by decide +kernel
theorem dX9_lasts_23 : decode cX9_lasts 23 = .ok (.invokevirtual 44, 3) := by decide +kernel
theorem dX9_lasts_26 : decode cX9_lasts 26 = .ok (.iload_n 3, 1) := by decide +kernel
theorem dX9_lasts_27 : decode cX9_lasts 27 = .ok (.ldc 179, 2) := by decide +kernel
theorem dX9_lasts_29 : decode cX9_lasts 29 = .ok (.if_icmp .ne 8, 3) := by decide +kernel
theorem dX9_lasts_32 : decode cX9_lasts 32 = .ok (.bipush (-5), 2) := by decide +kernel
theorem dX9_lasts_34 : decode cX9_lasts 34 = .ok (.goto 4, 3) := by decide +kernel
theorem dX9_lasts_37 : decode cX9_lasts 37 = .ok (.iload_n 3, 1) := by decide +kernel
theorem dX9_lasts_38 : decode cX9_lasts 38 = .ok (.ireturn, 1) := by decide +kernel
set_option maxRecDepth 20000 in
theorem ggX9_bestExchange_X9_arePresses : GoodIn wsX9_bestExchange wsX9_arePresses := goodIn_r _ [4, 5, 6, 3, 7] (by decide +kernel) (by decide +kernel)
set_option maxRecDepth 20000 in
theorem gX9_bestExchange_X9_arePresses : GoodIn wsX9_bestExchange (va_wsS RX9 180 yX9_arePresses wsX9_arePresses) := goodIn_app (goodIn_of _ (by decide +kernel)) ggX9_bestExchange_X9_arePresses
set_option maxRecDepth 20000 in
theorem ggX9_bestExchange_X9_putAside : GoodIn wsX9_bestExchange wsX9_putAside := goodIn_r _ [11, 12, 13, 14, 15, 88, 89, 90, 91, 92, 93, 94, 95, 96, 97, 98, 99, 100] (by decide +kernel) (by decide +kernel)
