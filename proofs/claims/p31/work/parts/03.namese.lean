theorem dL_lastsSo_181 : decode cL_lastsSo 181 = .ok (.iconst 1, 1) := by decide +kernel
theorem dL_lastsSo_182 : decode cL_lastsSo 182 = .ok (.goto 4, 3) := by decide +kernel
theorem dL_lastsSo_185 : decode cL_lastsSo 185 = .ok (.iconst 0, 1) := by decide +kernel
theorem dL_lastsSo_186 : decode cL_lastsSo 186 = .ok (.istore 7, 2) := by decide +kernel
theorem dL_lastsSo_188 : decode cL_lastsSo 188 = .ok (.iload 7, 2) := by decide +kernel
theorem dL_lastsSo_190 : decode cL_lastsSo 190 = .ok (.ifCond .eq 22, 3) := by decide +kernel
theorem dL_lastsSo_193 : decode cL_lastsSo 193 = .ok (.aload_n 0, 1) := by decide +kernel
theorem dL_lastsSo_194 : decode cL_lastsSo 194 = .ok (.iconst 1, 1) := by decide +kernel
theorem dL_lastsSo_195 : decode cL_lastsSo 195 = .ok (.invokevirtual 14, 3) := by decide +kernel
theorem dL_lastsSo_198 : decode cL_lastsSo 198 = .ok (.iload 5, 2) := by decide +kernel
theorem dL_lastsSo_200 : decode cL_lastsSo 200 = .ok (.iload 8, 2) := by decide +kernel
theorem dL_lastsSo_202 : decode cL_lastsSo 202 = .ok (.iadd, 1) := by decide +kernel
theorem dL_lastsSo_203 : decode cL_lastsSo 203 = .ok (.iconst 1, 1) := by decide +kernel
theorem dL_lastsSo_204 : decode cL_lastsSo 204 = .ok (.iadd, 1) := by decide +kernel
theorem dL_lastsSo_205 : decode cL_lastsSo 205 = .ok (.if_icmp .ne 7, 3) := by decide +kernel
theorem dL_lastsSo_208 : decode cL_lastsSo 208 = .ok (.iconst 1, 1) := by decide +kernel
theorem dL_lastsSo_209 : decode cL_lastsSo 209 = .ok (.goto 4, 3) := by decide +kernel
theorem dL_lastsSo_212 : decode cL_lastsSo 212 = .ok (.iconst 0, 1) := by decide +kernel
theorem dL_lastsSo_213 : decode cL_lastsSo 213 = .ok (.istore 7, 2) := by decide +kernel
theorem dL_lastsSo_215 : decode cL_lastsSo 215 = .ok (.iinc 8 1, 3) := by decide +kernel
theorem dL_lastsSo_218 : decode cL_lastsSo 218 = .ok (.goto (-153), 3) := by decide +kernel
theorem dL_lastsSo_221 : decode cL_lastsSo 221 = .ok (.iload 7, 2) := by decide +kernel
theorem dL_lastsSo_223 : decode cL_lastsSo 223 = .ok (.ifCond .eq 26, 3) := by decide +kernel
theorem dL_lastsSo_226 : decode cL_lastsSo 226 = .ok (.aload_n 0, 1) := by decide +kernel
theorem dL_lastsSo_227 : decode cL_lastsSo 227 = .ok (.invokevirtual 95, 3) := by decide +kernel
theorem dL_lastsSo_230 : decode cL_lastsSo 230 = .ok (.iload 5, 2) := by decide +kernel
theorem dL_lastsSo_232 : decode cL_lastsSo 232 = .ok (.if_icmp .ne 17, 3) := by decide +kernel
theorem dL_lastsSo_235 : decode cL_lastsSo 235 = .ok (.aload_n 0, 1) := by decide +kernel
theorem dL_lastsSo_236 : decode cL_lastsSo 236 = .ok (.iconst 1, 1) := by decide +kernel
theorem dL_lastsSo_237 : decode cL_lastsSo 237 = .ok (.invokevirtual 21, 3) := by decide +kernel
theorem dL_lastsSo_240 : decode cL_lastsSo 240 = .ok (.iload 4, 2) := by decide +kernel
theorem dL_lastsSo_242 : decode cL_lastsSo 242 = .ok (.if_icmp .ne 7, 3) := by decide +kernel
theorem dL_lastsSo_245 : decode cL_lastsSo 245 = .ok (.iconst 1, 1) := by decide +kernel
theorem dL_lastsSo_246 : decode cL_lastsSo 246 = .ok (.goto 4, 3) := by decide +kernel
theorem dL_lastsSo_249 : decode cL_lastsSo 249 = .ok (.iconst 0, 1) := by decide +kernel
theorem dL_lastsSo_250 : decode cL_lastsSo 250 = .ok (.ireturn, 1) := by decide +kernel
set_option maxRecDepth 20000 in
theorem ggL_isExchangeSo_X8_bestExchange : GoodIn wsL_isExchangeSo wsX8_bestExchange := goodIn_r _ [5, 6, 7, 4, 8, 9, 10, 11, 12, 13, 14, 15, 16, 17, 18, 19, 20, 21, 22, 23, 24, 25, 26, 27, 28, 29, 30, 31, 32, 33, 34, 35, 36, 37, 38, 39, 40, 41, 42, 43, 44, 45, 46, 47, 48, 49, 50, 51, 52, 53, 54, 55, 56, 57, 58, 59, 60, 61, 62, 63, 64, 65, 66, 67, 68, 69, 70, 71, 72, 73, 74, 75, 76, 77, 78, 79, 80, 81, 82, 83, 84, 85, 86, 87, 88, 89, 90, 91, 92, 93, 94, 95, 96, 97, 98, 99, 100, 101, 102, 103, 104, 105, 106, 107, 108, 109, 110, 111, 112, 113, 114, 115, 116, 117, 118, 119, 120, 121, 122, 123, 124, 125, 126, 127, 128, 129, 130, 131, 132, 133, 134, 135, 136, 137, 138, 139, 140, 141, 142, 143, 206, 207, 208, 209, 210, 211, 212, 213, 214, 215, 216, 217, 218, 219, 220, 221, 222, 223, 224, 225, 226, 227, 228, 229, 230] (by decide +kernel) (by decide +kernel)
set_option maxRecDepth 20000 in
theorem gL_isExchangeSo_X8_bestExchange : GoodIn wsL_isExchangeSo (wsV RL 98 RX8 yX8_bestExchange wsX8_bestExchange) := goodIn_app (goodIn_of _ (by decide +kernel)) ggL_isExchangeSo_X8_bestExchange
set_option maxRecDepth 20000 in
theorem ggL_isExchangeSo_X8_lasts : GoodIn wsL_isExchangeSo wsX8_lasts := goodIn_r _ [147, 6, 7, 4, 8, 9, 10, 11, 12, 13, 14, 15, 16, 17, 18, 19, 20, 21, 22, 23, 24, 25, 26, 27, 28, 29, 30, 31, 32, 33, 34, 35, 36, 37, 38, 39, 40, 41, 42, 43, 44, 45, 46, 47, 48, 49, 50, 51, 52, 53, 54, 55, 56, 57, 58, 59, 60, 61, 62, 63, 64, 65, 66, 67, 68, 69, 70, 71, 72, 73, 74, 75, 76, 77, 78, 79, 80, 81, 82, 83, 84, 85, 86, 87, 88, 89, 90, 91, 92, 93, 94, 95, 96, 97, 98, 99, 100, 101, 102, 103, 104, 105, 106, 107, 108, 109, 110, 111, 112, 113, 114, 115, 116, 117, 118, 119, 120, 121, 122, 123, 124, 125, 126, 127, 128, 129, 130, 131, 132, 133, 134, 135, 136, 137, 138, 139, 140, 141, 142, 143, 206, 207, 208, 209, 210, 211, 212, 213, 214, 215, 216, 217, 218, 219, 220, 221, 222, 223, 224, 225, 226, 227, 228, 229, 230] (by decide +kernel) (by decide +kernel)
set_option maxRecDepth 20000 in
theorem gL_isExchangeSo_X8_lasts : GoodIn wsL_isExchangeSo (wsV RL 89 RX8 yX8_lasts wsX8_lasts) := goodIn_app (goodIn_of _ (by decide +kernel)) ggL_isExchangeSo_X8_lasts
set_option maxRecDepth 20000 in
theorem ggL_isExchangeSo_X8_exchange : GoodIn wsL_isExchangeSo wsX8_exchange := goodIn_r _ [151, 152, 17, 18, 153, 154, 155, 50, 4, 51, 9, 10, 11, 156, 157, 158, 159, 160, 161, 162, 163, 164, 165, 166, 167, 168, 169, 170, 171, 172, 173, 174, 175, 176, 177, 178, 179, 180, 23, 24, 25, 26, 27, 28, 29, 30, 31, 32, 33, 34, 35, 36, 37, 38, 39, 40, 41, 42, 43, 44, 45, 181, 182, 183, 184, 185, 186, 187, 188, 189, 190, 191, 46, 47, 48, 49, 206, 207, 208, 209, 210, 211, 212, 213, 214, 215, 216, 217, 218, 219, 220, 221, 222, 223, 224, 225, 226, 227, 228, 229, 230, 231, 232, 233, 234, 235, 236, 237, 238] (by decide +kernel) (by decide +kernel)
set_option maxRecDepth 20000 in
theorem gL_isExchangeSo_X8_exchange : GoodIn wsL_isExchangeSo (wsV RL 33 RX8 yX8_exchange wsX8_exchange) := goodIn_app (goodIn_of _ (by decide +kernel)) ggL_isExchangeSo_X8_exchange
set_option maxRecDepth 20000 in
theorem ggL_isExchangeSo_X8_undo : GoodIn wsL_isExchangeSo wsX8_undo := goodIn_r _ [195, 152, 196, 17, 197, 198, 199, 159, 200, 161, 162, 167, 168, 169, 170, 171, 172, 173, 174, 175, 176, 177, 178, 179, 180, 23, 24, 25, 26, 27, 28, 29, 30, 31, 32, 33, 34, 35, 36, 37, 38, 39, 40, 41, 42, 43, 44, 45, 181, 182, 183, 184, 185, 186, 187, 188, 189, 190, 191, 206, 207, 208, 209, 210, 211, 231, 232, 212, 213, 214, 215, 216, 217, 218, 219, 220, 221, 222, 223, 224, 225, 226, 227, 228, 229, 230, 233, 234, 235, 236, 237, 238] (by decide +kernel) (by decide +kernel)
set_option maxRecDepth 20000 in
theorem gL_isExchangeSo_X8_undo : GoodIn wsL_isExchangeSo (wsV RL 76 RX8 yX8_undo wsX8_undo) := goodIn_app (goodIn_of _ (by decide +kernel)) ggL_isExchangeSo_X8_undo
set_option maxRecDepth 20000 in
theorem ggL_isExchangeSo_L_low : GoodIn wsL_isExchangeSo wsL_low := goodIn_r _ [204, 205] (by decide +kernel) (by decide +kernel)
set_option maxRecDepth 20000 in
theorem gL_isExchangeSo_L_low : GoodIn wsL_isExchangeSo (va_wsS RL 8 yL_low wsL_low) := goodIn_app (goodIn_of _ (by decide +kernel)) ggL_isExchangeSo_L_low
theorem dL_isExchangeSo_0 : decode cL_isExchangeSo 0 = .ok (.aload_n 0, 1) := by decide +kernel
theorem dL_isExchangeSo_1 : decode cL_isExchangeSo 1 = .ok (.iload_n 1, 1) := by decide +kernel
theorem dL_isExchangeSo_2 : decode cL_isExchangeSo 2 = .ok (.iload_n 2, 1) := by decide +kernel
theorem dL_isExchangeSo_3 : decode cL_isExchangeSo 3 = .ok (.invokevirtual 98, 3) := by decide +kernel
theorem dL_isExchangeSo_6 : decode cL_isExchangeSo 6 = .ok (.istore 4, 2) := by decide +kernel
theorem dL_isExchangeSo_8 : decode cL_isExchangeSo 8 = .ok (.aload_n 0, 1) := by decide +kernel
theorem dL_isExchangeSo_9 : decode cL_isExchangeSo 9 = .ok (.iload_n 1, 1) := by decide +kernel
theorem dL_isExchangeSo_10 : decode cL_isExchangeSo 10 = .ok (.iload_n 2, 1) := by decide +kernel
theorem dL_isExchangeSo_11 : decode cL_isExchangeSo 11 = .ok (.invokevirtual 89, 3) := by decide +kernel
theorem dL_isExchangeSo_14 : decode cL_isExchangeSo 14 = .ok (.istore 5, 2) := by decide +kernel
theorem dL_isExchangeSo_16 : decode cL_isExchangeSo 16 = .ok (.iload 5, 2) := by decide +kernel
theorem dL_isExchangeSo_18 : decode cL_isExchangeSo 18 = .ok (.bipush (-5), 2) := by decide +kernel
theorem dL_isExchangeSo_20 : decode cL_isExchangeSo 20 = .ok (.if_icmp .ne 9, 3) := by decide +kernel
theorem dL_isExchangeSo_23 : decode cL_isExchangeSo 23 = .ok (.sipush 999, 3) := by decide +kernel
theorem dL_isExchangeSo_26 : decode cL_isExchangeSo 26 = .ok (.goto 5, 3) := by decide +kernel
theorem dL_isExchangeSo_29 : decode cL_isExchangeSo 29 = .ok (.iload 5, 2) := by decide +kernel
theorem dL_isExchangeSo_31 : decode cL_isExchangeSo 31 = .ok (.istore 6, 2) := by decide +kernel
theorem dL_isExchangeSo_33 : decode cL_isExchangeSo 33 = .ok (.iload 4, 2) := by decide +kernel
theorem dL_isExchangeSo_35 : decode cL_isExchangeSo 35 = .ok (.bipush (-5), 2) := by decide +kernel
theorem dL_isExchangeSo_37 : decode cL_isExchangeSo 37 = .ok (.if_icmp .eq 33, 3) := by decide +kernel
theorem dL_isExchangeSo_40 : decode cL_isExchangeSo 40 = .ok (.iload 5, 2) := by decide +kernel
theorem dL_isExchangeSo_42 : decode cL_isExchangeSo 42 = .ok (.bipush (-5), 2) := by decide +kernel
theorem dL_isExchangeSo_44 : decode cL_isExchangeSo 44 = .ok (.if_icmp .eq 30, 3) := by decide +kernel
theorem dL_isExchangeSo_47 : decode cL_isExchangeSo 47 = .ok (.iload 4, 2) := by decide +kernel
theorem dL_isExchangeSo_49 : decode cL_isExchangeSo 49 = .ok (.bipush 10, 2) := by decide +kernel
theorem dL_isExchangeSo_51 : decode cL_isExchangeSo 51 = .ok (.idiv, 1) := by decide +kernel
theorem dL_isExchangeSo_52 : decode cL_isExchangeSo 52 = .ok (.iload 4, 2) := by decide +kernel
theorem dL_isExchangeSo_54 : decode cL_isExchangeSo 54 = .ok (.bipush 10, 2) := by decide +kernel
theorem dL_isExchangeSo_56 : decode cL_isExchangeSo 56 = .ok (.irem, 1) := by decide +kernel
theorem dL_isExchangeSo_57 : decode cL_isExchangeSo 57 = .ok (.if_icmp .ge 17, 3) := by decide +kernel
theorem dL_isExchangeSo_60 : decode cL_isExchangeSo 60 = .ok (.iload 4, 2) := by decide +kernel
theorem dL_isExchangeSo_62 : decode cL_isExchangeSo 62 = .ok (.bipush 10, 2) := by decide +kernel
theorem dL_isExchangeSo_64 : decode cL_isExchangeSo 64 = .ok (.irem, 1) := by decide +kernel
theorem dL_isExchangeSo_65 : decode cL_isExchangeSo 65 = .ok (.bipush 6, 2) := by decide +kernel
theorem dL_isExchangeSo_67 : decode cL_isExchangeSo 67 = .ok (.if_icmp .ge 7, 3) := by decide +kernel
theorem dL_isExchangeSo_70 : decode cL_isExchangeSo 70 = .ok (.iconst 1, 1) := by decide +kernel
theorem dL_isExchangeSo_71 : decode cL_isExchangeSo 71 = .ok (.goto 4, 3) := by decide +kernel
theorem dL_isExchangeSo_74 : decode cL_isExchangeSo 74 = .ok (.iconst 0, 1) := by decide +kernel
theorem dL_isExchangeSo_75 : decode cL_isExchangeSo 75 = .ok (.istore 7, 2) := by decide +kernel
theorem dL_isExchangeSo_77 : decode cL_isExchangeSo 77 = .ok (.iload 6, 2) := by decide +kernel
theorem dL_isExchangeSo_79 : decode cL_isExchangeSo 79 = .ok (.istore 8, 2) := by decide +kernel
theorem dL_isExchangeSo_81 : decode cL_isExchangeSo 81 = .ok (.iload 4, 2) := by decide +kernel
theorem dL_isExchangeSo_83 : decode cL_isExchangeSo 83 = .ok (.ifCond .lt 74, 3) := by decide +kernel
theorem dL_isExchangeSo_86 : decode cL_isExchangeSo 86 = .ok (.aload_n 0, 1) := by decide +kernel
theorem dL_isExchangeSo_87 : decode cL_isExchangeSo 87 = .ok (.iload 4, 2) := by decide +kernel
theorem dL_isExchangeSo_89 : decode cL_isExchangeSo 89 = .ok (.bipush 10, 2) := by decide +kernel
theorem dL_isExchangeSo_91 : decode cL_isExchangeSo 91 = .ok (.idiv, 1) := by decide +kernel
theorem dL_isExchangeSo_92 : decode cL_isExchangeSo 92 = .ok (.iload 4, 2) := by decide +kernel
theorem dL_isExchangeSo_94 : decode cL_isExchangeSo 94 = .ok (.bipush 10, 2) := by decide +kernel
theorem dL_isExchangeSo_96 : decode cL_isExchangeSo 96 = .ok (.irem, 1) := by decide +kernel
theorem dL_isExchangeSo_97 : decode cL_isExchangeSo 97 = .ok (.invokevirtual 33, 3) := by decide +kernel
theorem dL_isExchangeSo_100 : decode cL_isExchangeSo 100 = .ok (.istore 9, 2) := by decide +kernel
theorem dL_isExchangeSo_102 : decode cL_isExchangeSo 102 = .ok (.aload_n 0, 1) := by decide +kernel
theorem dL_isExchangeSo_103 : decode cL_isExchangeSo 103 = .ok (.iload_n 1, 1) := by decide +kernel
theorem dL_isExchangeSo_104 : decode cL_isExchangeSo 104 = .ok (.iload_n 2, 1) := by decide +kernel
theorem dL_isExchangeSo_105 : decode cL_isExchangeSo 105 = .ok (.invokevirtual 89, 3) := by decide +kernel
theorem dL_isExchangeSo_108 : decode cL_isExchangeSo 108 = .ok (.istore 8, 2) := by decide +kernel
theorem dL_isExchangeSo_110 : decode cL_isExchangeSo 110 = .ok (.iload 8, 2) := by decide +kernel
theorem dL_isExchangeSo_112 : decode cL_isExchangeSo 112 = .ok (.bipush (-5), 2) := by decide +kernel
theorem dL_isExchangeSo_114 : decode cL_isExchangeSo 114 = .ok (.if_icmp .ne 9, 3) := by decide +kernel
theorem dL_isExchangeSo_117 : decode cL_isExchangeSo 117 = .ok (.sipush 999, 3) := by decide +kernel
theorem dL_isExchangeSo_120 : decode cL_isExchangeSo 120 = .ok (.goto 5, 3) := by decide +kernel
theorem dL_isExchangeSo_123 : decode cL_isExchangeSo 123 = .ok (.iload 8, 2) := by decide +kernel
theorem dL_isExchangeSo_125 : decode cL_isExchangeSo 125 = .ok (.istore 8, 2) := by decide +kernel
theorem dL_isExchangeSo_127 : decode cL_isExchangeSo 127 = .ok (.iload 7, 2) := by decide +kernel
theorem dL_isExchangeSo_129 : decode cL_isExchangeSo 129 = .ok (.ifCond .eq 19, 3) := by decide +kernel
theorem dL_isExchangeSo_132 : decode cL_isExchangeSo 132 = .ok (.iload 9, 2) := by decide +kernel
theorem dL_isExchangeSo_134 : decode cL_isExchangeSo 134 = .ok (.ifCond .lt 14, 3) := by decide +kernel
theorem dL_isExchangeSo_137 : decode cL_isExchangeSo 137 = .ok (.iload 8, 2) := by decide +kernel
theorem dL_isExchangeSo_139 : decode cL_isExchangeSo 139 = .ok (.iload 6, 2) := by decide +kernel
theorem dL_isExchangeSo_141 : decode cL_isExchangeSo 141 = .ok (.if_icmp .le 7, 3) := by decide +kernel
theorem dL_isExchangeSo_144 : decode cL_isExchangeSo 144 = .ok (.iconst 1, 1) := by decide +kernel
theorem dL_isExchangeSo_145 : decode cL_isExchangeSo 145 = .ok (.goto 4, 3) := by decide +kernel
theorem dL_isExchangeSo_148 : decode cL_isExchangeSo 148 = .ok (.iconst 0, 1) := by decide +kernel
theorem dL_isExchangeSo_149 : decode cL_isExchangeSo 149 = .ok (.istore 7, 2) := by decide +kernel
theorem dL_isExchangeSo_151 : decode cL_isExchangeSo 151 = .ok (.aload_n 0, 1) := by decide +kernel
theorem dL_isExchangeSo_152 : decode cL_isExchangeSo 152 = .ok (.invokevirtual 76, 3) := by decide +kernel
theorem dL_isExchangeSo_155 : decode cL_isExchangeSo 155 = .ok (.istore 9, 2) := by decide +kernel
theorem dL_isExchangeSo_157 : decode cL_isExchangeSo 157 = .ok (.iload_n 3, 1) := by decide +kernel
theorem dL_isExchangeSo_158 : decode cL_isExchangeSo 158 = .ok (.iconst 5, 1) := by decide +kernel
theorem dL_isExchangeSo_159 : decode cL_isExchangeSo 159 = .ok (.invokestatic 8, 3) := by decide +kernel
theorem dL_isExchangeSo_162 : decode cL_isExchangeSo 162 = .ok (.istore 9, 2) := by decide +kernel
theorem dL_isExchangeSo_164 : decode cL_isExchangeSo 164 = .ok (.iload 9, 2) := by decide +kernel
theorem dL_isExchangeSo_166 : decode cL_isExchangeSo 166 = .ok (.iconst 1, 1) := by decide +kernel
theorem dL_isExchangeSo_167 : decode cL_isExchangeSo 167 = .ok (.iadd, 1) := by decide +kernel
theorem dL_isExchangeSo_168 : decode cL_isExchangeSo 168 = .ok (.iload_n 3, 1) := by decide +kernel
theorem dL_isExchangeSo_169 : decode cL_isExchangeSo 169 = .ok (.iconst 3, 1) := by decide +kernel
theorem dL_isExchangeSo_170 : decode cL_isExchangeSo 170 = .ok (.ishr, 1) := by decide +kernel
theorem dL_isExchangeSo_171 : decode cL_isExchangeSo 171 = .ok (.iconst 5, 1) := by decide +kernel
theorem dL_isExchangeSo_172 : decode cL_isExchangeSo 172 = .ok (.iload 9, 2) := by decide +kernel
theorem dL_isExchangeSo_174 : decode cL_isExchangeSo 174 = .ok (.isub, 1) := by decide +kernel
theorem dL_isExchangeSo_175 : decode cL_isExchangeSo 175 = .ok (.invokestatic 8, 3) := by decide +kernel
theorem dL_isExchangeSo_178 : decode cL_isExchangeSo 178 = .ok (.iadd, 1) := by decide +kernel
theorem dL_isExchangeSo_179 : decode cL_isExchangeSo 179 = .ok (.istore 10, 2) := by decide +kernel
theorem dL_isExchangeSo_181 : decode cL_isExchangeSo 181 = .ok (.aload_n 0, 1) := by decide +kernel
theorem dL_isExchangeSo_182 : decode cL_isExchangeSo 182 = .ok (.iload 9, 2) := by decide +kernel
theorem dL_isExchangeSo_184 : decode cL_isExchangeSo 184 = .ok (.iload 10, 2) := by decide +kernel
theorem dL_isExchangeSo_186 : decode cL_isExchangeSo 186 = .ok (.invokevirtual 33, 3) := by decide +kernel
theorem dL_isExchangeSo_189 : decode cL_isExchangeSo 189 = .ok (.istore 11, 2) := by decide +kernel
theorem dL_isExchangeSo_191 : decode cL_isExchangeSo 191 = .ok (.aload_n 0, 1) := by decide +kernel
theorem dL_isExchangeSo_192 : decode cL_isExchangeSo 192 = .ok (.iload_n 1, 1) := by decide +kernel
theorem dL_isExchangeSo_193 : decode cL_isExchangeSo 193 = .ok (.iload_n 2, 1) := by decide +kernel
theorem dL_isExchangeSo_194 : decode cL_isExchangeSo 194 = .ok (.invokevirtual 89, 3) := by decide +kernel
theorem dL_isExchangeSo_197 : decode cL_isExchangeSo 197 = .ok (.istore 12, 2) := by decide +kernel
theorem dL_isExchangeSo_199 : decode cL_isExchangeSo 199 = .ok (.iload 12, 2) := by decide +kernel
theorem dL_isExchangeSo_201 : decode cL_isExchangeSo 201 = .ok (.bipush (-5), 2) := by decide +kernel
theorem dL_isExchangeSo_203 : decode cL_isExchangeSo 203 = .ok (.if_icmp .ne 9, 3) := by decide +kernel
theorem dL_isExchangeSo_206 : decode cL_isExchangeSo 206 = .ok (.sipush 999, 3) := by decide +kernel
theorem dL_isExchangeSo_209 : decode cL_isExchangeSo 209 = .ok (.goto 5, 3) := by decide +kernel
theorem dL_isExchangeSo_212 : decode cL_isExchangeSo 212 = .ok (.iload 12, 2) := by decide +kernel
theorem dL_isExchangeSo_214 : decode cL_isExchangeSo 214 = .ok (.istore 12, 2) := by decide +kernel
theorem dL_isExchangeSo_216 : decode cL_isExchangeSo 216 = .ok (.iload 7, 2) := by decide +kernel
theorem dL_isExchangeSo_218 : decode cL_isExchangeSo 218 = .ok (.ifCond .eq 44, 3) := by decide +kernel
theorem dL_isExchangeSo_221 : decode cL_isExchangeSo 221 = .ok (.iload 11, 2) := by decide +kernel
theorem dL_isExchangeSo_223 : decode cL_isExchangeSo 223 = .ok (.ifCond .lt 39, 3) := by decide +kernel
theorem dL_isExchangeSo_226 : decode cL_isExchangeSo 226 = .ok (.iload 12, 2) := by decide +kernel
theorem dL_isExchangeSo_228 : decode cL_isExchangeSo 228 = .ok (.iload 8, 2) := by decide +kernel
theorem dL_isExchangeSo_230 : decode cL_isExchangeSo 230 = .ok (.if_icmp .lt 28, 3) := by decide +kernel
theorem dL_isExchangeSo_233 : decode cL_isExchangeSo 233 = .ok (.iload 12, 2) := by decide +kernel
theorem dL_isExchangeSo_235 : decode cL_isExchangeSo 235 = .ok (.iload 8, 2) := by decide +kernel
theorem dL_isExchangeSo_237 : decode cL_isExchangeSo 237 = .ok (.if_icmp .ne 25, 3) := by decide +kernel
theorem dL_isExchangeSo_240 : decode cL_isExchangeSo 240 = .ok (.iload 4, 2) := by decide +kernel
theorem dL_isExchangeSo_242 : decode cL_isExchangeSo 242 = .ok (.ifCond .lt 16, 3) := by decide +kernel
theorem dL_isExchangeSo_245 : decode cL_isExchangeSo 245 = .ok (.bipush 10, 2) := by decide +kernel
theorem dL_isExchangeSo_247 : decode cL_isExchangeSo 247 = .ok (.iload 9, 2) := by decide +kernel
theorem dL_isExchangeSo_249 : decode cL_isExchangeSo 249 = .ok (.imul, 1) := by decide +kernel
theorem dL_isExchangeSo_250 : decode cL_isExchangeSo 250 = .ok (.iload 10, 2) := by decide +kernel
theorem dL_isExchangeSo_252 : decode cL_isExchangeSo 252 = .ok (.iadd, 1) := by decide +kernel
theorem dL_isExchangeSo_253 : decode cL_isExchangeSo 253 = .ok (.iload 4, 2) := by decide +kernel
theorem dL_isExchangeSo_255 : decode cL_isExchangeSo 255 = .ok (.if_icmp .lt 7, 3) := by decide +kernel
theorem dL_isExchangeSo_258 : decode cL_isExchangeSo 258 = .ok (.iconst 1, 1) := by decide +kernel
theorem dL_isExchangeSo_259 : decode cL_isExchangeSo 259 = .ok (.goto 4, 3) := by decide +kernel
theorem dL_isExchangeSo_262 : decode cL_isExchangeSo 262 = .ok (.iconst 0, 1) := by decide +kernel
theorem dL_isExchangeSo_263 : decode cL_isExchangeSo 263 = .ok (.istore 7, 2) := by decide +kernel
theorem dL_isExchangeSo_265 : decode cL_isExchangeSo 265 = .ok (.aload_n 0, 1) := by decide +kernel
theorem dL_isExchangeSo_266 : decode cL_isExchangeSo 266 = .ok (.invokevirtual 76, 3) := by decide +kernel
theorem dL_isExchangeSo_269 : decode cL_isExchangeSo 269 = .ok (.istore 11, 2) := by decide +kernel
theorem dL_isExchangeSo_271 : decode cL_isExchangeSo 271 = .ok (.iload 7, 2) := by decide +kernel
theorem dL_isExchangeSo_273 : decode cL_isExchangeSo 273 = .ok (.ifCond .eq 12, 3) := by decide +kernel
theorem dL_isExchangeSo_276 : decode cL_isExchangeSo 276 = .ok (.iload 11, 2) := by decide +kernel
theorem dL_isExchangeSo_278 : decode cL_isExchangeSo 278 = .ok (.ifCond .lt 7, 3) := by decide +kernel
theorem dL_isExchangeSo_281 : decode cL_isExchangeSo 281 = .ok (.iconst 1, 1) := by decide +kernel
theorem dL_isExchangeSo_282 : decode cL_isExchangeSo 282 = .ok (.goto 4, 3) := by decide +kernel
theorem dL_isExchangeSo_285 : decode cL_isExchangeSo 285 = .ok (.iconst 0, 1) := by decide +kernel
theorem dL_isExchangeSo_286 : decode cL_isExchangeSo 286 = .ok (.ireturn, 1) := by decide +kernel
theorem dL_law_0 : decode cL_law 0 = .ok (.new 15, 3) := by decide +kernel
theorem dL_law_3 : decode cL_law 3 = .ok (.dup, 1) := by decide +kernel
theorem dL_law_4 : decode cL_law 4 = .ok (.invokespecial 101, 3) := by decide +kernel
theorem dL_law_7 : decode cL_law 7 = .ok (.astore_n 1, 1) := by decide +kernel
theorem dL_law_8 : decode cL_law 8 = .ok (.iconst 0, 1) := by decide +kernel
theorem dL_law_9 : decode cL_law 9 = .ok (.istore_n 2, 1) := by decide +kernel
theorem dL_law_10 : decode cL_law 10 = .ok (.iload_n 2, 1) := by decide +kernel
theorem dL_law_11 : decode cL_law 11 = .ok (.bipush 48, 2) := by decide +kernel
theorem dL_law_13 : decode cL_law 13 = .ok (.if_icmp .ge 172, 3) := by decide +kernel
theorem dL_law_16 : decode cL_law 16 = .ok (.aload_n 0, 1) := by decide +kernel
theorem dL_law_17 : decode cL_law 17 = .ok (.iload_n 2, 1) := by decide +kernel
theorem dL_law_18 : decode cL_law 18 = .ok (.invokestatic 102, 3) := by decide +kernel
theorem dL_law_21 : decode cL_law 21 = .ok (.istore_n 3, 1) := by decide +kernel
theorem dL_law_22 : decode cL_law 22 = .ok (.aload_n 1, 1) := by decide +kernel
theorem dL_law_23 : decode cL_law 23 = .ok (.iload_n 3, 1) := by decide +kernel
theorem dL_law_24 : decode cL_law 24 = .ok (.invokestatic 106, 3) := by decide +kernel
theorem dL_law_27 : decode cL_law 27 = .ok (.istore 4, 2) := by decide +kernel
theorem dL_law_29 : decode cL_law 29 = .ok (.iload 4, 2) := by decide +kernel
theorem dL_law_31 : decode cL_law 31 = .ok (.ifCond .lt 146, 3) := by decide +kernel
theorem dL_law_34 : decode cL_law 34 = .ok (.aload_n 1, 1) := by decide +kernel
theorem dL_law_35 : decode cL_law 35 = .ok (.invokestatic 110, 3) := by decide +kernel
theorem dL_law_38 : decode cL_law 38 = .ok (.ifCond .eq 139, 3) := by decide +kernel
theorem dL_law_41 : decode cL_law 41 = .ok (.aload_n 1, 1) := by decide +kernel
theorem dL_law_42 : decode cL_law 42 = .ok (.iload_n 3, 1) := by decide +kernel
theorem dL_law_43 : decode cL_law 43 = .ok (.iconst 2, 1) := by decide +kernel
theorem dL_law_44 : decode cL_law 44 = .ok (.ishr, 1) := by decide +kernel
theorem dL_law_45 : decode cL_law 45 = .ok (.ldc 20, 2) := by decide +kernel
theorem dL_law_47 : decode cL_law 47 = .ok (.invokestatic 8, 3) := by decide +kernel
theorem dL_law_50 : decode cL_law 50 = .ok (.invokestatic 114, 3) := by decide +kernel
theorem dL_law_53 : decode cL_law 53 = .ok (.ifCond .eq 124, 3) := by decide +kernel
theorem dL_law_56 : decode cL_law 56 = .ok (.aload_n 1, 1) := by decide +kernel
theorem dL_law_57 : decode cL_law 57 = .ok (.iload_n 3, 1) := by decide +kernel
theorem dL_law_58 : decode cL_law 58 = .ok (.iconst 1, 1) := by decide +kernel
theorem dL_law_59 : decode cL_law 59 = .ok (.ishr, 1) := by decide +kernel
theorem dL_law_60 : decode cL_law 60 = .ok (.ldc 20, 2) := by decide +kernel
theorem dL_law_62 : decode cL_law 62 = .ok (.invokestatic 8, 3) := by decide +kernel
theorem dL_law_65 : decode cL_law 65 = .ok (.invokestatic 118, 3) := by decide +kernel
theorem dL_law_68 : decode cL_law 68 = .ok (.ifCond .eq 109, 3) := by decide +kernel
theorem dL_law_71 : decode cL_law 71 = .ok (.aload_n 1, 1) := by decide +kernel
theorem dL_law_72 : decode cL_law 72 = .ok (.iconst 1, 1) := by decide +kernel
theorem dL_law_73 : decode cL_law 73 = .ok (.iload_n 3, 1) := by decide +kernel
theorem dL_law_74 : decode cL_law 74 = .ok (.iconst 5, 1) := by decide +kernel
theorem dL_law_75 : decode cL_law 75 = .ok (.ishr, 1) := by decide +kernel
theorem dL_law_76 : decode cL_law 76 = .ok (.bipush 9, 2) := by decide +kernel
theorem dL_law_78 : decode cL_law 78 = .ok (.invokestatic 8, 3) := by decide +kernel
theorem dL_law_81 : decode cL_law 81 = .ok (.iadd, 1) := by decide +kernel
theorem dL_law_82 : decode cL_law 82 = .ok (.invokestatic 121, 3) := by decide +kernel
theorem dL_law_85 : decode cL_law 85 = .ok (.ifCond .eq 92, 3) := by decide +kernel
theorem dL_law_88 : decode cL_law 88 = .ok (.iload_n 2, 1) := by decide +kernel
theorem dL_law_89 : decode cL_law 89 = .ok (.bipush 6, 2) := by decide +kernel
theorem dL_law_91 : decode cL_law 91 = .ok (.irem, 1) := by decide +kernel
theorem dL_law_92 : decode cL_law 92 = .ok (.iconst 3, 1) := by decide +kernel
theorem dL_law_93 : decode cL_law 93 = .ok (.if_icmp .ne 10, 3) := by decide +kernel
theorem dL_law_96 : decode cL_law 96 = .ok (.aload_n 1, 1) := by decide +kernel
theorem dL_law_97 : decode cL_law 97 = .ok (.invokestatic 124, 3) := by decide +kernel
theorem dL_law_100 : decode cL_law 100 = .ok (.ifCond .eq 77, 3) := by decide +kernel
theorem dL_law_103 : decode cL_law 103 = .ok (.iload_n 2, 1) := by decide +kernel
theorem dL_law_104 : decode cL_law 104 = .ok (.bipush 6, 2) := by decide +kernel
theorem dL_law_106 : decode cL_law 106 = .ok (.irem, 1) := by decide +kernel
theorem dL_law_107 : decode cL_law 107 = .ok (.iconst 5, 1) := by decide +kernel
theorem dL_law_108 : decode cL_law 108 = .ok (.if_icmp .ne 30, 3) := by decide +kernel
theorem dL_law_111 : decode cL_law 111 = .ok (.aload_n 1, 1) := by decide +kernel
theorem dL_law_112 : decode cL_law 112 = .ok (.iconst 1, 1) := by decide +kernel
theorem dL_law_113 : decode cL_law 113 = .ok (.iload_n 3, 1) := by decide +kernel
theorem dL_law_114 : decode cL_law 114 = .ok (.iconst 4, 1) := by decide +kernel
theorem dL_law_115 : decode cL_law 115 = .ok (.ishr, 1) := by decide +kernel
theorem dL_law_116 : decode cL_law 116 = .ok (.bipush 9, 2) := by decide +kernel
theorem dL_law_118 : decode cL_law 118 = .ok (.invokestatic 8, 3) := by decide +kernel
theorem dL_law_121 : decode cL_law 121 = .ok (.iadd, 1) := by decide +kernel
theorem dL_law_122 : decode cL_law 122 = .ok (.iconst 1, 1) := by decide +kernel
theorem dL_law_123 : decode cL_law 123 = .ok (.iload_n 3, 1) := by decide +kernel
theorem dL_law_124 : decode cL_law 124 = .ok (.bipush 7, 2) := by decide +kernel
theorem dL_law_126 : decode cL_law 126 = .ok (.ishr, 1) := by decide +kernel
theorem dL_law_127 : decode cL_law 127 = .ok (.iconst 4, 1) := by decide +kernel
theorem dL_law_128 : decode cL_law 128 = .ok (.invokestatic 8, 3) := by decide +kernel
theorem dL_law_131 : decode cL_law 131 = .ok (.iadd, 1) := by decide +kernel
theorem dL_law_132 : decode cL_law 132 = .ok (.invokestatic 127, 3) := by decide +kernel
theorem dL_law_135 : decode cL_law 135 = .ok (.ifCond .eq 42, 3) := by decide +kernel
theorem dL_law_138 : decode cL_law 138 = .ok (.iload_n 2, 1) := by decide +kernel
theorem dL_law_139 : decode cL_law 139 = .ok (.bipush 24, 2) := by decide +kernel
theorem dL_law_141 : decode cL_law 141 = .ok (.irem, 1) := by decide +kernel
theorem dL_law_142 : decode cL_law 142 = .ok (.bipush 11, 2) := by decide +kernel
theorem dL_law_144 : decode cL_law 144 = .ok (.if_icmp .ne 35, 3) := by decide +kernel
theorem dL_law_147 : decode cL_law 147 = .ok (.aload_n 1, 1) := by decide +kernel
theorem dL_law_148 : decode cL_law 148 = .ok (.iconst 1, 1) := by decide +kernel
theorem dL_law_149 : decode cL_law 149 = .ok (.iload_n 3, 1) := by decide +kernel
theorem dL_law_150 : decode cL_law 150 = .ok (.bipush 6, 2) := by decide +kernel
theorem dL_law_152 : decode cL_law 152 = .ok (.ishr, 1) := by decide +kernel
theorem dL_law_153 : decode cL_law 153 = .ok (.bipush 9, 2) := by decide +kernel
theorem dL_law_155 : decode cL_law 155 = .ok (.invokestatic 8, 3) := by decide +kernel
theorem dL_law_158 : decode cL_law 158 = .ok (.iadd, 1) := by decide +kernel
theorem dL_law_159 : decode cL_law 159 = .ok (.iconst 1, 1) := by decide +kernel
theorem dL_law_160 : decode cL_law 160 = .ok (.iload_n 3, 1) := by decide +kernel
theorem dL_law_161 : decode cL_law 161 = .ok (.iconst 3, 1) := by decide +kernel
theorem dL_law_162 : decode cL_law 162 = .ok (.ishr, 1) := by decide +kernel
theorem dL_law_163 : decode cL_law 163 = .ok (.iconst 3, 1) := by decide +kernel
theorem dL_law_164 : decode cL_law 164 = .ok (.invokestatic 8, 3) := by decide +kernel
theorem dL_law_167 : decode cL_law 167 = .ok (.iadd, 1) := by decide +kernel
theorem dL_law_168 : decode cL_law 168 = .ok (.iload_n 3, 1) := by decide +kernel
theorem dL_law_169 : decode cL_law 169 = .ok (.iconst 5, 1) := by decide +kernel
theorem dL_law_170 : decode cL_law 170 = .ok (.ishr, 1) := by decide +kernel
theorem dL_law_171 : decode cL_law 171 = .ok (.invokestatic 131, 3) := by decide +kernel
theorem dL_law_174 : decode cL_law 174 = .ok (.ifCond .ne 5, 3) := by decide +kernel
theorem dL_law_177 : decode cL_law 177 = .ok (.iconst 0, 1) := by decide +kernel
theorem dL_law_178 : decode cL_law 178 = .ok (.ireturn, 1) := by decide +kernel
theorem dL_law_179 : decode cL_law 179 = .ok (.iinc 2 1, 3) := by decide +kernel
theorem dL_law_182 : decode cL_law 182 = .ok (.goto (-172), 3) := by decide +kernel
theorem dL_law_185 : decode cL_law 185 = .ok (.iconst 1, 1) := by decide +kernel
theorem dL_law_186 : decode cL_law 186 = .ok (.ireturn, 1) := by decide +kernel
