theorem dL_isDateSo_30 : decode cL_isDateSo 30 = .ok (.iload 5, 2) := by decide +kernel
theorem dL_isDateSo_32 : decode cL_isDateSo 32 = .ok (.sipush 10000, 3) := by decide +kernel
theorem dL_isDateSo_35 : decode cL_isDateSo 35 = .ok (.iload_n 2, 1) := by decide +kernel
theorem dL_isDateSo_36 : decode cL_isDateSo 36 = .ok (.imul, 1) := by decide +kernel
theorem dL_isDateSo_37 : decode cL_isDateSo 37 = .ok (.bipush 100, 2) := by decide +kernel
theorem dL_isDateSo_39 : decode cL_isDateSo 39 = .ok (.iload_n 3, 1) := by decide +kernel
theorem dL_isDateSo_40 : decode cL_isDateSo 40 = .ok (.imul, 1) := by decide +kernel
theorem dL_isDateSo_41 : decode cL_isDateSo 41 = .ok (.iadd, 1) := by decide +kernel
theorem dL_isDateSo_42 : decode cL_isDateSo 42 = .ok (.iload 4, 2) := by decide +kernel
theorem dL_isDateSo_44 : decode cL_isDateSo 44 = .ok (.iadd, 1) := by decide +kernel
theorem dL_isDateSo_45 : decode cL_isDateSo 45 = .ok (.if_icmp .ne 28, 3) := by decide +kernel
theorem dL_isDateSo_48 : decode cL_isDateSo 48 = .ok (.aload_n 0, 1) := by decide +kernel
theorem dL_isDateSo_49 : decode cL_isDateSo 49 = .ok (.iload 5, 2) := by decide +kernel
theorem dL_isDateSo_51 : decode cL_isDateSo 51 = .ok (.invokevirtual 54, 3) := by decide +kernel
theorem dL_isDateSo_54 : decode cL_isDateSo 54 = .ok (.iload_n 1, 1) := by decide +kernel
theorem dL_isDateSo_55 : decode cL_isDateSo 55 = .ok (.if_icmp .ne 18, 3) := by decide +kernel
theorem dL_isDateSo_58 : decode cL_isDateSo 58 = .ok (.iload_n 3, 1) := by decide +kernel
theorem dL_isDateSo_59 : decode cL_isDateSo 59 = .ok (.iconst 1, 1) := by decide +kernel
theorem dL_isDateSo_60 : decode cL_isDateSo 60 = .ok (.if_icmp .lt 13, 3) := by decide +kernel
theorem dL_isDateSo_63 : decode cL_isDateSo 63 = .ok (.iload_n 3, 1) := by decide +kernel
theorem dL_isDateSo_64 : decode cL_isDateSo 64 = .ok (.bipush 12, 2) := by decide +kernel
theorem dL_isDateSo_66 : decode cL_isDateSo 66 = .ok (.if_icmp .gt 7, 3) := by decide +kernel
theorem dL_isDateSo_69 : decode cL_isDateSo 69 = .ok (.iconst 1, 1) := by decide +kernel
theorem dL_isDateSo_70 : decode cL_isDateSo 70 = .ok (.goto 4, 3) := by decide +kernel
theorem dL_isDateSo_73 : decode cL_isDateSo 73 = .ok (.iconst 0, 1) := by decide +kernel
theorem dL_isDateSo_74 : decode cL_isDateSo 74 = .ok (.istore 6, 2) := by decide +kernel
theorem dL_isDateSo_76 : decode cL_isDateSo 76 = .ok (.iload_n 1, 1) := by decide +kernel
theorem dL_isDateSo_77 : decode cL_isDateSo 77 = .ok (.ldc 57, 2) := by decide +kernel
theorem dL_isDateSo_79 : decode cL_isDateSo 79 = .ok (.if_icmp .ge 104, 3) := by decide +kernel
theorem dL_isDateSo_82 : decode cL_isDateSo 82 = .ok (.aload_n 0, 1) := by decide +kernel
theorem dL_isDateSo_83 : decode cL_isDateSo 83 = .ok (.iload_n 1, 1) := by decide +kernel
theorem dL_isDateSo_84 : decode cL_isDateSo 84 = .ok (.iconst 1, 1) := by decide +kernel
theorem dL_isDateSo_85 : decode cL_isDateSo 85 = .ok (.iadd, 1) := by decide +kernel
theorem dL_isDateSo_86 : decode cL_isDateSo 86 = .ok (.iconst 3, 1) := by decide +kernel
theorem dL_isDateSo_87 : decode cL_isDateSo 87 = .ok (.invokevirtual 51, 3) := by decide +kernel
theorem dL_isDateSo_90 : decode cL_isDateSo 90 = .ok (.istore 7, 2) := by decide +kernel
theorem dL_isDateSo_92 : decode cL_isDateSo 92 = .ok (.iload 7, 2) := by decide +kernel
theorem dL_isDateSo_94 : decode cL_isDateSo 94 = .ok (.iload 5, 2) := by decide +kernel
theorem dL_isDateSo_96 : decode cL_isDateSo 96 = .ok (.sipush 10000, 3) := by decide +kernel
theorem dL_isDateSo_99 : decode cL_isDateSo 99 = .ok (.iadd, 1) := by decide +kernel
theorem dL_isDateSo_100 : decode cL_isDateSo 100 = .ok (.if_icmp .eq 59, 3) := by decide +kernel
theorem dL_isDateSo_103 : decode cL_isDateSo 103 = .ok (.iload 7, 2) := by decide +kernel
theorem dL_isDateSo_105 : decode cL_isDateSo 105 = .ok (.sipush 10000, 3) := by decide +kernel
theorem dL_isDateSo_108 : decode cL_isDateSo 108 = .ok (.idiv, 1) := by decide +kernel
theorem dL_isDateSo_109 : decode cL_isDateSo 109 = .ok (.iconst 1, 1) := by decide +kernel
theorem dL_isDateSo_110 : decode cL_isDateSo 110 = .ok (.if_icmp .ne 53, 3) := by decide +kernel
theorem dL_isDateSo_113 : decode cL_isDateSo 113 = .ok (.iload_n 2, 1) := by decide +kernel
theorem dL_isDateSo_114 : decode cL_isDateSo 114 = .ok (.bipush 28, 2) := by decide +kernel
theorem dL_isDateSo_116 : decode cL_isDateSo 116 = .ok (.if_icmp .lt 47, 3) := by decide +kernel
theorem dL_isDateSo_119 : decode cL_isDateSo 119 = .ok (.iload 7, 2) := by decide +kernel
theorem dL_isDateSo_121 : decode cL_isDateSo 121 = .ok (.sipush 10000, 3) := by decide +kernel
theorem dL_isDateSo_124 : decode cL_isDateSo 124 = .ok (.irem, 1) := by decide +kernel
theorem dL_isDateSo_125 : decode cL_isDateSo 125 = .ok (.bipush 100, 2) := by decide +kernel
theorem dL_isDateSo_127 : decode cL_isDateSo 127 = .ok (.iload_n 3, 1) := by decide +kernel
theorem dL_isDateSo_128 : decode cL_isDateSo 128 = .ok (.iconst 1, 1) := by decide +kernel
theorem dL_isDateSo_129 : decode cL_isDateSo 129 = .ok (.iadd, 1) := by decide +kernel
theorem dL_isDateSo_130 : decode cL_isDateSo 130 = .ok (.imul, 1) := by decide +kernel
theorem dL_isDateSo_131 : decode cL_isDateSo 131 = .ok (.iload 4, 2) := by decide +kernel
theorem dL_isDateSo_133 : decode cL_isDateSo 133 = .ok (.iadd, 1) := by decide +kernel
theorem dL_isDateSo_134 : decode cL_isDateSo 134 = .ok (.if_icmp .eq 25, 3) := by decide +kernel
theorem dL_isDateSo_137 : decode cL_isDateSo 137 = .ok (.iload_n 3, 1) := by decide +kernel
theorem dL_isDateSo_138 : decode cL_isDateSo 138 = .ok (.bipush 12, 2) := by decide +kernel
theorem dL_isDateSo_140 : decode cL_isDateSo 140 = .ok (.if_icmp .ne 23, 3) := by decide +kernel
theorem dL_isDateSo_143 : decode cL_isDateSo 143 = .ok (.iload 7, 2) := by decide +kernel
theorem dL_isDateSo_145 : decode cL_isDateSo 145 = .ok (.sipush 10000, 3) := by decide +kernel
theorem dL_isDateSo_148 : decode cL_isDateSo 148 = .ok (.irem, 1) := by decide +kernel
theorem dL_isDateSo_149 : decode cL_isDateSo 149 = .ok (.bipush 100, 2) := by decide +kernel
theorem dL_isDateSo_151 : decode cL_isDateSo 151 = .ok (.iload 4, 2) := by decide +kernel
theorem dL_isDateSo_153 : decode cL_isDateSo 153 = .ok (.iadd, 1) := by decide +kernel
theorem dL_isDateSo_154 : decode cL_isDateSo 154 = .ok (.iconst 1, 1) := by decide +kernel
theorem dL_isDateSo_155 : decode cL_isDateSo 155 = .ok (.iadd, 1) := by decide +kernel
theorem dL_isDateSo_156 : decode cL_isDateSo 156 = .ok (.if_icmp .ne 7, 3) := by decide +kernel
theorem dL_isDateSo_159 : decode cL_isDateSo 159 = .ok (.iconst 1, 1) := by decide +kernel
theorem dL_isDateSo_160 : decode cL_isDateSo 160 = .ok (.goto 4, 3) := by decide +kernel
theorem dL_isDateSo_163 : decode cL_isDateSo 163 = .ok (.iconst 0, 1) := by decide +kernel
theorem dL_isDateSo_164 : decode cL_isDateSo 164 = .ok (.istore 8, 2) := by decide +kernel
theorem dL_isDateSo_166 : decode cL_isDateSo 166 = .ok (.iload 6, 2) := by decide +kernel
theorem dL_isDateSo_168 : decode cL_isDateSo 168 = .ok (.ifCond .eq 12, 3) := by decide +kernel
theorem dL_isDateSo_171 : decode cL_isDateSo 171 = .ok (.iload 8, 2) := by decide +kernel
theorem dL_isDateSo_173 : decode cL_isDateSo 173 = .ok (.ifCond .eq 7, 3) := by decide +kernel
theorem dL_isDateSo_176 : decode cL_isDateSo 176 = .ok (.iconst 1, 1) := by decide +kernel
theorem dL_isDateSo_177 : decode cL_isDateSo 177 = .ok (.goto 4, 3) := by decide +kernel
theorem dL_isDateSo_180 : decode cL_isDateSo 180 = .ok (.iconst 0, 1) := by decide +kernel
theorem dL_isDateSo_181 : decode cL_isDateSo 181 = .ok (.istore 6, 2) := by decide +kernel
theorem dL_isDateSo_183 : decode cL_isDateSo 183 = .ok (.iload 4, 2) := by decide +kernel
theorem dL_isDateSo_185 : decode cL_isDateSo 185 = .ok (.iconst 4, 1) := by decide +kernel
theorem dL_isDateSo_186 : decode cL_isDateSo 186 = .ok (.irem, 1) := by decide +kernel
theorem dL_isDateSo_187 : decode cL_isDateSo 187 = .ok (.ifCond .ne 7, 3) := by decide +kernel
theorem dL_isDateSo_190 : decode cL_isDateSo 190 = .ok (.iconst 1, 1) := by decide +kernel
theorem dL_isDateSo_191 : decode cL_isDateSo 191 = .ok (.goto 4, 3) := by decide +kernel
theorem dL_isDateSo_194 : decode cL_isDateSo 194 = .ok (.iconst 0, 1) := by decide +kernel
theorem dL_isDateSo_195 : decode cL_isDateSo 195 = .ok (.istore 7, 2) := by decide +kernel
theorem dL_isDateSo_197 : decode cL_isDateSo 197 = .ok (.iload 6, 2) := by decide +kernel
theorem dL_isDateSo_199 : decode cL_isDateSo 199 = .ok (.ifCond .eq 69, 3) := by decide +kernel
theorem dL_isDateSo_202 : decode cL_isDateSo 202 = .ok (.aload_n 0, 1) := by decide +kernel
theorem dL_isDateSo_203 : decode cL_isDateSo 203 = .ok (.ldc 58, 2) := by decide +kernel
theorem dL_isDateSo_205 : decode cL_isDateSo 205 = .ok (.iload 4, 2) := by decide +kernel
theorem dL_isDateSo_207 : decode cL_isDateSo 207 = .ok (.iadd, 1) := by decide +kernel
theorem dL_isDateSo_208 : decode cL_isDateSo 208 = .ok (.invokevirtual 54, 3) := by decide +kernel
theorem dL_isDateSo_211 : decode cL_isDateSo 211 = .ok (.ifCond .lt 7, 3) := by decide +kernel
theorem dL_isDateSo_214 : decode cL_isDateSo 214 = .ok (.iconst 1, 1) := by decide +kernel
theorem dL_isDateSo_215 : decode cL_isDateSo 215 = .ok (.goto 4, 3) := by decide +kernel
theorem dL_isDateSo_218 : decode cL_isDateSo 218 = .ok (.iconst 0, 1) := by decide +kernel
theorem dL_isDateSo_219 : decode cL_isDateSo 219 = .ok (.iload 7, 2) := by decide +kernel
theorem dL_isDateSo_221 : decode cL_isDateSo 221 = .ok (.if_icmp .ne 47, 3) := by decide +kernel
theorem dL_isDateSo_224 : decode cL_isDateSo 224 = .ok (.aload_n 0, 1) := by decide +kernel
theorem dL_isDateSo_225 : decode cL_isDateSo 225 = .ok (.ldc 59, 2) := by decide +kernel
theorem dL_isDateSo_227 : decode cL_isDateSo 227 = .ok (.iload 4, 2) := by decide +kernel
theorem dL_isDateSo_229 : decode cL_isDateSo 229 = .ok (.iadd, 1) := by decide +kernel
theorem dL_isDateSo_230 : decode cL_isDateSo 230 = .ok (.invokevirtual 54, 3) := by decide +kernel
theorem dL_isDateSo_233 : decode cL_isDateSo 233 = .ok (.bipush (-5), 2) := by decide +kernel
theorem dL_isDateSo_235 : decode cL_isDateSo 235 = .ok (.if_icmp .ne 33, 3) := by decide +kernel
theorem dL_isDateSo_238 : decode cL_isDateSo 238 = .ok (.aload_n 0, 1) := by decide +kernel
theorem dL_isDateSo_239 : decode cL_isDateSo 239 = .ok (.ldc 60, 2) := by decide +kernel
theorem dL_isDateSo_241 : decode cL_isDateSo 241 = .ok (.iload 4, 2) := by decide +kernel
theorem dL_isDateSo_243 : decode cL_isDateSo 243 = .ok (.iadd, 1) := by decide +kernel
theorem dL_isDateSo_244 : decode cL_isDateSo 244 = .ok (.invokevirtual 54, 3) := by decide +kernel
theorem dL_isDateSo_247 : decode cL_isDateSo 247 = .ok (.bipush (-5), 2) := by decide +kernel
theorem dL_isDateSo_249 : decode cL_isDateSo 249 = .ok (.if_icmp .ne 19, 3) := by decide +kernel
theorem dL_isDateSo_252 : decode cL_isDateSo 252 = .ok (.aload_n 0, 1) := by decide +kernel
theorem dL_isDateSo_253 : decode cL_isDateSo 253 = .ok (.ldc 61, 2) := by decide +kernel
theorem dL_isDateSo_255 : decode cL_isDateSo 255 = .ok (.iload 4, 2) := by decide +kernel
theorem dL_isDateSo_257 : decode cL_isDateSo 257 = .ok (.iadd, 1) := by decide +kernel
theorem dL_isDateSo_258 : decode cL_isDateSo 258 = .ok (.invokevirtual 54, 3) := by decide +kernel
theorem dL_isDateSo_261 : decode cL_isDateSo 261 = .ok (.ifCond .lt 7, 3) := by decide +kernel
theorem dL_isDateSo_264 : decode cL_isDateSo 264 = .ok (.iconst 1, 1) := by decide +kernel
theorem dL_isDateSo_265 : decode cL_isDateSo 265 = .ok (.goto 4, 3) := by decide +kernel
theorem dL_isDateSo_268 : decode cL_isDateSo 268 = .ok (.iconst 0, 1) := by decide +kernel
theorem dL_isDateSo_269 : decode cL_isDateSo 269 = .ok (.ireturn, 1) := by decide +kernel
set_option maxRecDepth 20000 in
theorem ggL_areBandsSo_X8_wear : GoodIn wsL_areBandsSo wsX8_wear := goodIn_r _ [5, 6, 7, 8, 9, 10, 4, 11, 12, 13, 14, 15, 16, 17, 18, 19, 20, 134, 135, 136, 137, 138, 139, 140, 141, 142, 143, 144, 145, 146, 147, 148, 149, 150, 151, 152, 153, 154, 155, 156, 157, 158] (by decide +kernel) (by decide +kernel)
set_option maxRecDepth 20000 in
theorem gL_areBandsSo_X8_wear : GoodIn wsL_areBandsSo (wsV RL 62 RX8 yX8_wear wsX8_wear) := goodIn_app (goodIn_of _ (by decide +kernel)) ggL_areBandsSo_X8_wear
set_option maxRecDepth 20000 in
theorem ggL_areBandsSo_X8_band : GoodIn wsL_areBandsSo wsX8_band := goodIn_r _ [24, 6, 7, 8, 25, 26, 27, 9, 10, 4, 11, 12, 13, 14, 28, 29, 30, 18, 31, 20, 32, 16, 17, 19, 15, 33, 34, 35, 36, 37, 38, 39, 40, 41, 42, 43, 44, 45, 46, 47, 48, 134, 135, 136, 137, 138, 139, 140, 141, 142, 143, 144, 145, 146, 147, 148, 149, 150, 151, 152, 153, 154, 155, 156, 157, 158] (by decide +kernel) (by decide +kernel)
set_option maxRecDepth 20000 in
theorem gL_areBandsSo_X8_band : GoodIn wsL_areBandsSo (wsV RL 48 RX8 yX8_band wsX8_band) := goodIn_app (goodIn_of _ (by decide +kernel)) ggL_areBandsSo_X8_band
set_option maxRecDepth 20000 in
theorem ggL_areBandsSo_X8_count : GoodIn wsL_areBandsSo wsX8_count := goodIn_r _ [52, 6, 53, 7, 54, 55, 56, 57, 58, 59, 60, 61, 62, 63, 64, 65, 66, 67, 68, 69, 70, 44, 71, 72, 47, 73, 74, 75, 76, 77, 78, 79, 80, 81, 82, 83, 84, 85, 86, 87, 88, 89, 90, 91, 92, 93, 94, 95, 96, 97, 98, 99, 100, 101, 134, 135, 136, 137, 138, 139, 140, 141, 142, 143, 144, 145, 146, 147, 148, 149, 150, 151, 152, 153, 154, 159, 160, 161, 162, 163, 164, 165, 166, 167, 168, 169, 170, 171, 172, 155, 156, 157, 158] (by decide +kernel) (by decide +kernel)
set_option maxRecDepth 20000 in
theorem gL_areBandsSo_X8_count : GoodIn wsL_areBandsSo (wsV RL 21 RX8 yX8_count wsX8_count) := goodIn_app (goodIn_of _ (by decide +kernel)) ggL_areBandsSo_X8_count
set_option maxRecDepth 20000 in
theorem ggL_areBandsSo_L_shown : GoodIn wsL_areBandsSo wsL_shown := goodIn_r _ [105, 21, 22, 23, 4, 24, 6, 7, 8, 25, 26, 27, 9, 10, 11, 12, 13, 14, 28, 29, 30, 18, 31, 20, 32, 16, 17, 19, 15, 33, 34, 35, 36, 37, 38, 39, 40, 41, 42, 43, 44, 45, 46, 47, 48, 134, 135, 136, 137, 138, 139, 140, 141, 142, 143, 144, 145, 146, 147, 148, 149, 150, 151, 152, 153, 154, 155, 156, 157, 158] (by decide +kernel) (by decide +kernel)
set_option maxRecDepth 20000 in
theorem gL_areBandsSo_L_shown : GoodIn wsL_areBandsSo (va_wsS RL 65 yL_shown wsL_shown) := goodIn_app (goodIn_of _ (by decide +kernel)) ggL_areBandsSo_L_shown
set_option maxRecDepth 20000 in
theorem ggL_areBandsSo_X8_date : GoodIn wsL_areBandsSo wsX8_date := goodIn_r _ [109, 110, 111, 75, 112, 113, 73, 74, 76, 77, 78, 79, 80, 81, 82, 83, 84, 85, 86, 87, 88, 89, 114, 100, 101, 115, 97, 98, 116, 94, 95] (by decide +kernel) (by decide +kernel)
set_option maxRecDepth 20000 in
theorem gL_areBandsSo_X8_date : GoodIn wsL_areBandsSo (wsV RL 51 RX8 yX8_date wsX8_date) := goodIn_app (goodIn_of _ (by decide +kernel)) ggL_areBandsSo_X8_date
set_option maxRecDepth 20000 in
theorem ggL_areBandsSo_X8_day : GoodIn wsL_areBandsSo wsX8_day := goodIn_r _ [120, 121, 12, 13, 4, 14, 90, 91, 75, 92, 93, 94, 95, 96, 97, 98, 99, 100, 101, 80, 81, 82, 83, 84, 85, 86, 87, 88, 89, 77, 78, 79] (by decide +kernel) (by decide +kernel)
set_option maxRecDepth 20000 in
theorem gL_areBandsSo_X8_day : GoodIn wsL_areBandsSo (wsV RL 54 RX8 yX8_day wsX8_day) := goodIn_app (goodIn_of _ (by decide +kernel)) ggL_areBandsSo_X8_day
set_option maxRecDepth 20000 in
theorem ggL_areBandsSo_X8_even : GoodIn wsL_areBandsSo wsX8_even := goodIn_r _ [125, 6, 7, 8, 126, 127, 39, 128, 129, 130, 131, 132, 18, 133, 20, 28, 29, 30, 31, 32, 16, 17, 19, 15, 134, 135, 136, 137, 138, 139, 140, 141, 142, 143, 144, 145, 146, 147, 148, 149, 150, 151, 152, 153, 154, 155, 156, 157, 158] (by decide +kernel) (by decide +kernel)
set_option maxRecDepth 20000 in
theorem gL_areBandsSo_X8_even : GoodIn wsL_areBandsSo (wsV RL 69 RX8 yX8_even wsX8_even) := goodIn_app (goodIn_of _ (by decide +kernel)) ggL_areBandsSo_X8_even
theorem dL_areBandsSo_0 : decode cL_areBandsSo 0 = .ok (.iconst 0, 1) := by decide +kernel
theorem dL_areBandsSo_1 : decode cL_areBandsSo 1 = .ok (.istore_n 1, 1) := by decide +kernel
theorem dL_areBandsSo_2 : decode cL_areBandsSo 2 = .ok (.iconst 0, 1) := by decide +kernel
theorem dL_areBandsSo_3 : decode cL_areBandsSo 3 = .ok (.istore_n 2, 1) := by decide +kernel
theorem dL_areBandsSo_4 : decode cL_areBandsSo 4 = .ok (.iconst 0, 1) := by decide +kernel
theorem dL_areBandsSo_5 : decode cL_areBandsSo 5 = .ok (.istore_n 3, 1) := by decide +kernel
theorem dL_areBandsSo_6 : decode cL_areBandsSo 6 = .ok (.iconst 1, 1) := by decide +kernel
theorem dL_areBandsSo_7 : decode cL_areBandsSo 7 = .ok (.istore 4, 2) := by decide +kernel
theorem dL_areBandsSo_9 : decode cL_areBandsSo 9 = .ok (.iconst 0, 1) := by decide +kernel
theorem dL_areBandsSo_10 : decode cL_areBandsSo 10 = .ok (.istore 5, 2) := by decide +kernel
theorem dL_areBandsSo_12 : decode cL_areBandsSo 12 = .ok (.iload 5, 2) := by decide +kernel
theorem dL_areBandsSo_14 : decode cL_areBandsSo 14 = .ok (.bipush 6, 2) := by decide +kernel
theorem dL_areBandsSo_16 : decode cL_areBandsSo 16 = .ok (.if_icmp .ge 241, 3) := by decide +kernel
theorem dL_areBandsSo_19 : decode cL_areBandsSo 19 = .ok (.iconst 0, 1) := by decide +kernel
theorem dL_areBandsSo_20 : decode cL_areBandsSo 20 = .ok (.istore 6, 2) := by decide +kernel
theorem dL_areBandsSo_22 : decode cL_areBandsSo 22 = .ok (.bipush 99, 2) := by decide +kernel
theorem dL_areBandsSo_24 : decode cL_areBandsSo 24 = .ok (.istore 7, 2) := by decide +kernel
theorem dL_areBandsSo_26 : decode cL_areBandsSo 26 = .ok (.iconst 0, 1) := by decide +kernel
theorem dL_areBandsSo_27 : decode cL_areBandsSo 27 = .ok (.istore 8, 2) := by decide +kernel
theorem dL_areBandsSo_29 : decode cL_areBandsSo 29 = .ok (.iconst 0, 1) := by decide +kernel
theorem dL_areBandsSo_30 : decode cL_areBandsSo 30 = .ok (.istore 9, 2) := by decide +kernel
theorem dL_areBandsSo_32 : decode cL_areBandsSo 32 = .ok (.iload 9, 2) := by decide +kernel
theorem dL_areBandsSo_34 : decode cL_areBandsSo 34 = .ok (.bipush 10, 2) := by decide +kernel
theorem dL_areBandsSo_36 : decode cL_areBandsSo 36 = .ok (.if_icmp .ge 72, 3) := by decide +kernel
theorem dL_areBandsSo_39 : decode cL_areBandsSo 39 = .ok (.aload_n 0, 1) := by decide +kernel
theorem dL_areBandsSo_40 : decode cL_areBandsSo 40 = .ok (.iload 5, 2) := by decide +kernel
theorem dL_areBandsSo_42 : decode cL_areBandsSo 42 = .ok (.iload 9, 2) := by decide +kernel
theorem dL_areBandsSo_44 : decode cL_areBandsSo 44 = .ok (.invokevirtual 62, 3) := by decide +kernel
theorem dL_areBandsSo_47 : decode cL_areBandsSo 47 = .ok (.istore 10, 2) := by decide +kernel
theorem dL_areBandsSo_49 : decode cL_areBandsSo 49 = .ok (.iload 10, 2) := by decide +kernel
theorem dL_areBandsSo_51 : decode cL_areBandsSo 51 = .ok (.iload 6, 2) := by decide +kernel
theorem dL_areBandsSo_53 : decode cL_areBandsSo 53 = .ok (.if_icmp .le 8, 3) := by decide +kernel
theorem dL_areBandsSo_56 : decode cL_areBandsSo 56 = .ok (.iload 9, 2) := by decide +kernel
theorem dL_areBandsSo_58 : decode cL_areBandsSo 58 = .ok (.goto 5, 3) := by decide +kernel
theorem dL_areBandsSo_61 : decode cL_areBandsSo 61 = .ok (.iload 8, 2) := by decide +kernel
theorem dL_areBandsSo_63 : decode cL_areBandsSo 63 = .ok (.istore 8, 2) := by decide +kernel
theorem dL_areBandsSo_65 : decode cL_areBandsSo 65 = .ok (.iload 10, 2) := by decide +kernel
theorem dL_areBandsSo_67 : decode cL_areBandsSo 67 = .ok (.iload 6, 2) := by decide +kernel
theorem dL_areBandsSo_69 : decode cL_areBandsSo 69 = .ok (.if_icmp .le 8, 3) := by decide +kernel
theorem dL_areBandsSo_72 : decode cL_areBandsSo 72 = .ok (.iload 10, 2) := by decide +kernel
theorem dL_areBandsSo_74 : decode cL_areBandsSo 74 = .ok (.goto 5, 3) := by decide +kernel
theorem dL_areBandsSo_77 : decode cL_areBandsSo 77 = .ok (.iload 6, 2) := by decide +kernel
theorem dL_areBandsSo_79 : decode cL_areBandsSo 79 = .ok (.istore 6, 2) := by decide +kernel
theorem dL_areBandsSo_81 : decode cL_areBandsSo 81 = .ok (.iload 10, 2) := by decide +kernel
theorem dL_areBandsSo_83 : decode cL_areBandsSo 83 = .ok (.iload 7, 2) := by decide +kernel
theorem dL_areBandsSo_85 : decode cL_areBandsSo 85 = .ok (.if_icmp .ge 8, 3) := by decide +kernel
theorem dL_areBandsSo_88 : decode cL_areBandsSo 88 = .ok (.iload 10, 2) := by decide +kernel
theorem dL_areBandsSo_90 : decode cL_areBandsSo 90 = .ok (.goto 5, 3) := by decide +kernel
theorem dL_areBandsSo_93 : decode cL_areBandsSo 93 = .ok (.iload 7, 2) := by decide +kernel
theorem dL_areBandsSo_95 : decode cL_areBandsSo 95 = .ok (.istore 7, 2) := by decide +kernel
theorem dL_areBandsSo_97 : decode cL_areBandsSo 97 = .ok (.iload_n 1, 1) := by decide +kernel
theorem dL_areBandsSo_98 : decode cL_areBandsSo 98 = .ok (.iload 10, 2) := by decide +kernel
theorem dL_areBandsSo_100 : decode cL_areBandsSo 100 = .ok (.iadd, 1) := by decide +kernel
theorem dL_areBandsSo_101 : decode cL_areBandsSo 101 = .ok (.istore_n 1, 1) := by decide +kernel
theorem dL_areBandsSo_102 : decode cL_areBandsSo 102 = .ok (.iinc 9 1, 3) := by decide +kernel
theorem dL_areBandsSo_105 : decode cL_areBandsSo 105 = .ok (.goto (-73), 3) := by decide +kernel
theorem dL_areBandsSo_108 : decode cL_areBandsSo 108 = .ok (.iload 6, 2) := by decide +kernel
theorem dL_areBandsSo_110 : decode cL_areBandsSo 110 = .ok (.iload_n 2, 1) := by decide +kernel
theorem dL_areBandsSo_111 : decode cL_areBandsSo 111 = .ok (.if_icmp .le 8, 3) := by decide +kernel
theorem dL_areBandsSo_114 : decode cL_areBandsSo 114 = .ok (.iload 6, 2) := by decide +kernel
theorem dL_areBandsSo_116 : decode cL_areBandsSo 116 = .ok (.goto 4, 3) := by decide +kernel
theorem dL_areBandsSo_119 : decode cL_areBandsSo 119 = .ok (.iload_n 2, 1) := by decide +kernel
theorem dL_areBandsSo_120 : decode cL_areBandsSo 120 = .ok (.istore_n 2, 1) := by decide +kernel
theorem dL_areBandsSo_121 : decode cL_areBandsSo 121 = .ok (.iload_n 3, 1) := by decide +kernel
theorem dL_areBandsSo_122 : decode cL_areBandsSo 122 = .ok (.iconst 1, 1) := by decide +kernel
theorem dL_areBandsSo_123 : decode cL_areBandsSo 123 = .ok (.aload_n 0, 1) := by decide +kernel
theorem dL_areBandsSo_124 : decode cL_areBandsSo 124 = .ok (.iload 5, 2) := by decide +kernel
theorem dL_areBandsSo_126 : decode cL_areBandsSo 126 = .ok (.iconst 0, 1) := by decide +kernel
theorem dL_areBandsSo_127 : decode cL_areBandsSo 127 = .ok (.invokevirtual 48, 3) := by decide +kernel
theorem dL_areBandsSo_130 : decode cL_areBandsSo 130 = .ok (.ishl, 1) := by decide +kernel
theorem dL_areBandsSo_131 : decode cL_areBandsSo 131 = .ok (.ior, 1) := by decide +kernel
theorem dL_areBandsSo_132 : decode cL_areBandsSo 132 = .ok (.istore_n 3, 1) := by decide +kernel
theorem dL_areBandsSo_133 : decode cL_areBandsSo 133 = .ok (.iload 4, 2) := by decide +kernel
theorem dL_areBandsSo_135 : decode cL_areBandsSo 135 = .ok (.ifCond .eq 113, 3) := by decide +kernel
theorem dL_areBandsSo_138 : decode cL_areBandsSo 138 = .ok (.aload_n 0, 1) := by decide +kernel
theorem dL_areBandsSo_139 : decode cL_areBandsSo 139 = .ok (.iload 5, 2) := by decide +kernel
theorem dL_areBandsSo_141 : decode cL_areBandsSo 141 = .ok (.iconst 3, 1) := by decide +kernel
theorem dL_areBandsSo_142 : decode cL_areBandsSo 142 = .ok (.invokevirtual 48, 3) := by decide +kernel
theorem dL_areBandsSo_145 : decode cL_areBandsSo 145 = .ok (.iload 6, 2) := by decide +kernel
theorem dL_areBandsSo_147 : decode cL_areBandsSo 147 = .ok (.if_icmp .ne 101, 3) := by decide +kernel
theorem dL_areBandsSo_150 : decode cL_areBandsSo 150 = .ok (.aload_n 0, 1) := by decide +kernel
theorem dL_areBandsSo_151 : decode cL_areBandsSo 151 = .ok (.iload 5, 2) := by decide +kernel
theorem dL_areBandsSo_153 : decode cL_areBandsSo 153 = .ok (.iconst 4, 1) := by decide +kernel
theorem dL_areBandsSo_154 : decode cL_areBandsSo 154 = .ok (.invokevirtual 48, 3) := by decide +kernel
theorem dL_areBandsSo_157 : decode cL_areBandsSo 157 = .ok (.iload 7, 2) := by decide +kernel
theorem dL_areBandsSo_159 : decode cL_areBandsSo 159 = .ok (.if_icmp .ne 89, 3) := by decide +kernel
theorem dL_areBandsSo_162 : decode cL_areBandsSo 162 = .ok (.aload_n 0, 1) := by decide +kernel
theorem dL_areBandsSo_163 : decode cL_areBandsSo 163 = .ok (.iload 5, 2) := by decide +kernel
theorem dL_areBandsSo_165 : decode cL_areBandsSo 165 = .ok (.iconst 5, 1) := by decide +kernel
theorem dL_areBandsSo_166 : decode cL_areBandsSo 166 = .ok (.invokevirtual 48, 3) := by decide +kernel
theorem dL_areBandsSo_169 : decode cL_areBandsSo 169 = .ok (.iload 8, 2) := by decide +kernel
theorem dL_areBandsSo_171 : decode cL_areBandsSo 171 = .ok (.if_icmp .ne 77, 3) := by decide +kernel
theorem dL_areBandsSo_174 : decode cL_areBandsSo 174 = .ok (.aload_n 0, 1) := by decide +kernel
theorem dL_areBandsSo_175 : decode cL_areBandsSo 175 = .ok (.iload 5, 2) := by decide +kernel
theorem dL_areBandsSo_177 : decode cL_areBandsSo 177 = .ok (.iconst 2, 1) := by decide +kernel
theorem dL_areBandsSo_178 : decode cL_areBandsSo 178 = .ok (.invokevirtual 48, 3) := by decide +kernel
theorem dL_areBandsSo_181 : decode cL_areBandsSo 181 = .ok (.ifCond .lt 67, 3) := by decide +kernel
theorem dL_areBandsSo_184 : decode cL_areBandsSo 184 = .ok (.aload_n 0, 1) := by decide +kernel
theorem dL_areBandsSo_185 : decode cL_areBandsSo 185 = .ok (.iload 5, 2) := by decide +kernel
theorem dL_areBandsSo_187 : decode cL_areBandsSo 187 = .ok (.iconst 2, 1) := by decide +kernel
theorem dL_areBandsSo_188 : decode cL_areBandsSo 188 = .ok (.invokevirtual 48, 3) := by decide +kernel
theorem dL_areBandsSo_191 : decode cL_areBandsSo 191 = .ok (.bipush 99, 2) := by decide +kernel
theorem dL_areBandsSo_193 : decode cL_areBandsSo 193 = .ok (.if_icmp .gt 55, 3) := by decide +kernel
theorem dL_areBandsSo_196 : decode cL_areBandsSo 196 = .ok (.iload 6, 2) := by decide +kernel
theorem dL_areBandsSo_198 : decode cL_areBandsSo 198 = .ok (.bipush 99, 2) := by decide +kernel
theorem dL_areBandsSo_200 : decode cL_areBandsSo 200 = .ok (.if_icmp .gt 48, 3) := by decide +kernel
theorem dL_areBandsSo_203 : decode cL_areBandsSo 203 = .ok (.iload 7, 2) := by decide +kernel
theorem dL_areBandsSo_205 : decode cL_areBandsSo 205 = .ok (.ifCond .lt 43, 3) := by decide +kernel
theorem dL_areBandsSo_208 : decode cL_areBandsSo 208 = .ok (.aload_n 0, 1) := by decide +kernel
theorem dL_areBandsSo_209 : decode cL_areBandsSo 209 = .ok (.iload 5, 2) := by decide +kernel
theorem dL_areBandsSo_211 : decode cL_areBandsSo 211 = .ok (.bipush 6, 2) := by decide +kernel
theorem dL_areBandsSo_213 : decode cL_areBandsSo 213 = .ok (.invokevirtual 48, 3) := by decide +kernel
theorem dL_areBandsSo_216 : decode cL_areBandsSo 216 = .ok (.sipush 140, 3) := by decide +kernel
theorem dL_areBandsSo_219 : decode cL_areBandsSo 219 = .ok (.aload_n 0, 1) := by decide +kernel
theorem dL_areBandsSo_220 : decode cL_areBandsSo 220 = .ok (.iconst 1, 1) := by decide +kernel
theorem dL_areBandsSo_221 : decode cL_areBandsSo 221 = .ok (.invokevirtual 21, 3) := by decide +kernel
theorem dL_areBandsSo_224 : decode cL_areBandsSo 224 = .ok (.iconst 4, 1) := by decide +kernel
theorem dL_areBandsSo_225 : decode cL_areBandsSo 225 = .ok (.idiv, 1) := by decide +kernel
theorem dL_areBandsSo_226 : decode cL_areBandsSo 226 = .ok (.iadd, 1) := by decide +kernel
theorem dL_areBandsSo_227 : decode cL_areBandsSo 227 = .ok (.aload_n 0, 1) := by decide +kernel
theorem dL_areBandsSo_228 : decode cL_areBandsSo 228 = .ok (.iload 5, 2) := by decide +kernel
theorem dL_areBandsSo_230 : decode cL_areBandsSo 230 = .ok (.aload_n 0, 1) := by decide +kernel
theorem dL_areBandsSo_231 : decode cL_areBandsSo 231 = .ok (.iload 5, 2) := by decide +kernel
theorem dL_areBandsSo_233 : decode cL_areBandsSo 233 = .ok (.iconst 1, 1) := by decide +kernel
theorem dL_areBandsSo_234 : decode cL_areBandsSo 234 = .ok (.invokevirtual 48, 3) := by decide +kernel
theorem dL_areBandsSo_237 : decode cL_areBandsSo 237 = .ok (.invokevirtual 62, 3) := by decide +kernel
theorem dL_areBandsSo_240 : decode cL_areBandsSo 240 = .ok (.isub, 1) := by decide +kernel
theorem dL_areBandsSo_241 : decode cL_areBandsSo 241 = .ok (.if_icmp .ne 7, 3) := by decide +kernel
theorem dL_areBandsSo_244 : decode cL_areBandsSo 244 = .ok (.iconst 1, 1) := by decide +kernel
theorem dL_areBandsSo_245 : decode cL_areBandsSo 245 = .ok (.goto 4, 3) := by decide +kernel
theorem dL_areBandsSo_248 : decode cL_areBandsSo 248 = .ok (.iconst 0, 1) := by decide +kernel
theorem dL_areBandsSo_249 : decode cL_areBandsSo 249 = .ok (.istore 4, 2) := by decide +kernel
theorem dL_areBandsSo_251 : decode cL_areBandsSo 251 = .ok (.iinc 5 1, 3) := by decide +kernel
theorem dL_areBandsSo_254 : decode cL_areBandsSo 254 = .ok (.goto (-242), 3) := by decide +kernel
theorem dL_areBandsSo_257 : decode cL_areBandsSo 257 = .ok (.aload_n 0, 1) := by decide +kernel
theorem dL_areBandsSo_258 : decode cL_areBandsSo 258 = .ok (.invokestatic 65, 3) := by decide +kernel
theorem dL_areBandsSo_261 : decode cL_areBandsSo 261 = .ok (.aload_n 0, 1) := by decide +kernel
theorem dL_areBandsSo_262 : decode cL_areBandsSo 262 = .ok (.aload_n 0, 1) := by decide +kernel
theorem dL_areBandsSo_263 : decode cL_areBandsSo 263 = .ok (.iconst 0, 1) := by decide +kernel
theorem dL_areBandsSo_264 : decode cL_areBandsSo 264 = .ok (.invokevirtual 21, 3) := by decide +kernel
theorem dL_areBandsSo_267 : decode cL_areBandsSo 267 = .ok (.iconst 3, 1) := by decide +kernel
theorem dL_areBandsSo_268 : decode cL_areBandsSo 268 = .ok (.invokevirtual 51, 3) := by decide +kernel
theorem dL_areBandsSo_271 : decode cL_areBandsSo 271 = .ok (.if_icmp .ne 7, 3) := by decide +kernel
theorem dL_areBandsSo_274 : decode cL_areBandsSo 274 = .ok (.iconst 1, 1) := by decide +kernel
theorem dL_areBandsSo_275 : decode cL_areBandsSo 275 = .ok (.goto 4, 3) := by decide +kernel
theorem dL_areBandsSo_278 : decode cL_areBandsSo 278 = .ok (.iconst 0, 1) := by decide +kernel
theorem dL_areBandsSo_279 : decode cL_areBandsSo 279 = .ok (.istore 5, 2) := by decide +kernel
theorem dL_areBandsSo_281 : decode cL_areBandsSo 281 = .ok (.iload 4, 2) := by decide +kernel
theorem dL_areBandsSo_283 : decode cL_areBandsSo 283 = .ok (.ifCond .eq 157, 3) := by decide +kernel
theorem dL_areBandsSo_286 : decode cL_areBandsSo 286 = .ok (.iload_n 3, 1) := by decide +kernel
theorem dL_areBandsSo_287 : decode cL_areBandsSo 287 = .ok (.bipush 63, 2) := by decide +kernel
theorem dL_areBandsSo_289 : decode cL_areBandsSo 289 = .ok (.if_icmp .ne 151, 3) := by decide +kernel
theorem dL_areBandsSo_292 : decode cL_areBandsSo 292 = .ok (.aload_n 0, 1) := by decide +kernel
theorem dL_areBandsSo_293 : decode cL_areBandsSo 293 = .ok (.bipush 8, 2) := by decide +kernel
theorem dL_areBandsSo_295 : decode cL_areBandsSo 295 = .ok (.invokevirtual 21, 3) := by decide +kernel
theorem dL_areBandsSo_298 : decode cL_areBandsSo 298 = .ok (.iconst 1, 1) := by decide +kernel
theorem dL_areBandsSo_299 : decode cL_areBandsSo 299 = .ok (.if_icmp .ne 7, 3) := by decide +kernel
theorem dL_areBandsSo_302 : decode cL_areBandsSo 302 = .ok (.iconst 1, 1) := by decide +kernel
theorem dL_areBandsSo_303 : decode cL_areBandsSo 303 = .ok (.goto 4, 3) := by decide +kernel
theorem dL_areBandsSo_306 : decode cL_areBandsSo 306 = .ok (.iconst 0, 1) := by decide +kernel
theorem dL_areBandsSo_307 : decode cL_areBandsSo 307 = .ok (.iload 5, 2) := by decide +kernel
theorem dL_areBandsSo_309 : decode cL_areBandsSo 309 = .ok (.if_icmp .ne 131, 3) := by decide +kernel
theorem dL_areBandsSo_312 : decode cL_areBandsSo 312 = .ok (.aload_n 0, 1) := by decide +kernel
theorem dL_areBandsSo_313 : decode cL_areBandsSo 313 = .ok (.bipush 9, 2) := by decide +kernel
theorem dL_areBandsSo_315 : decode cL_areBandsSo 315 = .ok (.invokevirtual 21, 3) := by decide +kernel
theorem dL_areBandsSo_318 : decode cL_areBandsSo 318 = .ok (.aload_n 0, 1) := by decide +kernel
theorem dL_areBandsSo_319 : decode cL_areBandsSo 319 = .ok (.aload_n 0, 1) := by decide +kernel
theorem dL_areBandsSo_320 : decode cL_areBandsSo 320 = .ok (.invokestatic 65, 3) := by decide +kernel
theorem dL_areBandsSo_323 : decode cL_areBandsSo 323 = .ok (.invokevirtual 54, 3) := by decide +kernel
theorem dL_areBandsSo_326 : decode cL_areBandsSo 326 = .ok (.if_icmp .ne 114, 3) := by decide +kernel
theorem dL_areBandsSo_329 : decode cL_areBandsSo 329 = .ok (.aload_n 0, 1) := by decide +kernel
theorem dL_areBandsSo_330 : decode cL_areBandsSo 330 = .ok (.iconst 1, 1) := by decide +kernel
theorem dL_areBandsSo_331 : decode cL_areBandsSo 331 = .ok (.invokevirtual 21, 3) := by decide +kernel
theorem dL_areBandsSo_334 : decode cL_areBandsSo 334 = .ok (.ifCond .lt 106, 3) := by decide +kernel
theorem dL_areBandsSo_337 : decode cL_areBandsSo 337 = .ok (.aload_n 0, 1) := by decide +kernel
theorem dL_areBandsSo_338 : decode cL_areBandsSo 338 = .ok (.iconst 1, 1) := by decide +kernel
theorem dL_areBandsSo_339 : decode cL_areBandsSo 339 = .ok (.invokevirtual 21, 3) := by decide +kernel
theorem dL_areBandsSo_342 : decode cL_areBandsSo 342 = .ok (.sipush 200, 3) := by decide +kernel
theorem dL_areBandsSo_345 : decode cL_areBandsSo 345 = .ok (.if_icmp .gt 95, 3) := by decide +kernel
theorem dL_areBandsSo_348 : decode cL_areBandsSo 348 = .ok (.aload_n 0, 1) := by decide +kernel
theorem dL_areBandsSo_349 : decode cL_areBandsSo 349 = .ok (.invokevirtual 69, 3) := by decide +kernel
theorem dL_areBandsSo_352 : decode cL_areBandsSo 352 = .ok (.dconst 1, 1) := by decide +kernel
theorem dL_areBandsSo_353 : decode cL_areBandsSo 353 = .ok (.dcmp .g, 1) := by decide +kernel
theorem dL_areBandsSo_354 : decode cL_areBandsSo 354 = .ok (.ifCond .gt 86, 3) := by decide +kernel
theorem dL_areBandsSo_357 : decode cL_areBandsSo 357 = .ok (.aload_n 0, 1) := by decide +kernel
theorem dL_areBandsSo_358 : decode cL_areBandsSo 358 = .ok (.invokevirtual 69, 3) := by decide +kernel
theorem dL_areBandsSo_361 : decode cL_areBandsSo 361 = .ok (.dconst 0, 1) := by decide +kernel
theorem dL_areBandsSo_362 : decode cL_areBandsSo 362 = .ok (.dcmp .l, 1) := by decide +kernel
theorem dL_areBandsSo_363 : decode cL_areBandsSo 363 = .ok (.ifCond .lt 77, 3) := by decide +kernel
theorem dL_areBandsSo_366 : decode cL_areBandsSo 366 = .ok (.iload_n 2, 1) := by decide +kernel
theorem dL_areBandsSo_367 : decode cL_areBandsSo 367 = .ok (.ifCond .gt 12, 3) := by decide +kernel
theorem dL_areBandsSo_370 : decode cL_areBandsSo 370 = .ok (.aload_n 0, 1) := by decide +kernel
theorem dL_areBandsSo_371 : decode cL_areBandsSo 371 = .ok (.invokevirtual 69, 3) := by decide +kernel
theorem dL_areBandsSo_374 : decode cL_areBandsSo 374 = .ok (.dconst 1, 1) := by decide +kernel
theorem dL_areBandsSo_375 : decode cL_areBandsSo 375 = .ok (.dcmp .l, 1) := by decide +kernel
theorem dL_areBandsSo_376 : decode cL_areBandsSo 376 = .ok (.ifCond .ne 64, 3) := by decide +kernel
theorem dL_areBandsSo_379 : decode cL_areBandsSo 379 = .ok (.aload_n 0, 1) := by decide +kernel
theorem dL_areBandsSo_380 : decode cL_areBandsSo 380 = .ok (.invokevirtual 69, 3) := by decide +kernel
theorem dL_areBandsSo_383 : decode cL_areBandsSo 383 = .ok (.dconst 0, 1) := by decide +kernel
theorem dL_areBandsSo_384 : decode cL_areBandsSo 384 = .ok (.dcmp .l, 1) := by decide +kernel
theorem dL_areBandsSo_385 : decode cL_areBandsSo 385 = .ok (.ifCond .ne 7, 3) := by decide +kernel
theorem dL_areBandsSo_388 : decode cL_areBandsSo 388 = .ok (.iconst 1, 1) := by decide +kernel
theorem dL_areBandsSo_389 : decode cL_areBandsSo 389 = .ok (.goto 4, 3) := by decide +kernel
theorem dL_areBandsSo_392 : decode cL_areBandsSo 392 = .ok (.iconst 0, 1) := by decide +kernel
theorem dL_areBandsSo_393 : decode cL_areBandsSo 393 = .ok (.iload_n 1, 1) := by decide +kernel
theorem dL_areBandsSo_394 : decode cL_areBandsSo 394 = .ok (.ifCond .ne 11, 3) := by decide +kernel
theorem dL_areBandsSo_397 : decode cL_areBandsSo 397 = .ok (.iload_n 2, 1) := by decide +kernel
theorem dL_areBandsSo_398 : decode cL_areBandsSo 398 = .ok (.ifCond .le 7, 3) := by decide +kernel
theorem dL_areBandsSo_401 : decode cL_areBandsSo 401 = .ok (.iconst 1, 1) := by decide +kernel
theorem dL_areBandsSo_402 : decode cL_areBandsSo 402 = .ok (.goto 4, 3) := by decide +kernel
theorem dL_areBandsSo_405 : decode cL_areBandsSo 405 = .ok (.iconst 0, 1) := by decide +kernel
theorem dL_areBandsSo_406 : decode cL_areBandsSo 406 = .ok (.if_icmp .ne 34, 3) := by decide +kernel
theorem dL_areBandsSo_409 : decode cL_areBandsSo 409 = .ok (.aload_n 0, 1) := by decide +kernel
theorem dL_areBandsSo_410 : decode cL_areBandsSo 410 = .ok (.bipush 10, 2) := by decide +kernel
theorem dL_areBandsSo_412 : decode cL_areBandsSo 412 = .ok (.invokevirtual 21, 3) := by decide +kernel
theorem dL_areBandsSo_415 : decode cL_areBandsSo 415 = .ok (.aload_n 0, 1) := by decide +kernel
theorem dL_areBandsSo_416 : decode cL_areBandsSo 416 = .ok (.iconst 3, 1) := by decide +kernel
theorem dL_areBandsSo_417 : decode cL_areBandsSo 417 = .ok (.invokevirtual 21, 3) := by decide +kernel
theorem dL_areBandsSo_420 : decode cL_areBandsSo 420 = .ok (.if_icmp .gt 20, 3) := by decide +kernel
theorem dL_areBandsSo_423 : decode cL_areBandsSo 423 = .ok (.aload_n 0, 1) := by decide +kernel
theorem dL_areBandsSo_424 : decode cL_areBandsSo 424 = .ok (.iconst 3, 1) := by decide +kernel
theorem dL_areBandsSo_425 : decode cL_areBandsSo 425 = .ok (.invokevirtual 21, 3) := by decide +kernel
theorem dL_areBandsSo_428 : decode cL_areBandsSo 428 = .ok (.aload_n 0, 1) := by decide +kernel
theorem dL_areBandsSo_429 : decode cL_areBandsSo 429 = .ok (.iconst 2, 1) := by decide +kernel
theorem dL_areBandsSo_430 : decode cL_areBandsSo 430 = .ok (.invokevirtual 21, 3) := by decide +kernel
theorem dL_areBandsSo_433 : decode cL_areBandsSo 433 = .ok (.if_icmp .gt 7, 3) := by decide +kernel
theorem dL_areBandsSo_436 : decode cL_areBandsSo 436 = .ok (.iconst 1, 1) := by decide +kernel
theorem dL_areBandsSo_437 : decode cL_areBandsSo 437 = .ok (.goto 4, 3) := by decide +kernel
theorem dL_areBandsSo_440 : decode cL_areBandsSo 440 = .ok (.iconst 0, 1) := by decide +kernel
theorem dL_areBandsSo_441 : decode cL_areBandsSo 441 = .ok (.ireturn, 1) := by decide +kernel
set_option maxRecDepth 20000 in
theorem ggL_isAdjustSo_X8_stepsTo : GoodIn wsL_isAdjustSo wsX8_stepsTo := goodIn_r _ [5, 6, 7, 8, 9, 10, 11, 12, 13, 14, 15, 16, 17, 18, 19, 20, 21, 22, 23, 24, 25, 26, 27, 28, 29, 30, 31, 32, 33, 34, 35, 36, 37, 38, 39, 40, 41, 42, 43, 44, 45, 46, 47, 48, 211, 212, 213, 214, 215, 216, 217, 218, 219, 220, 221, 222, 223, 224, 225, 226, 227, 228, 229, 230, 231, 232, 233, 234, 235] (by decide +kernel) (by decide +kernel)
set_option maxRecDepth 20000 in
theorem gL_isAdjustSo_X8_stepsTo : GoodIn wsL_isAdjustSo (wsV RL 73 RX8 yX8_stepsTo wsX8_stepsTo) := goodIn_app (goodIn_of _ (by decide +kernel)) ggL_isAdjustSo_X8_stepsTo
set_option maxRecDepth 20000 in
theorem ggL_isAdjustSo_X8_count : GoodIn wsL_isAdjustSo wsX8_count := goodIn_r _ [52, 6, 53, 7, 54, 55, 56, 57, 58, 59, 60, 61, 62, 63, 64, 65, 66, 67, 68, 69, 70, 32, 71, 34, 72, 13, 14, 10, 15, 16, 17, 18, 19, 20, 21, 22, 23, 24, 25, 26, 27, 28, 73, 74, 75, 76, 77, 78, 79, 80, 81, 82, 83, 84, 211, 212, 213, 214, 215, 216, 217, 218, 219, 220, 221, 222, 223, 224, 225, 226, 227, 228, 229, 230, 231, 236, 237, 238, 239, 240, 241, 242, 243, 244, 245, 246, 247, 248, 249, 232, 233, 234, 235] (by decide +kernel) (by decide +kernel)
set_option maxRecDepth 20000 in
theorem gL_isAdjustSo_X8_count : GoodIn wsL_isAdjustSo (wsV RL 21 RX8 yX8_count wsX8_count) := goodIn_app (goodIn_of _ (by decide +kernel)) ggL_isAdjustSo_X8_count
set_option maxRecDepth 20000 in
theorem ggL_isAdjustSo_X8_date : GoodIn wsL_isAdjustSo wsX8_date := goodIn_r _ [88, 8, 9, 10, 11, 12, 13, 14, 15, 16, 17, 18, 19, 20, 21, 22, 23, 24, 25, 26, 27, 28, 89, 83, 84, 90, 80, 81, 91, 77, 78] (by decide +kernel) (by decide +kernel)
set_option maxRecDepth 20000 in
theorem gL_isAdjustSo_X8_date : GoodIn wsL_isAdjustSo (wsV RL 51 RX8 yX8_date wsX8_date) := goodIn_app (goodIn_of _ (by decide +kernel)) ggL_isAdjustSo_X8_date
set_option maxRecDepth 20000 in
theorem ggL_isAdjustSo_X8_band : GoodIn wsL_isAdjustSo wsX8_band := goodIn_r _ [95, 6, 7, 96, 97, 98, 99, 100, 101, 4, 102, 103, 104, 105, 106, 107, 108, 42, 109, 110, 111, 112, 113, 114, 115, 116, 117, 118, 119, 120, 121, 37, 122, 123, 124, 125, 32, 126, 127, 72, 128, 211, 212, 213, 214, 215, 216, 217, 218, 219, 220, 221, 222, 223, 224, 225, 226, 227, 228, 229, 230, 231, 232, 233, 234, 235] (by decide +kernel) (by decide +kernel)
set_option maxRecDepth 20000 in
theorem gL_isAdjustSo_X8_band : GoodIn wsL_isAdjustSo (wsV RL 48 RX8 yX8_band wsX8_band) := goodIn_app (goodIn_of _ (by decide +kernel)) ggL_isAdjustSo_X8_band
set_option maxRecDepth 20000 in
theorem ggL_isAdjustSo_X8_adjust : GoodIn wsL_isAdjustSo wsX8_adjust := goodIn_r _ [132, 63, 6, 7, 8, 9, 10, 11, 12, 133, 134, 135, 136, 137, 138, 139, 140, 141, 142, 143, 144, 145, 146, 147, 148, 149, 150, 151, 152, 153, 154, 155, 156, 157, 158, 159, 32, 160, 34, 161, 162, 163, 164, 165, 127, 166, 167, 168, 169, 170, 42, 171, 172, 44, 173, 110, 174, 175, 176, 177, 178, 179, 180, 181, 182, 183, 184, 185, 13, 14, 15, 16, 17, 18, 19, 20, 21, 22, 23, 24, 25, 26, 27, 28, 186, 187, 188, 189, 39, 40, 41, 43, 45, 46, 47, 48, 190, 191, 192, 193, 35, 36, 37, 38, 101, 4, 102, 103, 104, 105, 194, 195, 196, 197, 198, 120, 121, 122, 211, 212, 213, 214, 215, 216, 217, 218, 219, 220, 221, 222, 223, 224, 240, 241, 225, 226, 227, 228, 229, 230, 231, 232, 233, 234, 235, 250, 251, 252, 253, 254, 255] (by decide +kernel) (by decide +kernel)
set_option maxRecDepth 20000 in
theorem gL_isAdjustSo_X8_adjust : GoodIn wsL_isAdjustSo (wsV RL 24 RX8 yX8_adjust wsX8_adjust) := goodIn_app (goodIn_of _ (by decide +kernel)) ggL_isAdjustSo_X8_adjust
set_option maxRecDepth 20000 in
theorem ggL_isAdjustSo_L_shown : GoodIn wsL_isAdjustSo wsL_shown := goodIn_r _ [202, 92, 93, 94, 4, 95, 6, 7, 96, 97, 98, 99, 100, 101, 102, 103, 104, 105, 106, 107, 108, 42, 109, 110, 111, 112, 113, 114, 115, 116, 117, 118, 119, 120, 121, 37, 122, 123, 124, 125, 32, 126, 127, 72, 128, 211, 212, 213, 214, 215, 216, 217, 218, 219, 220, 221, 222, 223, 224, 225, 226, 227, 228, 229, 230, 231, 232, 233, 234, 235] (by decide +kernel) (by decide +kernel)
set_option maxRecDepth 20000 in
theorem gL_isAdjustSo_L_shown : GoodIn wsL_isAdjustSo (va_wsS RL 65 yL_shown wsL_shown) := goodIn_app (goodIn_of _ (by decide +kernel)) ggL_isAdjustSo_L_shown
set_option maxRecDepth 20000 in
theorem ggL_isAdjustSo_X8_undo : GoodIn wsL_isAdjustSo wsX8_undo := goodIn_r _ [206, 63, 64, 6, 207, 208, 209, 136, 210, 138, 139, 144, 145, 146, 147, 148, 149, 150, 151, 152, 153, 154, 155, 156, 157, 158, 159, 32, 160, 34, 161, 162, 163, 164, 165, 127, 166, 167, 168, 169, 170, 42, 171, 172, 44, 173, 110, 174, 175, 176, 177, 178, 179, 180, 181, 182, 183, 184, 185, 211, 212, 213, 214, 215, 216, 240, 241, 217, 218, 219, 220, 221, 222, 223, 224, 225, 226, 227, 228, 229, 230, 231, 232, 233, 234, 235, 250, 251, 252, 253, 254, 255] (by decide +kernel) (by decide +kernel)
set_option maxRecDepth 20000 in
theorem gL_isAdjustSo_X8_undo : GoodIn wsL_isAdjustSo (wsV RL 76 RX8 yX8_undo wsX8_undo) := goodIn_app (goodIn_of _ (by decide +kernel)) ggL_isAdjustSo_X8_undo
theorem dL_isAdjustSo_0 : decode cL_isAdjustSo 0 = .ok (.aload_n 0, 1) := by decide +kernel
theorem dL_isAdjustSo_1 : decode cL_isAdjustSo 1 = .ok (.iload_n 1, 1) := by decide +kernel
theorem dL_isAdjustSo_2 : decode cL_isAdjustSo 2 = .ok (.invokevirtual 73, 3) := by decide +kernel
theorem dL_isAdjustSo_5 : decode cL_isAdjustSo 5 = .ok (.istore_n 2, 1) := by decide +kernel
theorem dL_isAdjustSo_6 : decode cL_isAdjustSo 6 = .ok (.aload_n 0, 1) := by decide +kernel
theorem dL_isAdjustSo_7 : decode cL_isAdjustSo 7 = .ok (.bipush 6, 2) := by decide +kernel
theorem dL_isAdjustSo_9 : decode cL_isAdjustSo 9 = .ok (.invokevirtual 21, 3) := by decide +kernel
theorem dL_isAdjustSo_12 : decode cL_isAdjustSo 12 = .ok (.istore_n 3, 1) := by decide +kernel
theorem dL_isAdjustSo_13 : decode cL_isAdjustSo 13 = .ok (.aload_n 0, 1) := by decide +kernel
theorem dL_isAdjustSo_14 : decode cL_isAdjustSo 14 = .ok (.iload_n 1, 1) := by decide +kernel
theorem dL_isAdjustSo_15 : decode cL_isAdjustSo 15 = .ok (.iconst 3, 1) := by decide +kernel
theorem dL_isAdjustSo_16 : decode cL_isAdjustSo 16 = .ok (.invokevirtual 51, 3) := by decide +kernel
theorem dL_isAdjustSo_19 : decode cL_isAdjustSo 19 = .ok (.istore 4, 2) := by decide +kernel
theorem dL_isAdjustSo_21 : decode cL_isAdjustSo 21 = .ok (.iconst 0, 1) := by decide +kernel
theorem dL_isAdjustSo_22 : decode cL_isAdjustSo 22 = .ok (.istore 5, 2) := by decide +kernel
theorem dL_isAdjustSo_24 : decode cL_isAdjustSo 24 = .ok (.iconst 5, 1) := by decide +kernel
theorem dL_isAdjustSo_25 : decode cL_isAdjustSo 25 = .ok (.istore 6, 2) := by decide +kernel
theorem dL_isAdjustSo_27 : decode cL_isAdjustSo 27 = .ok (.iload 6, 2) := by decide +kernel
theorem dL_isAdjustSo_29 : decode cL_isAdjustSo 29 = .ok (.ifCond .lt 58, 3) := by decide +kernel
theorem dL_isAdjustSo_32 : decode cL_isAdjustSo 32 = .ok (.iload 4, 2) := by decide +kernel
theorem dL_isAdjustSo_34 : decode cL_isAdjustSo 34 = .ok (.bipush 10, 2) := by decide +kernel
theorem dL_isAdjustSo_36 : decode cL_isAdjustSo 36 = .ok (.irem, 1) := by decide +kernel
theorem dL_isAdjustSo_37 : decode cL_isAdjustSo 37 = .ok (.aload_n 0, 1) := by decide +kernel
theorem dL_isAdjustSo_38 : decode cL_isAdjustSo 38 = .ok (.iload 6, 2) := by decide +kernel
theorem dL_isAdjustSo_40 : decode cL_isAdjustSo 40 = .ok (.iconst 1, 1) := by decide +kernel
theorem dL_isAdjustSo_41 : decode cL_isAdjustSo 41 = .ok (.invokevirtual 48, 3) := by decide +kernel
theorem dL_isAdjustSo_44 : decode cL_isAdjustSo 44 = .ok (.isub, 1) := by decide +kernel
theorem dL_isAdjustSo_45 : decode cL_isAdjustSo 45 = .ok (.bipush 10, 2) := by decide +kernel
theorem dL_isAdjustSo_47 : decode cL_isAdjustSo 47 = .ok (.iadd, 1) := by decide +kernel
theorem dL_isAdjustSo_48 : decode cL_isAdjustSo 48 = .ok (.bipush 10, 2) := by decide +kernel
theorem dL_isAdjustSo_50 : decode cL_isAdjustSo 50 = .ok (.irem, 1) := by decide +kernel
theorem dL_isAdjustSo_51 : decode cL_isAdjustSo 51 = .ok (.istore 7, 2) := by decide +kernel
theorem dL_isAdjustSo_53 : decode cL_isAdjustSo 53 = .ok (.iload 5, 2) := by decide +kernel
theorem dL_isAdjustSo_55 : decode cL_isAdjustSo 55 = .ok (.iload 7, 2) := by decide +kernel
theorem dL_isAdjustSo_57 : decode cL_isAdjustSo 57 = .ok (.iconst 5, 1) := by decide +kernel
theorem dL_isAdjustSo_58 : decode cL_isAdjustSo 58 = .ok (.if_icmp .le 11, 3) := by decide +kernel
theorem dL_isAdjustSo_61 : decode cL_isAdjustSo 61 = .ok (.bipush 10, 2) := by decide +kernel
theorem dL_isAdjustSo_63 : decode cL_isAdjustSo 63 = .ok (.iload 7, 2) := by decide +kernel
theorem dL_isAdjustSo_65 : decode cL_isAdjustSo 65 = .ok (.isub, 1) := by decide +kernel
theorem dL_isAdjustSo_66 : decode cL_isAdjustSo 66 = .ok (.goto 5, 3) := by decide +kernel
theorem dL_isAdjustSo_69 : decode cL_isAdjustSo 69 = .ok (.iload 7, 2) := by decide +kernel
theorem dL_isAdjustSo_71 : decode cL_isAdjustSo 71 = .ok (.iadd, 1) := by decide +kernel
theorem dL_isAdjustSo_72 : decode cL_isAdjustSo 72 = .ok (.istore 5, 2) := by decide +kernel
theorem dL_isAdjustSo_74 : decode cL_isAdjustSo 74 = .ok (.iload 4, 2) := by decide +kernel
theorem dL_isAdjustSo_76 : decode cL_isAdjustSo 76 = .ok (.bipush 10, 2) := by decide +kernel
theorem dL_isAdjustSo_78 : decode cL_isAdjustSo 78 = .ok (.idiv, 1) := by decide +kernel
theorem dL_isAdjustSo_79 : decode cL_isAdjustSo 79 = .ok (.istore 4, 2) := by decide +kernel
theorem dL_isAdjustSo_81 : decode cL_isAdjustSo 81 = .ok (.iinc 6 (-1), 3) := by decide +kernel
theorem dL_isAdjustSo_84 : decode cL_isAdjustSo 84 = .ok (.goto (-57), 3) := by decide +kernel
theorem dL_isAdjustSo_87 : decode cL_isAdjustSo 87 = .ok (.iload 5, 2) := by decide +kernel
theorem dL_isAdjustSo_89 : decode cL_isAdjustSo 89 = .ok (.iload_n 2, 1) := by decide +kernel
theorem dL_isAdjustSo_90 : decode cL_isAdjustSo 90 = .ok (.if_icmp .ne 59, 3) := by decide +kernel
theorem dL_isAdjustSo_93 : decode cL_isAdjustSo 93 = .ok (.aload_n 0, 1) := by decide +kernel
theorem dL_isAdjustSo_94 : decode cL_isAdjustSo 94 = .ok (.iload_n 1, 1) := by decide +kernel
theorem dL_isAdjustSo_95 : decode cL_isAdjustSo 95 = .ok (.invokevirtual 24, 3) := by decide +kernel
theorem dL_isAdjustSo_98 : decode cL_isAdjustSo 98 = .ok (.iload_n 2, 1) := by decide +kernel
theorem dL_isAdjustSo_99 : decode cL_isAdjustSo 99 = .ok (.if_icmp .ne 50, 3) := by decide +kernel
theorem dL_isAdjustSo_102 : decode cL_isAdjustSo 102 = .ok (.aload_n 0, 1) := by decide +kernel
theorem dL_isAdjustSo_103 : decode cL_isAdjustSo 103 = .ok (.iload_n 1, 1) := by decide +kernel
theorem dL_isAdjustSo_104 : decode cL_isAdjustSo 104 = .ok (.invokevirtual 73, 3) := by decide +kernel
theorem dL_isAdjustSo_107 : decode cL_isAdjustSo 107 = .ok (.ifCond .ne 42, 3) := by decide +kernel
theorem dL_isAdjustSo_110 : decode cL_isAdjustSo 110 = .ok (.aload_n 0, 1) := by decide +kernel
theorem dL_isAdjustSo_111 : decode cL_isAdjustSo 111 = .ok (.invokestatic 65, 3) := by decide +kernel
theorem dL_isAdjustSo_114 : decode cL_isAdjustSo 114 = .ok (.aload_n 0, 1) := by decide +kernel
theorem dL_isAdjustSo_115 : decode cL_isAdjustSo 115 = .ok (.iload_n 1, 1) := by decide +kernel
theorem dL_isAdjustSo_116 : decode cL_isAdjustSo 116 = .ok (.iconst 3, 1) := by decide +kernel
theorem dL_isAdjustSo_117 : decode cL_isAdjustSo 117 = .ok (.invokevirtual 51, 3) := by decide +kernel
theorem dL_isAdjustSo_120 : decode cL_isAdjustSo 120 = .ok (.if_icmp .ne 29, 3) := by decide +kernel
theorem dL_isAdjustSo_123 : decode cL_isAdjustSo 123 = .ok (.aload_n 0, 1) := by decide +kernel
theorem dL_isAdjustSo_124 : decode cL_isAdjustSo 124 = .ok (.bipush 9, 2) := by decide +kernel
theorem dL_isAdjustSo_126 : decode cL_isAdjustSo 126 = .ok (.invokevirtual 21, 3) := by decide +kernel
theorem dL_isAdjustSo_129 : decode cL_isAdjustSo 129 = .ok (.iload_n 1, 1) := by decide +kernel
theorem dL_isAdjustSo_130 : decode cL_isAdjustSo 130 = .ok (.if_icmp .ne 19, 3) := by decide +kernel
theorem dL_isAdjustSo_133 : decode cL_isAdjustSo 133 = .ok (.aload_n 0, 1) := by decide +kernel
theorem dL_isAdjustSo_134 : decode cL_isAdjustSo 134 = .ok (.bipush 6, 2) := by decide +kernel
theorem dL_isAdjustSo_136 : decode cL_isAdjustSo 136 = .ok (.invokevirtual 21, 3) := by decide +kernel
theorem dL_isAdjustSo_139 : decode cL_isAdjustSo 139 = .ok (.iload_n 3, 1) := by decide +kernel
theorem dL_isAdjustSo_140 : decode cL_isAdjustSo 140 = .ok (.iload_n 2, 1) := by decide +kernel
theorem dL_isAdjustSo_141 : decode cL_isAdjustSo 141 = .ok (.iadd, 1) := by decide +kernel
theorem dL_isAdjustSo_142 : decode cL_isAdjustSo 142 = .ok (.if_icmp .ne 7, 3) := by decide +kernel
theorem dL_isAdjustSo_145 : decode cL_isAdjustSo 145 = .ok (.iconst 1, 1) := by decide +kernel
theorem dL_isAdjustSo_146 : decode cL_isAdjustSo 146 = .ok (.goto 4, 3) := by decide +kernel
theorem dL_isAdjustSo_149 : decode cL_isAdjustSo 149 = .ok (.iconst 0, 1) := by decide +kernel
theorem dL_isAdjustSo_150 : decode cL_isAdjustSo 150 = .ok (.istore 6, 2) := by decide +kernel
theorem dL_isAdjustSo_152 : decode cL_isAdjustSo 152 = .ok (.aload_n 0, 1) := by decide +kernel
theorem dL_isAdjustSo_153 : decode cL_isAdjustSo 153 = .ok (.invokevirtual 76, 3) := by decide +kernel
theorem dL_isAdjustSo_156 : decode cL_isAdjustSo 156 = .ok (.istore 7, 2) := by decide +kernel
theorem dL_isAdjustSo_158 : decode cL_isAdjustSo 158 = .ok (.iload 6, 2) := by decide +kernel
theorem dL_isAdjustSo_160 : decode cL_isAdjustSo 160 = .ok (.ifCond .eq 22, 3) := by decide +kernel
theorem dL_isAdjustSo_163 : decode cL_isAdjustSo 163 = .ok (.iload 7, 2) := by decide +kernel
theorem dL_isAdjustSo_165 : decode cL_isAdjustSo 165 = .ok (.ifCond .lt 17, 3) := by decide +kernel
theorem dL_isAdjustSo_168 : decode cL_isAdjustSo 168 = .ok (.aload_n 0, 1) := by decide +kernel
theorem dL_isAdjustSo_169 : decode cL_isAdjustSo 169 = .ok (.bipush 6, 2) := by decide +kernel
theorem dL_isAdjustSo_171 : decode cL_isAdjustSo 171 = .ok (.invokevirtual 21, 3) := by decide +kernel
theorem dL_isAdjustSo_174 : decode cL_isAdjustSo 174 = .ok (.iload_n 3, 1) := by decide +kernel
theorem dL_isAdjustSo_175 : decode cL_isAdjustSo 175 = .ok (.if_icmp .ne 7, 3) := by decide +kernel
theorem dL_isAdjustSo_178 : decode cL_isAdjustSo 178 = .ok (.iconst 1, 1) := by decide +kernel
theorem dL_isAdjustSo_179 : decode cL_isAdjustSo 179 = .ok (.goto 4, 3) := by decide +kernel
theorem dL_isAdjustSo_182 : decode cL_isAdjustSo 182 = .ok (.iconst 0, 1) := by decide +kernel
theorem dL_isAdjustSo_183 : decode cL_isAdjustSo 183 = .ok (.ireturn, 1) := by decide +kernel
set_option maxRecDepth 20000 in
theorem ggL_isPrintSo_L_shown : GoodIn wsL_isPrintSo wsL_shown := goodIn_r _ [5, 6, 7, 8, 9, 10, 11, 12, 13, 14, 15, 16, 17, 18, 19, 20, 21, 22, 23, 24, 25, 26, 27, 28, 29, 30, 31, 32, 33, 34, 35, 36, 37, 38, 39, 40, 41, 42, 43, 44, 45, 46, 47, 48, 49, 320, 321, 322, 323, 324, 325, 326, 327, 328, 329, 330, 331, 332, 333, 334, 335, 336, 337, 338, 339, 340, 341, 342, 343, 344] (by decide +kernel) (by decide +kernel)
set_option maxRecDepth 20000 in
theorem gL_isPrintSo_L_shown : GoodIn wsL_isPrintSo (va_wsS RL 65 yL_shown wsL_shown) := goodIn_app (goodIn_of _ (by decide +kernel)) ggL_isPrintSo_L_shown
set_option maxRecDepth 20000 in
theorem ggL_isPrintSo_X8_count : GoodIn wsL_isPrintSo wsX8_count := goodIn_r _ [53, 11, 54, 12, 55, 56, 57, 58, 59, 60, 61, 62, 63, 64, 65, 66, 67, 68, 69, 70, 71, 45, 72, 73, 48, 74, 75, 76, 77, 78, 79, 80, 81, 82, 83, 84, 85, 86, 87, 88, 89, 90, 91, 92, 93, 94, 95, 96, 97, 98, 99, 100, 101, 102, 320, 321, 322, 323, 324, 325, 326, 327, 328, 329, 330, 331, 332, 333, 334, 335, 336, 337, 338, 339, 340, 345, 346, 347, 348, 349, 350, 351, 352, 353, 354, 355, 356, 357, 358, 341, 342, 343, 344] (by decide +kernel) (by decide +kernel)
set_option maxRecDepth 20000 in
theorem gL_isPrintSo_X8_count : GoodIn wsL_isPrintSo (wsV RL 21 RX8 yX8_count wsX8_count) := goodIn_app (goodIn_of _ (by decide +kernel)) ggL_isPrintSo_X8_count
set_option maxRecDepth 20000 in
theorem ggL_isPrintSo_X8_band : GoodIn wsL_isPrintSo wsX8_band := goodIn_r _ [10, 11, 12, 13, 14, 15, 16, 17, 18, 9, 19, 20, 21, 22, 23, 24, 25, 26, 27, 28, 29, 30, 31, 32, 33, 34, 35, 36, 37, 38, 39, 40, 41, 42, 43, 44, 45, 46, 47, 48, 49, 320, 321, 322, 323, 324, 325, 326, 327, 328, 329, 330, 331, 332, 333, 334, 335, 336, 337, 338, 339, 340, 341, 342, 343, 344] (by decide +kernel) (by decide +kernel)
set_option maxRecDepth 20000 in
theorem gL_isPrintSo_X8_band : GoodIn wsL_isPrintSo (wsV RL 48 RX8 yX8_band wsX8_band) := goodIn_app (goodIn_of _ (by decide +kernel)) ggL_isPrintSo_X8_band
set_option maxRecDepth 20000 in
theorem ggL_isPrintSo_X8_wear : GoodIn wsL_isPrintSo wsX8_wear := goodIn_r _ [106, 11, 12, 13, 17, 18, 9, 19, 20, 21, 22, 33, 30, 31, 26, 32, 28, 320, 321, 322, 323, 324, 325, 326, 327, 328, 329, 330, 331, 332, 333, 334, 335, 336, 337, 338, 339, 340, 341, 342, 343, 344] (by decide +kernel) (by decide +kernel)
set_option maxRecDepth 20000 in
theorem gL_isPrintSo_X8_wear : GoodIn wsL_isPrintSo (wsV RL 62 RX8 yX8_wear wsX8_wear) := goodIn_app (goodIn_of _ (by decide +kernel)) ggL_isPrintSo_X8_wear
set_option maxRecDepth 20000 in
theorem ggL_isPrintSo_X8_rightOf : GoodIn wsL_isPrintSo wsX8_rightOf := goodIn_r _ [110, 11, 111, 112, 76, 113, 114, 115, 116, 117, 118, 119, 120, 121, 122, 123, 320, 321, 322, 323, 324, 325, 326, 327, 328, 329, 330, 331, 332, 333, 345, 346, 347, 348] (by decide +kernel) (by decide +kernel)
set_option maxRecDepth 20000 in
theorem gL_isPrintSo_X8_rightOf : GoodIn wsL_isPrintSo (wsV RL 80 RX8 yX8_rightOf wsX8_rightOf) := goodIn_app (goodIn_of _ (by decide +kernel)) ggL_isPrintSo_X8_rightOf
set_option maxRecDepth 20000 in
theorem ggL_isPrintSo_X8_press : GoodIn wsL_isPrintSo wsX8_press := goodIn_r _ [127, 64, 11, 128, 129, 9, 130, 20, 21, 22, 131, 132, 133, 134, 135, 136, 137, 138, 139, 140, 141, 142, 143, 144, 118, 145, 146, 147, 148, 149, 150, 151, 152, 120, 153, 154, 155, 45, 156, 73, 157, 158, 159, 160, 161, 47, 162, 163, 164, 165, 166, 26, 167, 168, 169, 170, 28, 171, 172, 173, 174, 175, 176, 177, 178, 179, 180, 181, 182, 183, 184, 185, 186, 187, 188, 189, 190, 191, 192, 193, 194, 195, 75, 76, 77, 78, 79, 80, 81, 82, 83, 84, 85, 86, 87, 88, 89, 90, 196, 197, 198, 199, 200, 201, 202, 203, 204, 70, 71, 72, 48, 205, 206, 207, 208, 209, 210, 211, 212, 40, 213, 214, 215, 43, 44, 46, 49, 30, 31, 32, 216, 217, 218, 219, 220, 221, 222, 223, 224, 225, 226, 227, 38, 39, 41, 228, 229, 230, 231, 232, 233, 234, 235, 236, 237, 238, 239, 240, 241, 242, 243, 244, 245, 246, 247, 248, 249, 250, 251, 252, 121, 253, 254, 255, 122, 123, 256, 257, 258, 259, 260, 261, 262, 263, 264, 265, 320, 321, 322, 323, 324, 325, 349, 350, 326, 327, 328, 329, 330, 331, 332, 333, 334, 335, 336, 337, 338, 339, 340, 341, 342, 343, 344, 359, 360, 361, 362, 363, 364, 345, 346, 347, 348] (by decide +kernel) (by decide +kernel)
set_option maxRecDepth 20000 in
theorem gL_isPrintSo_X8_press : GoodIn wsL_isPrintSo (wsV RL 45 RX8 yX8_press wsX8_press) := goodIn_app (goodIn_of _ (by decide +kernel)) ggL_isPrintSo_X8_press
set_option maxRecDepth 20000 in
theorem ggL_isPrintSo_X8_print : GoodIn wsL_isPrintSo wsX8_print := goodIn_r _ [269, 11, 270, 271, 272, 273, 274, 275, 276, 277, 278, 279, 118, 280, 149, 281, 197, 198, 199, 200, 201, 202, 203, 282, 283, 284, 175, 285, 179, 180, 286, 287, 76, 288, 289, 290, 291, 94, 95, 96, 292, 293, 294, 84, 85, 86, 295, 296, 297, 298, 299, 300, 97, 98, 99, 87, 88, 89, 90, 301, 302, 303, 100, 101, 102, 304, 305, 306, 307, 308, 309, 310, 81, 82, 83, 311, 92, 93, 78, 79, 80, 320, 321, 322, 323, 324, 325, 326, 327, 328, 329, 330, 331, 332, 333, 359, 360, 361, 362, 363, 364] (by decide +kernel) (by decide +kernel)
set_option maxRecDepth 20000 in
theorem gL_isPrintSo_X8_print : GoodIn wsL_isPrintSo (wsV RL 83 RX8 yX8_print wsX8_print) := goodIn_app (goodIn_of _ (by decide +kernel)) ggL_isPrintSo_X8_print
set_option maxRecDepth 20000 in
theorem ggL_isPrintSo_X8_undo : GoodIn wsL_isPrintSo wsX8_undo := goodIn_r _ [315, 64, 65, 11, 316, 317, 318, 134, 319, 136, 137, 142, 143, 144, 118, 145, 146, 147, 148, 149, 150, 151, 152, 120, 153, 154, 155, 45, 156, 73, 157, 158, 159, 160, 161, 47, 162, 163, 164, 165, 166, 26, 167, 168, 169, 170, 28, 171, 172, 173, 174, 175, 176, 177, 178, 179, 180, 181, 182, 320, 321, 322, 323, 324, 325, 349, 350, 326, 327, 328, 329, 330, 331, 332, 333, 334, 335, 336, 337, 338, 339, 340, 341, 342, 343, 344, 359, 360, 361, 362, 363, 364] (by decide +kernel) (by decide +kernel)
set_option maxRecDepth 20000 in
theorem gL_isPrintSo_X8_undo : GoodIn wsL_isPrintSo (wsV RL 76 RX8 yX8_undo wsX8_undo) := goodIn_app (goodIn_of _ (by decide +kernel)) ggL_isPrintSo_X8_undo
theorem dL_isPrintSo_0 : decode cL_isPrintSo 0 = .ok (.iconst 0, 1) := by decide +kernel
theorem dL_isPrintSo_1 : decode cL_isPrintSo 1 = .ok (.istore_n 2, 1) := by decide +kernel
theorem dL_isPrintSo_2 : decode cL_isPrintSo 2 = .ok (.iconst 0, 1) := by decide +kernel
theorem dL_isPrintSo_3 : decode cL_isPrintSo 3 = .ok (.istore_n 3, 1) := by decide +kernel
theorem dL_isPrintSo_4 : decode cL_isPrintSo 4 = .ok (.iconst 0, 1) := by decide +kernel
theorem dL_isPrintSo_5 : decode cL_isPrintSo 5 = .ok (.istore 4, 2) := by decide +kernel
theorem dL_isPrintSo_7 : decode cL_isPrintSo 7 = .ok (.aload_n 0, 1) := by decide +kernel
theorem dL_isPrintSo_8 : decode cL_isPrintSo 8 = .ok (.invokestatic 65, 3) := by decide +kernel
theorem dL_isPrintSo_11 : decode cL_isPrintSo 11 = .ok (.istore 5, 2) := by decide +kernel
theorem dL_isPrintSo_13 : decode cL_isPrintSo 13 = .ok (.aload_n 0, 1) := by decide +kernel
theorem dL_isPrintSo_14 : decode cL_isPrintSo 14 = .ok (.iconst 1, 1) := by decide +kernel
theorem dL_isPrintSo_15 : decode cL_isPrintSo 15 = .ok (.invokevirtual 21, 3) := by decide +kernel
theorem dL_isPrintSo_18 : decode cL_isPrintSo 18 = .ok (.istore 6, 2) := by decide +kernel
theorem dL_isPrintSo_20 : decode cL_isPrintSo 20 = .ok (.bipush 6, 2) := by decide +kernel
theorem dL_isPrintSo_22 : decode cL_isPrintSo 22 = .ok (.newarray .int, 2) := by decide +kernel
theorem dL_isPrintSo_24 : decode cL_isPrintSo 24 = .ok (.astore 7, 2) := by decide +kernel
theorem dL_isPrintSo_26 : decode cL_isPrintSo 26 = .ok (.bipush 6, 2) := by decide +kernel
theorem dL_isPrintSo_28 : decode cL_isPrintSo 28 = .ok (.newarray .int, 2) := by decide +kernel
theorem dL_isPrintSo_30 : decode cL_isPrintSo 30 = .ok (.astore 8, 2) := by decide +kernel
theorem dL_isPrintSo_32 : decode cL_isPrintSo 32 = .ok (.bipush 6, 2) := by decide +kernel
theorem dL_isPrintSo_34 : decode cL_isPrintSo 34 = .ok (.newarray .int, 2) := by decide +kernel
theorem dL_isPrintSo_36 : decode cL_isPrintSo 36 = .ok (.astore 9, 2) := by decide +kernel
theorem dL_isPrintSo_38 : decode cL_isPrintSo 38 = .ok (.iconst 0, 1) := by decide +kernel
theorem dL_isPrintSo_39 : decode cL_isPrintSo 39 = .ok (.istore 10, 2) := by decide +kernel
theorem dL_isPrintSo_41 : decode cL_isPrintSo 41 = .ok (.iload 10, 2) := by decide +kernel
theorem dL_isPrintSo_43 : decode cL_isPrintSo 43 = .ok (.bipush 6, 2) := by decide +kernel
theorem dL_isPrintSo_45 : decode cL_isPrintSo 45 = .ok (.if_icmp .ge 142, 3) := by decide +kernel
theorem dL_isPrintSo_48 : decode cL_isPrintSo 48 = .ok (.aload 8, 2) := by decide +kernel
theorem dL_isPrintSo_50 : decode cL_isPrintSo 50 = .ok (.iload 10, 2) := by decide +kernel
theorem dL_isPrintSo_52 : decode cL_isPrintSo 52 = .ok (.aload_n 0, 1) := by decide +kernel
theorem dL_isPrintSo_53 : decode cL_isPrintSo 53 = .ok (.iload 10, 2) := by decide +kernel
theorem dL_isPrintSo_55 : decode cL_isPrintSo 55 = .ok (.iconst 1, 1) := by decide +kernel
theorem dL_isPrintSo_56 : decode cL_isPrintSo 56 = .ok (.invokevirtual 48, 3) := by decide +kernel
theorem dL_isPrintSo_59 : decode cL_isPrintSo 59 = .ok (.iastore, 1) := by decide +kernel
theorem dL_isPrintSo_60 : decode cL_isPrintSo 60 = .ok (.aload 9, 2) := by decide +kernel
theorem dL_isPrintSo_62 : decode cL_isPrintSo 62 = .ok (.iload 10, 2) := by decide +kernel
theorem dL_isPrintSo_64 : decode cL_isPrintSo 64 = .ok (.aload_n 0, 1) := by decide +kernel
theorem dL_isPrintSo_65 : decode cL_isPrintSo 65 = .ok (.iload 10, 2) := by decide +kernel
theorem dL_isPrintSo_67 : decode cL_isPrintSo 67 = .ok (.iconst 2, 1) := by decide +kernel
theorem dL_isPrintSo_68 : decode cL_isPrintSo 68 = .ok (.invokevirtual 48, 3) := by decide +kernel
theorem dL_isPrintSo_71 : decode cL_isPrintSo 71 = .ok (.iastore, 1) := by decide +kernel
theorem dL_isPrintSo_72 : decode cL_isPrintSo 72 = .ok (.aload 7, 2) := by decide +kernel
theorem dL_isPrintSo_74 : decode cL_isPrintSo 74 = .ok (.iload 10, 2) := by decide +kernel
theorem dL_isPrintSo_76 : decode cL_isPrintSo 76 = .ok (.aload_n 0, 1) := by decide +kernel
theorem dL_isPrintSo_77 : decode cL_isPrintSo 77 = .ok (.iload 10, 2) := by decide +kernel
theorem dL_isPrintSo_79 : decode cL_isPrintSo 79 = .ok (.aload 8, 2) := by decide +kernel
theorem dL_isPrintSo_81 : decode cL_isPrintSo 81 = .ok (.iload 10, 2) := by decide +kernel
theorem dL_isPrintSo_83 : decode cL_isPrintSo 83 = .ok (.iaload, 1) := by decide +kernel
theorem dL_isPrintSo_84 : decode cL_isPrintSo 84 = .ok (.invokevirtual 62, 3) := by decide +kernel
theorem dL_isPrintSo_87 : decode cL_isPrintSo 87 = .ok (.iastore, 1) := by decide +kernel
theorem dL_isPrintSo_88 : decode cL_isPrintSo 88 = .ok (.bipush 8, 2) := by decide +kernel
theorem dL_isPrintSo_90 : decode cL_isPrintSo 90 = .ok (.iload_n 1, 1) := by decide +kernel
theorem dL_isPrintSo_91 : decode cL_isPrintSo 91 = .ok (.imul, 1) := by decide +kernel
theorem dL_isPrintSo_92 : decode cL_isPrintSo 92 = .ok (.iload 6, 2) := by decide +kernel
theorem dL_isPrintSo_94 : decode cL_isPrintSo 94 = .ok (.iconst 4, 1) := by decide +kernel
theorem dL_isPrintSo_95 : decode cL_isPrintSo 95 = .ok (.idiv, 1) := by decide +kernel
theorem dL_isPrintSo_96 : decode cL_isPrintSo 96 = .ok (.iadd, 1) := by decide +kernel
theorem dL_isPrintSo_97 : decode cL_isPrintSo 97 = .ok (.aload 7, 2) := by decide +kernel
theorem dL_isPrintSo_99 : decode cL_isPrintSo 99 = .ok (.iload 10, 2) := by decide +kernel
theorem dL_isPrintSo_101 : decode cL_isPrintSo 101 = .ok (.iaload, 1) := by decide +kernel
theorem dL_isPrintSo_102 : decode cL_isPrintSo 102 = .ok (.isub, 1) := by decide +kernel
theorem dL_isPrintSo_103 : decode cL_isPrintSo 103 = .ok (.istore 11, 2) := by decide +kernel
theorem dL_isPrintSo_105 : decode cL_isPrintSo 105 = .ok (.iload_n 2, 1) := by decide +kernel
theorem dL_isPrintSo_106 : decode cL_isPrintSo 106 = .ok (.iload 11, 2) := by decide +kernel
theorem dL_isPrintSo_108 : decode cL_isPrintSo 108 = .ok (.aload_n 0, 1) := by decide +kernel
theorem dL_isPrintSo_109 : decode cL_isPrintSo 109 = .ok (.bipush 13, 2) := by decide +kernel
theorem dL_isPrintSo_111 : decode cL_isPrintSo 111 = .ok (.invokevirtual 21, 3) := by decide +kernel
theorem dL_isPrintSo_114 : decode cL_isPrintSo 114 = .ok (.if_icmp .ge 10, 3) := by decide +kernel
theorem dL_isPrintSo_117 : decode cL_isPrintSo 117 = .ok (.iconst 1, 1) := by decide +kernel
theorem dL_isPrintSo_118 : decode cL_isPrintSo 118 = .ok (.iload 10, 2) := by decide +kernel
theorem dL_isPrintSo_120 : decode cL_isPrintSo 120 = .ok (.ishl, 1) := by decide +kernel
theorem dL_isPrintSo_121 : decode cL_isPrintSo 121 = .ok (.goto 4, 3) := by decide +kernel
theorem dL_isPrintSo_124 : decode cL_isPrintSo 124 = .ok (.iconst 0, 1) := by decide +kernel
theorem dL_isPrintSo_125 : decode cL_isPrintSo 125 = .ok (.ior, 1) := by decide +kernel
theorem dL_isPrintSo_126 : decode cL_isPrintSo 126 = .ok (.istore_n 2, 1) := by decide +kernel
theorem dL_isPrintSo_127 : decode cL_isPrintSo 127 = .ok (.iload_n 3, 1) := by decide +kernel
theorem dL_isPrintSo_128 : decode cL_isPrintSo 128 = .ok (.iload 11, 2) := by decide +kernel
theorem dL_isPrintSo_130 : decode cL_isPrintSo 130 = .ok (.aload_n 0, 1) := by decide +kernel
theorem dL_isPrintSo_131 : decode cL_isPrintSo 131 = .ok (.bipush 14, 2) := by decide +kernel
theorem dL_isPrintSo_133 : decode cL_isPrintSo 133 = .ok (.invokevirtual 21, 3) := by decide +kernel
theorem dL_isPrintSo_136 : decode cL_isPrintSo 136 = .ok (.if_icmp .le 10, 3) := by decide +kernel
theorem dL_isPrintSo_139 : decode cL_isPrintSo 139 = .ok (.iconst 1, 1) := by decide +kernel
theorem dL_isPrintSo_140 : decode cL_isPrintSo 140 = .ok (.iload 10, 2) := by decide +kernel
theorem dL_isPrintSo_142 : decode cL_isPrintSo 142 = .ok (.ishl, 1) := by decide +kernel
theorem dL_isPrintSo_143 : decode cL_isPrintSo 143 = .ok (.goto 4, 3) := by decide +kernel
theorem dL_isPrintSo_146 : decode cL_isPrintSo 146 = .ok (.iconst 0, 1) := by decide +kernel
theorem dL_isPrintSo_147 : decode cL_isPrintSo 147 = .ok (.ior, 1) := by decide +kernel
theorem dL_isPrintSo_148 : decode cL_isPrintSo 148 = .ok (.istore_n 3, 1) := by decide +kernel
theorem dL_isPrintSo_149 : decode cL_isPrintSo 149 = .ok (.iload 4, 2) := by decide +kernel
theorem dL_isPrintSo_151 : decode cL_isPrintSo 151 = .ok (.iload 11, 2) := by decide +kernel
theorem dL_isPrintSo_153 : decode cL_isPrintSo 153 = .ok (.aload_n 0, 1) := by decide +kernel
theorem dL_isPrintSo_154 : decode cL_isPrintSo 154 = .ok (.bipush 13, 2) := by decide +kernel
theorem dL_isPrintSo_156 : decode cL_isPrintSo 156 = .ok (.invokevirtual 21, 3) := by decide +kernel
theorem dL_isPrintSo_159 : decode cL_isPrintSo 159 = .ok (.if_icmp .lt 14, 3) := by decide +kernel
theorem dL_isPrintSo_162 : decode cL_isPrintSo 162 = .ok (.iload 11, 2) := by decide +kernel
theorem dL_isPrintSo_164 : decode cL_isPrintSo 164 = .ok (.aload_n 0, 1) := by decide +kernel
theorem dL_isPrintSo_165 : decode cL_isPrintSo 165 = .ok (.bipush 14, 2) := by decide +kernel
theorem dL_isPrintSo_167 : decode cL_isPrintSo 167 = .ok (.invokevirtual 21, 3) := by decide +kernel
theorem dL_isPrintSo_170 : decode cL_isPrintSo 170 = .ok (.if_icmp .le 7, 3) := by decide +kernel
theorem dL_isPrintSo_173 : decode cL_isPrintSo 173 = .ok (.iconst 1, 1) := by decide +kernel
theorem dL_isPrintSo_174 : decode cL_isPrintSo 174 = .ok (.goto 4, 3) := by decide +kernel
theorem dL_isPrintSo_177 : decode cL_isPrintSo 177 = .ok (.iconst 0, 1) := by decide +kernel
theorem dL_isPrintSo_178 : decode cL_isPrintSo 178 = .ok (.iadd, 1) := by decide +kernel
theorem dL_isPrintSo_179 : decode cL_isPrintSo 179 = .ok (.istore 4, 2) := by decide +kernel
theorem dL_isPrintSo_181 : decode cL_isPrintSo 181 = .ok (.iinc 10 1, 3) := by decide +kernel
theorem dL_isPrintSo_184 : decode cL_isPrintSo 184 = .ok (.goto (-143), 3) := by decide +kernel
theorem dL_isPrintSo_187 : decode cL_isPrintSo 187 = .ok (.aload_n 0, 1) := by decide +kernel
theorem dL_isPrintSo_188 : decode cL_isPrintSo 188 = .ok (.iconst 0, 1) := by decide +kernel
theorem dL_isPrintSo_189 : decode cL_isPrintSo 189 = .ok (.invokevirtual 21, 3) := by decide +kernel
theorem dL_isPrintSo_192 : decode cL_isPrintSo 192 = .ok (.istore 10, 2) := by decide +kernel
theorem dL_isPrintSo_194 : decode cL_isPrintSo 194 = .ok (.aload_n 0, 1) := by decide +kernel
theorem dL_isPrintSo_195 : decode cL_isPrintSo 195 = .ok (.bipush 8, 2) := by decide +kernel
theorem dL_isPrintSo_197 : decode cL_isPrintSo 197 = .ok (.invokevirtual 21, 3) := by decide +kernel
theorem dL_isPrintSo_200 : decode cL_isPrintSo 200 = .ok (.iconst 1, 1) := by decide +kernel
theorem dL_isPrintSo_201 : decode cL_isPrintSo 201 = .ok (.if_icmp .ne 12, 3) := by decide +kernel
theorem dL_isPrintSo_204 : decode cL_isPrintSo 204 = .ok (.iload 4, 2) := by decide +kernel
theorem dL_isPrintSo_206 : decode cL_isPrintSo 206 = .ok (.ifCond .ne 7, 3) := by decide +kernel
theorem dL_isPrintSo_209 : decode cL_isPrintSo 209 = .ok (.iconst 1, 1) := by decide +kernel
theorem dL_isPrintSo_210 : decode cL_isPrintSo 210 = .ok (.goto 4, 3) := by decide +kernel
theorem dL_isPrintSo_213 : decode cL_isPrintSo 213 = .ok (.iconst 0, 1) := by decide +kernel
theorem dL_isPrintSo_214 : decode cL_isPrintSo 214 = .ok (.istore 11, 2) := by decide +kernel
theorem dL_isPrintSo_216 : decode cL_isPrintSo 216 = .ok (.aload_n 0, 1) := by decide +kernel
theorem dL_isPrintSo_217 : decode cL_isPrintSo 217 = .ok (.iload 10, 2) := by decide +kernel
theorem dL_isPrintSo_219 : decode cL_isPrintSo 219 = .ok (.invokevirtual 80, 3) := by decide +kernel
theorem dL_isPrintSo_222 : decode cL_isPrintSo 222 = .ok (.istore 12, 2) := by decide +kernel
theorem dL_isPrintSo_224 : decode cL_isPrintSo 224 = .ok (.aload_n 0, 1) := by decide +kernel
theorem dL_isPrintSo_225 : decode cL_isPrintSo 225 = .ok (.iconst 2, 1) := by decide +kernel
theorem dL_isPrintSo_226 : decode cL_isPrintSo 226 = .ok (.invokevirtual 21, 3) := by decide +kernel
theorem dL_isPrintSo_229 : decode cL_isPrintSo 229 = .ok (.istore 13, 2) := by decide +kernel
theorem dL_isPrintSo_231 : decode cL_isPrintSo 231 = .ok (.aload_n 0, 1) := by decide +kernel
theorem dL_isPrintSo_232 : decode cL_isPrintSo 232 = .ok (.iconst 4, 1) := by decide +kernel
theorem dL_isPrintSo_233 : decode cL_isPrintSo 233 = .ok (.invokevirtual 21, 3) := by decide +kernel
theorem dL_isPrintSo_236 : decode cL_isPrintSo 236 = .ok (.aload_n 0, 1) := by decide +kernel
theorem dL_isPrintSo_237 : decode cL_isPrintSo 237 = .ok (.iconst 5, 1) := by decide +kernel
theorem dL_isPrintSo_238 : decode cL_isPrintSo 238 = .ok (.invokevirtual 21, 3) := by decide +kernel
theorem dL_isPrintSo_241 : decode cL_isPrintSo 241 = .ok (.iadd, 1) := by decide +kernel
theorem dL_isPrintSo_242 : decode cL_isPrintSo 242 = .ok (.istore 14, 2) := by decide +kernel
theorem dL_isPrintSo_244 : decode cL_isPrintSo 244 = .ok (.aload_n 0, 1) := by decide +kernel
theorem dL_isPrintSo_245 : decode cL_isPrintSo 245 = .ok (.iload_n 1, 1) := by decide +kernel
theorem dL_isPrintSo_246 : decode cL_isPrintSo 246 = .ok (.iconst 1, 1) := by decide +kernel
theorem dL_isPrintSo_247 : decode cL_isPrintSo 247 = .ok (.invokevirtual 45, 3) := by decide +kernel
theorem dL_isPrintSo_250 : decode cL_isPrintSo 250 = .ok (.iload 11, 2) := by decide +kernel
theorem dL_isPrintSo_252 : decode cL_isPrintSo 252 = .ok (.if_icmp .ne 137, 3) := by decide +kernel
theorem dL_isPrintSo_255 : decode cL_isPrintSo 255 = .ok (.aload_n 0, 1) := by decide +kernel
theorem dL_isPrintSo_256 : decode cL_isPrintSo 256 = .ok (.iconst 0, 1) := by decide +kernel
theorem dL_isPrintSo_257 : decode cL_isPrintSo 257 = .ok (.iconst 0, 1) := by decide +kernel
theorem dL_isPrintSo_258 : decode cL_isPrintSo 258 = .ok (.invokevirtual 83, 3) := by decide +kernel
theorem dL_isPrintSo_261 : decode cL_isPrintSo 261 = .ok (.iload 5, 2) := by decide +kernel
theorem dL_isPrintSo_263 : decode cL_isPrintSo 263 = .ok (.if_icmp .ne 126, 3) := by decide +kernel
theorem dL_isPrintSo_266 : decode cL_isPrintSo 266 = .ok (.aload_n 0, 1) := by decide +kernel
theorem dL_isPrintSo_267 : decode cL_isPrintSo 267 = .ok (.iconst 0, 1) := by decide +kernel
theorem dL_isPrintSo_268 : decode cL_isPrintSo 268 = .ok (.iconst 1, 1) := by decide +kernel
theorem dL_isPrintSo_269 : decode cL_isPrintSo 269 = .ok (.invokevirtual 83, 3) := by decide +kernel
theorem dL_isPrintSo_272 : decode cL_isPrintSo 272 = .ok (.iload 10, 2) := by decide +kernel
theorem dL_isPrintSo_274 : decode cL_isPrintSo 274 = .ok (.if_icmp .ne 115, 3) := by decide +kernel
theorem dL_isPrintSo_277 : decode cL_isPrintSo 277 = .ok (.aload_n 0, 1) := by decide +kernel
theorem dL_isPrintSo_278 : decode cL_isPrintSo 278 = .ok (.iconst 0, 1) := by decide +kernel
theorem dL_isPrintSo_279 : decode cL_isPrintSo 279 = .ok (.iconst 2, 1) := by decide +kernel
theorem dL_isPrintSo_280 : decode cL_isPrintSo 280 = .ok (.invokevirtual 83, 3) := by decide +kernel
theorem dL_isPrintSo_283 : decode cL_isPrintSo 283 = .ok (.iload_n 2, 1) := by decide +kernel
theorem dL_isPrintSo_284 : decode cL_isPrintSo 284 = .ok (.if_icmp .ne 105, 3) := by decide +kernel
theorem dL_isPrintSo_287 : decode cL_isPrintSo 287 = .ok (.aload_n 0, 1) := by decide +kernel
theorem dL_isPrintSo_288 : decode cL_isPrintSo 288 = .ok (.iconst 0, 1) := by decide +kernel
theorem dL_isPrintSo_289 : decode cL_isPrintSo 289 = .ok (.iconst 3, 1) := by decide +kernel
theorem dL_isPrintSo_290 : decode cL_isPrintSo 290 = .ok (.invokevirtual 83, 3) := by decide +kernel
theorem dL_isPrintSo_293 : decode cL_isPrintSo 293 = .ok (.iload_n 3, 1) := by decide +kernel
theorem dL_isPrintSo_294 : decode cL_isPrintSo 294 = .ok (.if_icmp .ne 95, 3) := by decide +kernel
theorem dL_isPrintSo_297 : decode cL_isPrintSo 297 = .ok (.aload_n 0, 1) := by decide +kernel
theorem dL_isPrintSo_298 : decode cL_isPrintSo 298 = .ok (.iconst 0, 1) := by decide +kernel
theorem dL_isPrintSo_299 : decode cL_isPrintSo 299 = .ok (.iconst 4, 1) := by decide +kernel
theorem dL_isPrintSo_300 : decode cL_isPrintSo 300 = .ok (.invokevirtual 83, 3) := by decide +kernel
theorem dL_isPrintSo_303 : decode cL_isPrintSo 303 = .ok (.iload 11, 2) := by decide +kernel
theorem dL_isPrintSo_305 : decode cL_isPrintSo 305 = .ok (.if_icmp .ne 84, 3) := by decide +kernel
theorem dL_isPrintSo_308 : decode cL_isPrintSo 308 = .ok (.aload_n 0, 1) := by decide +kernel
theorem dL_isPrintSo_309 : decode cL_isPrintSo 309 = .ok (.iconst 0, 1) := by decide +kernel
theorem dL_isPrintSo_310 : decode cL_isPrintSo 310 = .ok (.iconst 5, 1) := by decide +kernel
theorem dL_isPrintSo_311 : decode cL_isPrintSo 311 = .ok (.invokevirtual 83, 3) := by decide +kernel
theorem dL_isPrintSo_314 : decode cL_isPrintSo 314 = .ok (.iload_n 1, 1) := by decide +kernel
theorem dL_isPrintSo_315 : decode cL_isPrintSo 315 = .ok (.if_icmp .ne 74, 3) := by decide +kernel
theorem dL_isPrintSo_318 : decode cL_isPrintSo 318 = .ok (.aload_n 0, 1) := by decide +kernel
theorem dL_isPrintSo_319 : decode cL_isPrintSo 319 = .ok (.iload 10, 2) := by decide +kernel
theorem dL_isPrintSo_321 : decode cL_isPrintSo 321 = .ok (.invokevirtual 80, 3) := by decide +kernel
theorem dL_isPrintSo_324 : decode cL_isPrintSo 324 = .ok (.iload 12, 2) := by decide +kernel
theorem dL_isPrintSo_326 : decode cL_isPrintSo 326 = .ok (.iload 11, 2) := by decide +kernel
theorem dL_isPrintSo_328 : decode cL_isPrintSo 328 = .ok (.iadd, 1) := by decide +kernel
theorem dL_isPrintSo_329 : decode cL_isPrintSo 329 = .ok (.if_icmp .ne 60, 3) := by decide +kernel
theorem dL_isPrintSo_332 : decode cL_isPrintSo 332 = .ok (.aload_n 0, 1) := by decide +kernel
theorem dL_isPrintSo_333 : decode cL_isPrintSo 333 = .ok (.iconst 2, 1) := by decide +kernel
theorem dL_isPrintSo_334 : decode cL_isPrintSo 334 = .ok (.invokevirtual 21, 3) := by decide +kernel
theorem dL_isPrintSo_337 : decode cL_isPrintSo 337 = .ok (.iload 13, 2) := by decide +kernel
theorem dL_isPrintSo_339 : decode cL_isPrintSo 339 = .ok (.iconst 1, 1) := by decide +kernel
theorem dL_isPrintSo_340 : decode cL_isPrintSo 340 = .ok (.iadd, 1) := by decide +kernel
theorem dL_isPrintSo_341 : decode cL_isPrintSo 341 = .ok (.if_icmp .ne 48, 3) := by decide +kernel
theorem dL_isPrintSo_344 : decode cL_isPrintSo 344 = .ok (.aload_n 0, 1) := by decide +kernel
theorem dL_isPrintSo_345 : decode cL_isPrintSo 345 = .ok (.iconst 4, 1) := by decide +kernel
theorem dL_isPrintSo_346 : decode cL_isPrintSo 346 = .ok (.invokevirtual 21, 3) := by decide +kernel
theorem dL_isPrintSo_349 : decode cL_isPrintSo 349 = .ok (.aload_n 0, 1) := by decide +kernel
theorem dL_isPrintSo_350 : decode cL_isPrintSo 350 = .ok (.iconst 5, 1) := by decide +kernel
theorem dL_isPrintSo_351 : decode cL_isPrintSo 351 = .ok (.invokevirtual 21, 3) := by decide +kernel
theorem dL_isPrintSo_354 : decode cL_isPrintSo 354 = .ok (.iadd, 1) := by decide +kernel
theorem dL_isPrintSo_355 : decode cL_isPrintSo 355 = .ok (.iload 14, 2) := by decide +kernel
theorem dL_isPrintSo_357 : decode cL_isPrintSo 357 = .ok (.iload 4, 2) := by decide +kernel
theorem dL_isPrintSo_359 : decode cL_isPrintSo 359 = .ok (.iadd, 1) := by decide +kernel
theorem dL_isPrintSo_360 : decode cL_isPrintSo 360 = .ok (.if_icmp .ne 29, 3) := by decide +kernel
theorem dL_isPrintSo_363 : decode cL_isPrintSo 363 = .ok (.aload_n 0, 1) := by decide +kernel
theorem dL_isPrintSo_364 : decode cL_isPrintSo 364 = .ok (.iconst 1, 1) := by decide +kernel
theorem dL_isPrintSo_365 : decode cL_isPrintSo 365 = .ok (.invokevirtual 21, 3) := by decide +kernel
theorem dL_isPrintSo_368 : decode cL_isPrintSo 368 = .ok (.iload 6, 2) := by decide +kernel
theorem dL_isPrintSo_370 : decode cL_isPrintSo 370 = .ok (.iload_n 1, 1) := by decide +kernel
theorem dL_isPrintSo_371 : decode cL_isPrintSo 371 = .ok (.if_icmp .le 10, 3) := by decide +kernel
theorem dL_isPrintSo_374 : decode cL_isPrintSo 374 = .ok (.iload 6, 2) := by decide +kernel
theorem dL_isPrintSo_376 : decode cL_isPrintSo 376 = .ok (.iload_n 1, 1) := by decide +kernel
theorem dL_isPrintSo_377 : decode cL_isPrintSo 377 = .ok (.isub, 1) := by decide +kernel
theorem dL_isPrintSo_378 : decode cL_isPrintSo 378 = .ok (.goto 4, 3) := by decide +kernel
theorem dL_isPrintSo_381 : decode cL_isPrintSo 381 = .ok (.iconst 0, 1) := by decide +kernel
theorem dL_isPrintSo_382 : decode cL_isPrintSo 382 = .ok (.if_icmp .ne 7, 3) := by decide +kernel
theorem dL_isPrintSo_385 : decode cL_isPrintSo 385 = .ok (.iconst 1, 1) := by decide +kernel
theorem dL_isPrintSo_386 : decode cL_isPrintSo 386 = .ok (.goto 4, 3) := by decide +kernel
theorem dL_isPrintSo_389 : decode cL_isPrintSo 389 = .ok (.iconst 0, 1) := by decide +kernel
theorem dL_isPrintSo_390 : decode cL_isPrintSo 390 = .ok (.istore 15, 2) := by decide +kernel
theorem dL_isPrintSo_392 : decode cL_isPrintSo 392 = .ok (.iconst 0, 1) := by decide +kernel
theorem dL_isPrintSo_393 : decode cL_isPrintSo 393 = .ok (.istore 16, 2) := by decide +kernel
theorem dL_isPrintSo_395 : decode cL_isPrintSo 395 = .ok (.iload 16, 2) := by decide +kernel
theorem dL_isPrintSo_397 : decode cL_isPrintSo 397 = .ok (.bipush 6, 2) := by decide +kernel
theorem dL_isPrintSo_399 : decode cL_isPrintSo 399 = .ok (.if_icmp .ge 146, 3) := by decide +kernel
theorem dL_isPrintSo_402 : decode cL_isPrintSo 402 = .ok (.aload 7, 2) := by decide +kernel
theorem dL_isPrintSo_404 : decode cL_isPrintSo 404 = .ok (.iload 16, 2) := by decide +kernel
theorem dL_isPrintSo_406 : decode cL_isPrintSo 406 = .ok (.iaload, 1) := by decide +kernel
theorem dL_isPrintSo_407 : decode cL_isPrintSo 407 = .ok (.iconst 1, 1) := by decide +kernel
theorem dL_isPrintSo_408 : decode cL_isPrintSo 408 = .ok (.iadd, 1) := by decide +kernel
theorem dL_isPrintSo_409 : decode cL_isPrintSo 409 = .ok (.iload_n 1, 1) := by decide +kernel
theorem dL_isPrintSo_410 : decode cL_isPrintSo 410 = .ok (.iconst 4, 1) := by decide +kernel
theorem dL_isPrintSo_411 : decode cL_isPrintSo 411 = .ok (.idiv, 1) := by decide +kernel
theorem dL_isPrintSo_412 : decode cL_isPrintSo 412 = .ok (.iadd, 1) := by decide +kernel
theorem dL_isPrintSo_413 : decode cL_isPrintSo 413 = .ok (.istore 17, 2) := by decide +kernel
theorem dL_isPrintSo_415 : decode cL_isPrintSo 415 = .ok (.iload_n 1, 1) := by decide +kernel
theorem dL_isPrintSo_416 : decode cL_isPrintSo 416 = .ok (.bipush 7, 2) := by decide +kernel
theorem dL_isPrintSo_418 : decode cL_isPrintSo 418 = .ok (.if_icmp .lt 21, 3) := by decide +kernel
theorem dL_isPrintSo_421 : decode cL_isPrintSo 421 = .ok (.aload 9, 2) := by decide +kernel
theorem dL_isPrintSo_423 : decode cL_isPrintSo 423 = .ok (.iload 16, 2) := by decide +kernel
theorem dL_isPrintSo_425 : decode cL_isPrintSo 425 = .ok (.iaload, 1) := by decide +kernel
theorem dL_isPrintSo_426 : decode cL_isPrintSo 426 = .ok (.aload_n 0, 1) := by decide +kernel
theorem dL_isPrintSo_427 : decode cL_isPrintSo 427 = .ok (.bipush 15, 2) := by decide +kernel
theorem dL_isPrintSo_429 : decode cL_isPrintSo 429 = .ok (.invokevirtual 21, 3) := by decide +kernel
theorem dL_isPrintSo_432 : decode cL_isPrintSo 432 = .ok (.if_icmp .lt 7, 3) := by decide +kernel
theorem dL_isPrintSo_435 : decode cL_isPrintSo 435 = .ok (.iconst 1, 1) := by decide +kernel
theorem dL_isPrintSo_436 : decode cL_isPrintSo 436 = .ok (.goto 4, 3) := by decide +kernel
theorem dL_isPrintSo_439 : decode cL_isPrintSo 439 = .ok (.iconst 0, 1) := by decide +kernel
theorem dL_isPrintSo_440 : decode cL_isPrintSo 440 = .ok (.istore 18, 2) := by decide +kernel
theorem dL_isPrintSo_442 : decode cL_isPrintSo 442 = .ok (.iload 15, 2) := by decide +kernel
theorem dL_isPrintSo_444 : decode cL_isPrintSo 444 = .ok (.ifCond .eq 92, 3) := by decide +kernel
theorem dL_isPrintSo_447 : decode cL_isPrintSo 447 = .ok (.aload_n 0, 1) := by decide +kernel
theorem dL_isPrintSo_448 : decode cL_isPrintSo 448 = .ok (.iload 16, 2) := by decide +kernel
theorem dL_isPrintSo_450 : decode cL_isPrintSo 450 = .ok (.aload 8, 2) := by decide +kernel
theorem dL_isPrintSo_452 : decode cL_isPrintSo 452 = .ok (.iload 16, 2) := by decide +kernel
theorem dL_isPrintSo_454 : decode cL_isPrintSo 454 = .ok (.iaload, 1) := by decide +kernel
theorem dL_isPrintSo_455 : decode cL_isPrintSo 455 = .ok (.invokevirtual 62, 3) := by decide +kernel
theorem dL_isPrintSo_458 : decode cL_isPrintSo 458 = .ok (.iload 17, 2) := by decide +kernel
theorem dL_isPrintSo_460 : decode cL_isPrintSo 460 = .ok (.bipush 99, 2) := by decide +kernel
theorem dL_isPrintSo_462 : decode cL_isPrintSo 462 = .ok (.if_icmp .le 8, 3) := by decide +kernel
theorem dL_isPrintSo_465 : decode cL_isPrintSo 465 = .ok (.bipush 99, 2) := by decide +kernel
theorem dL_isPrintSo_467 : decode cL_isPrintSo 467 = .ok (.goto 5, 3) := by decide +kernel
theorem dL_isPrintSo_470 : decode cL_isPrintSo 470 = .ok (.iload 17, 2) := by decide +kernel
theorem dL_isPrintSo_472 : decode cL_isPrintSo 472 = .ok (.if_icmp .ne 64, 3) := by decide +kernel
theorem dL_isPrintSo_475 : decode cL_isPrintSo 475 = .ok (.aload_n 0, 1) := by decide +kernel
theorem dL_isPrintSo_476 : decode cL_isPrintSo 476 = .ok (.iload 16, 2) := by decide +kernel
theorem dL_isPrintSo_478 : decode cL_isPrintSo 478 = .ok (.iconst 1, 1) := by decide +kernel
theorem dL_isPrintSo_479 : decode cL_isPrintSo 479 = .ok (.invokevirtual 48, 3) := by decide +kernel
theorem dL_isPrintSo_482 : decode cL_isPrintSo 482 = .ok (.iload 18, 2) := by decide +kernel
theorem dL_isPrintSo_484 : decode cL_isPrintSo 484 = .ok (.ifCond .eq 16, 3) := by decide +kernel
theorem dL_isPrintSo_487 : decode cL_isPrintSo 487 = .ok (.aload 8, 2) := by decide +kernel
theorem dL_isPrintSo_489 : decode cL_isPrintSo 489 = .ok (.iload 16, 2) := by decide +kernel
theorem dL_isPrintSo_491 : decode cL_isPrintSo 491 = .ok (.iaload, 1) := by decide +kernel
theorem dL_isPrintSo_492 : decode cL_isPrintSo 492 = .ok (.iconst 1, 1) := by decide +kernel
theorem dL_isPrintSo_493 : decode cL_isPrintSo 493 = .ok (.iadd, 1) := by decide +kernel
theorem dL_isPrintSo_494 : decode cL_isPrintSo 494 = .ok (.bipush 10, 2) := by decide +kernel
theorem dL_isPrintSo_496 : decode cL_isPrintSo 496 = .ok (.irem, 1) := by decide +kernel
theorem dL_isPrintSo_497 : decode cL_isPrintSo 497 = .ok (.goto 8, 3) := by decide +kernel
theorem dL_isPrintSo_500 : decode cL_isPrintSo 500 = .ok (.aload 8, 2) := by decide +kernel
theorem dL_isPrintSo_502 : decode cL_isPrintSo 502 = .ok (.iload 16, 2) := by decide +kernel
theorem dL_isPrintSo_504 : decode cL_isPrintSo 504 = .ok (.iaload, 1) := by decide +kernel
theorem dL_isPrintSo_505 : decode cL_isPrintSo 505 = .ok (.if_icmp .ne 31, 3) := by decide +kernel
theorem dL_isPrintSo_508 : decode cL_isPrintSo 508 = .ok (.aload_n 0, 1) := by decide +kernel
theorem dL_isPrintSo_509 : decode cL_isPrintSo 509 = .ok (.iload 16, 2) := by decide +kernel
theorem dL_isPrintSo_511 : decode cL_isPrintSo 511 = .ok (.iconst 2, 1) := by decide +kernel
theorem dL_isPrintSo_512 : decode cL_isPrintSo 512 = .ok (.invokevirtual 48, 3) := by decide +kernel
theorem dL_isPrintSo_515 : decode cL_isPrintSo 515 = .ok (.iload 18, 2) := by decide +kernel
theorem dL_isPrintSo_517 : decode cL_isPrintSo 517 = .ok (.ifCond .eq 7, 3) := by decide +kernel
theorem dL_isPrintSo_520 : decode cL_isPrintSo 520 = .ok (.iconst 0, 1) := by decide +kernel
theorem dL_isPrintSo_521 : decode cL_isPrintSo 521 = .ok (.goto 8, 3) := by decide +kernel
theorem dL_isPrintSo_524 : decode cL_isPrintSo 524 = .ok (.aload 9, 2) := by decide +kernel
theorem dL_isPrintSo_526 : decode cL_isPrintSo 526 = .ok (.iload 16, 2) := by decide +kernel
theorem dL_isPrintSo_528 : decode cL_isPrintSo 528 = .ok (.iaload, 1) := by decide +kernel
theorem dL_isPrintSo_529 : decode cL_isPrintSo 529 = .ok (.if_icmp .ne 7, 3) := by decide +kernel
theorem dL_isPrintSo_532 : decode cL_isPrintSo 532 = .ok (.iconst 1, 1) := by decide +kernel
theorem dL_isPrintSo_533 : decode cL_isPrintSo 533 = .ok (.goto 4, 3) := by decide +kernel
theorem dL_isPrintSo_536 : decode cL_isPrintSo 536 = .ok (.iconst 0, 1) := by decide +kernel
theorem dL_isPrintSo_537 : decode cL_isPrintSo 537 = .ok (.istore 15, 2) := by decide +kernel
theorem dL_isPrintSo_539 : decode cL_isPrintSo 539 = .ok (.iinc 16 1, 3) := by decide +kernel
theorem dL_isPrintSo_542 : decode cL_isPrintSo 542 = .ok (.goto (-147), 3) := by decide +kernel
theorem dL_isPrintSo_545 : decode cL_isPrintSo 545 = .ok (.iload 15, 2) := by decide +kernel
theorem dL_isPrintSo_547 : decode cL_isPrintSo 547 = .ok (.ifCond .eq 35, 3) := by decide +kernel
theorem dL_isPrintSo_550 : decode cL_isPrintSo 550 = .ok (.iload 11, 2) := by decide +kernel
theorem dL_isPrintSo_552 : decode cL_isPrintSo 552 = .ok (.ifCond .eq 26, 3) := by decide +kernel
theorem dL_isPrintSo_555 : decode cL_isPrintSo 555 = .ok (.aload_n 0, 1) := by decide +kernel
theorem dL_isPrintSo_556 : decode cL_isPrintSo 556 = .ok (.iconst 0, 1) := by decide +kernel
theorem dL_isPrintSo_557 : decode cL_isPrintSo 557 = .ok (.bipush 6, 2) := by decide +kernel
theorem dL_isPrintSo_559 : decode cL_isPrintSo 559 = .ok (.invokevirtual 83, 3) := by decide +kernel
theorem dL_isPrintSo_562 : decode cL_isPrintSo 562 = .ok (.iconst 1, 1) := by decide +kernel
theorem dL_isPrintSo_563 : decode cL_isPrintSo 563 = .ok (.if_icmp .ne 19, 3) := by decide +kernel
theorem dL_isPrintSo_566 : decode cL_isPrintSo 566 = .ok (.aload_n 0, 1) := by decide +kernel
theorem dL_isPrintSo_567 : decode cL_isPrintSo 567 = .ok (.iconst 0, 1) := by decide +kernel
theorem dL_isPrintSo_568 : decode cL_isPrintSo 568 = .ok (.bipush 7, 2) := by decide +kernel
theorem dL_isPrintSo_570 : decode cL_isPrintSo 570 = .ok (.invokevirtual 83, 3) := by decide +kernel
theorem dL_isPrintSo_573 : decode cL_isPrintSo 573 = .ok (.iload 10, 2) := by decide +kernel
theorem dL_isPrintSo_575 : decode cL_isPrintSo 575 = .ok (.if_icmp .ne 7, 3) := by decide +kernel
theorem dL_isPrintSo_578 : decode cL_isPrintSo 578 = .ok (.iconst 1, 1) := by decide +kernel
theorem dL_isPrintSo_579 : decode cL_isPrintSo 579 = .ok (.goto 4, 3) := by decide +kernel
theorem dL_isPrintSo_582 : decode cL_isPrintSo 582 = .ok (.iconst 0, 1) := by decide +kernel
theorem dL_isPrintSo_583 : decode cL_isPrintSo 583 = .ok (.istore 15, 2) := by decide +kernel
theorem dL_isPrintSo_585 : decode cL_isPrintSo 585 = .ok (.aload_n 0, 1) := by decide +kernel
theorem dL_isPrintSo_586 : decode cL_isPrintSo 586 = .ok (.invokevirtual 76, 3) := by decide +kernel
theorem dL_isPrintSo_589 : decode cL_isPrintSo 589 = .ok (.istore 16, 2) := by decide +kernel
theorem dL_isPrintSo_591 : decode cL_isPrintSo 591 = .ok (.iload 15, 2) := by decide +kernel
theorem dL_isPrintSo_593 : decode cL_isPrintSo 593 = .ok (.ifCond .eq 33, 3) := by decide +kernel
theorem dL_isPrintSo_596 : decode cL_isPrintSo 596 = .ok (.iload 16, 2) := by decide +kernel
theorem dL_isPrintSo_598 : decode cL_isPrintSo 598 = .ok (.ifCond .lt 28, 3) := by decide +kernel
theorem dL_isPrintSo_601 : decode cL_isPrintSo 601 = .ok (.aload_n 0, 1) := by decide +kernel
theorem dL_isPrintSo_602 : decode cL_isPrintSo 602 = .ok (.iload 10, 2) := by decide +kernel
theorem dL_isPrintSo_604 : decode cL_isPrintSo 604 = .ok (.invokevirtual 80, 3) := by decide +kernel
theorem dL_isPrintSo_607 : decode cL_isPrintSo 607 = .ok (.iload 12, 2) := by decide +kernel
theorem dL_isPrintSo_609 : decode cL_isPrintSo 609 = .ok (.if_icmp .ne 17, 3) := by decide +kernel
theorem dL_isPrintSo_612 : decode cL_isPrintSo 612 = .ok (.aload_n 0, 1) := by decide +kernel
theorem dL_isPrintSo_613 : decode cL_isPrintSo 613 = .ok (.iconst 2, 1) := by decide +kernel
theorem dL_isPrintSo_614 : decode cL_isPrintSo 614 = .ok (.invokevirtual 21, 3) := by decide +kernel
theorem dL_isPrintSo_617 : decode cL_isPrintSo 617 = .ok (.iload 13, 2) := by decide +kernel
theorem dL_isPrintSo_619 : decode cL_isPrintSo 619 = .ok (.if_icmp .ne 7, 3) := by decide +kernel
theorem dL_isPrintSo_622 : decode cL_isPrintSo 622 = .ok (.iconst 1, 1) := by decide +kernel
theorem dL_isPrintSo_623 : decode cL_isPrintSo 623 = .ok (.goto 4, 3) := by decide +kernel
theorem dL_isPrintSo_626 : decode cL_isPrintSo 626 = .ok (.iconst 0, 1) := by decide +kernel
theorem dL_isPrintSo_627 : decode cL_isPrintSo 627 = .ok (.ireturn, 1) := by decide +kernel
set_option maxRecDepth 20000 in
theorem ggL_isLeastSo_X8_leastPress : GoodIn wsL_isLeastSo wsX8_leastPress := goodIn_r _ [5, 6, 7, 8, 9, 10, 11, 12, 13, 14, 15, 16, 17, 18, 19, 20, 21, 22, 23, 24, 25, 26, 27, 28, 29, 30, 31, 32, 33, 34, 265, 266, 267, 268, 269, 270, 271, 272, 273, 274, 275, 276, 277, 278, 279, 280, 281, 282, 283, 284, 285, 286, 287, 288, 289] (by decide +kernel) (by decide +kernel)
set_option maxRecDepth 20000 in
theorem gL_isLeastSo_X8_leastPress : GoodIn wsL_isLeastSo (wsV RL 86 RX8 yX8_leastPress wsX8_leastPress) := goodIn_app (goodIn_of _ (by decide +kernel)) ggL_isLeastSo_X8_leastPress
set_option maxRecDepth 20000 in
theorem ggL_isLeastSo_X8_press : GoodIn wsL_isLeastSo wsX8_press := goodIn_r _ [38, 39, 6, 40, 41, 4, 42, 43, 44, 45, 46, 47, 48, 49, 50, 51, 52, 53, 54, 55, 56, 57, 58, 59, 60, 61, 62, 63, 64, 65, 66, 67, 68, 69, 70, 71, 72, 11, 73, 13, 30, 74, 75, 76, 77, 18, 78, 79, 80, 81, 82, 23, 83, 84, 85, 86, 25, 87, 88, 89, 90, 91, 92, 93, 94, 95, 96, 97, 98, 99, 100, 101, 102, 103, 104, 105, 106, 107, 108, 109, 110, 111, 112, 113, 114, 115, 116, 117, 118, 119, 120, 121, 122, 123, 124, 125, 126, 127, 128, 129, 130, 131, 132, 133, 134, 135, 136, 137, 138, 139, 19, 140, 141, 142, 143, 144, 145, 146, 147, 148, 149, 150, 14, 15, 16, 17, 20, 21, 22, 24, 26, 27, 28, 29, 31, 32, 33, 34, 151, 152, 153, 154, 155, 156, 157, 158, 159, 160, 161, 162, 163, 164, 165, 166, 167, 168, 169, 170, 171, 172, 173, 174, 175, 176, 177, 178, 179, 180, 181, 182, 183, 184, 185, 186, 187, 188, 189, 190, 191, 192, 193, 194, 195, 196, 197, 198, 265, 266, 267, 268, 269, 270, 290, 291, 271, 272, 273, 274, 275, 276, 277, 278, 279, 280, 281, 282, 283, 284, 285, 286, 287, 288, 289, 292, 293, 294, 295, 296, 297, 298, 299, 300, 301] (by decide +kernel) (by decide +kernel)
set_option maxRecDepth 20000 in
theorem gL_isLeastSo_X8_press : GoodIn wsL_isLeastSo (wsV RL 45 RX8 yX8_press wsX8_press) := goodIn_app (goodIn_of _ (by decide +kernel)) ggL_isLeastSo_X8_press
set_option maxRecDepth 20000 in
theorem ggL_isLeastSo_X8_print : GoodIn wsL_isLeastSo wsX8_print := goodIn_r _ [202, 6, 203, 204, 205, 206, 207, 208, 209, 210, 211, 212, 60, 213, 65, 214, 129, 130, 131, 132, 133, 134, 135, 215, 216, 217, 91, 218, 95, 96, 219, 220, 113, 221, 222, 223, 224, 225, 226, 227, 228, 229, 230, 121, 122, 123, 231, 232, 233, 234, 235, 236, 237, 238, 239, 124, 125, 126, 127, 240, 241, 242, 243, 244, 245, 246, 247, 248, 249, 250, 251, 252, 118, 119, 120, 253, 254, 255, 115, 116, 117, 265, 266, 267, 268, 269, 270, 271, 272, 273, 274, 275, 276, 277, 278, 292, 293, 294, 295, 296, 297] (by decide +kernel) (by decide +kernel)
set_option maxRecDepth 20000 in
theorem gL_isLeastSo_X8_print : GoodIn wsL_isLeastSo (wsV RL 83 RX8 yX8_print wsX8_print) := goodIn_app (goodIn_of _ (by decide +kernel)) ggL_isLeastSo_X8_print
set_option maxRecDepth 20000 in
theorem ggL_isLeastSo_X8_undo : GoodIn wsL_isLeastSo wsX8_undo := goodIn_r _ [259, 39, 260, 6, 261, 262, 263, 49, 264, 51, 52, 57, 58, 59, 60, 61, 62, 63, 64, 65, 66, 67, 68, 69, 70, 71, 72, 11, 73, 13, 30, 74, 75, 76, 77, 18, 78, 79, 80, 81, 82, 23, 83, 84, 85, 86, 25, 87, 88, 89, 90, 91, 92, 93, 94, 95, 96, 97, 98, 265, 266, 267, 268, 269, 270, 290, 291, 271, 272, 273, 274, 275, 276, 277, 278, 279, 280, 281, 282, 283, 284, 285, 286, 287, 288, 289, 292, 293, 294, 295, 296, 297] (by decide +kernel) (by decide +kernel)
set_option maxRecDepth 20000 in
theorem gL_isLeastSo_X8_undo : GoodIn wsL_isLeastSo (wsV RL 76 RX8 yX8_undo wsX8_undo) := goodIn_app (goodIn_of _ (by decide +kernel)) ggL_isLeastSo_X8_undo
theorem dL_isLeastSo_0 : decode cL_isLeastSo 0 = .ok (.aload_n 0, 1) := by decide +kernel
theorem dL_isLeastSo_1 : decode cL_isLeastSo 1 = .ok (.invokevirtual 86, 3) := by decide +kernel
theorem dL_isLeastSo_4 : decode cL_isLeastSo 4 = .ok (.istore_n 1, 1) := by decide +kernel
theorem dL_isLeastSo_5 : decode cL_isLeastSo 5 = .ok (.iload_n 1, 1) := by decide +kernel
theorem dL_isLeastSo_6 : decode cL_isLeastSo 6 = .ok (.bipush (-5), 2) := by decide +kernel
theorem dL_isLeastSo_8 : decode cL_isLeastSo 8 = .ok (.if_icmp .eq 14, 3) := by decide +kernel
theorem dL_isLeastSo_11 : decode cL_isLeastSo 11 = .ok (.iload_n 1, 1) := by decide +kernel
theorem dL_isLeastSo_12 : decode cL_isLeastSo 12 = .ok (.iconst 1, 1) := by decide +kernel
theorem dL_isLeastSo_13 : decode cL_isLeastSo 13 = .ok (.if_icmp .lt 13, 3) := by decide +kernel
theorem dL_isLeastSo_16 : decode cL_isLeastSo 16 = .ok (.iload_n 1, 1) := by decide +kernel
theorem dL_isLeastSo_17 : decode cL_isLeastSo 17 = .ok (.bipush 9, 2) := by decide +kernel
theorem dL_isLeastSo_19 : decode cL_isLeastSo 19 = .ok (.if_icmp .gt 7, 3) := by decide +kernel
theorem dL_isLeastSo_22 : decode cL_isLeastSo 22 = .ok (.iconst 1, 1) := by decide +kernel
theorem dL_isLeastSo_23 : decode cL_isLeastSo 23 = .ok (.goto 4, 3) := by decide +kernel
theorem dL_isLeastSo_26 : decode cL_isLeastSo 26 = .ok (.iconst 0, 1) := by decide +kernel
theorem dL_isLeastSo_27 : decode cL_isLeastSo 27 = .ok (.istore_n 2, 1) := by decide +kernel
theorem dL_isLeastSo_28 : decode cL_isLeastSo 28 = .ok (.iconst 1, 1) := by decide +kernel
theorem dL_isLeastSo_29 : decode cL_isLeastSo 29 = .ok (.istore_n 3, 1) := by decide +kernel
theorem dL_isLeastSo_30 : decode cL_isLeastSo 30 = .ok (.iload_n 3, 1) := by decide +kernel
theorem dL_isLeastSo_31 : decode cL_isLeastSo 31 = .ok (.bipush 10, 2) := by decide +kernel
theorem dL_isLeastSo_33 : decode cL_isLeastSo 33 = .ok (.if_icmp .ge 90, 3) := by decide +kernel
theorem dL_isLeastSo_36 : decode cL_isLeastSo 36 = .ok (.aload_n 0, 1) := by decide +kernel
theorem dL_isLeastSo_37 : decode cL_isLeastSo 37 = .ok (.iload_n 3, 1) := by decide +kernel
theorem dL_isLeastSo_38 : decode cL_isLeastSo 38 = .ok (.iconst 1, 1) := by decide +kernel
theorem dL_isLeastSo_39 : decode cL_isLeastSo 39 = .ok (.invokevirtual 45, 3) := by decide +kernel
theorem dL_isLeastSo_42 : decode cL_isLeastSo 42 = .ok (.istore 4, 2) := by decide +kernel
theorem dL_isLeastSo_44 : decode cL_isLeastSo 44 = .ok (.aload_n 0, 1) := by decide +kernel
theorem dL_isLeastSo_45 : decode cL_isLeastSo 45 = .ok (.iconst 0, 1) := by decide +kernel
theorem dL_isLeastSo_46 : decode cL_isLeastSo 46 = .ok (.iconst 2, 1) := by decide +kernel
theorem dL_isLeastSo_47 : decode cL_isLeastSo 47 = .ok (.invokevirtual 83, 3) := by decide +kernel
theorem dL_isLeastSo_50 : decode cL_isLeastSo 50 = .ok (.aload_n 0, 1) := by decide +kernel
theorem dL_isLeastSo_51 : decode cL_isLeastSo 51 = .ok (.iconst 0, 1) := by decide +kernel
theorem dL_isLeastSo_52 : decode cL_isLeastSo 52 = .ok (.iconst 3, 1) := by decide +kernel
theorem dL_isLeastSo_53 : decode cL_isLeastSo 53 = .ok (.invokevirtual 83, 3) := by decide +kernel
theorem dL_isLeastSo_56 : decode cL_isLeastSo 56 = .ok (.ior, 1) := by decide +kernel
theorem dL_isLeastSo_57 : decode cL_isLeastSo 57 = .ok (.ifCond .ne 7, 3) := by decide +kernel
theorem dL_isLeastSo_60 : decode cL_isLeastSo 60 = .ok (.iconst 1, 1) := by decide +kernel
theorem dL_isLeastSo_61 : decode cL_isLeastSo 61 = .ok (.goto 4, 3) := by decide +kernel
theorem dL_isLeastSo_64 : decode cL_isLeastSo 64 = .ok (.iconst 0, 1) := by decide +kernel
theorem dL_isLeastSo_65 : decode cL_isLeastSo 65 = .ok (.istore 5, 2) := by decide +kernel
theorem dL_isLeastSo_67 : decode cL_isLeastSo 67 = .ok (.iload_n 2, 1) := by decide +kernel
theorem dL_isLeastSo_68 : decode cL_isLeastSo 68 = .ok (.ifCond .eq 41, 3) := by decide +kernel
theorem dL_isLeastSo_71 : decode cL_isLeastSo 71 = .ok (.iload 4, 2) := by decide +kernel
theorem dL_isLeastSo_73 : decode cL_isLeastSo 73 = .ok (.ifCond .lt 36, 3) := by decide +kernel
theorem dL_isLeastSo_76 : decode cL_isLeastSo 76 = .ok (.iload_n 1, 1) := by decide +kernel
theorem dL_isLeastSo_77 : decode cL_isLeastSo 77 = .ok (.bipush (-5), 2) := by decide +kernel
theorem dL_isLeastSo_79 : decode cL_isLeastSo 79 = .ok (.if_icmp .eq 8, 3) := by decide +kernel
theorem dL_isLeastSo_82 : decode cL_isLeastSo 82 = .ok (.iload_n 3, 1) := by decide +kernel
theorem dL_isLeastSo_83 : decode cL_isLeastSo 83 = .ok (.iload_n 1, 1) := by decide +kernel
theorem dL_isLeastSo_84 : decode cL_isLeastSo 84 = .ok (.if_icmp .ge 11, 3) := by decide +kernel
theorem dL_isLeastSo_87 : decode cL_isLeastSo 87 = .ok (.iload 5, 2) := by decide +kernel
theorem dL_isLeastSo_89 : decode cL_isLeastSo 89 = .ok (.ifCond .ne 20, 3) := by decide +kernel
theorem dL_isLeastSo_92 : decode cL_isLeastSo 92 = .ok (.goto 13, 3) := by decide +kernel
theorem dL_isLeastSo_95 : decode cL_isLeastSo 95 = .ok (.iload_n 3, 1) := by decide +kernel
theorem dL_isLeastSo_96 : decode cL_isLeastSo 96 = .ok (.iload_n 1, 1) := by decide +kernel
theorem dL_isLeastSo_97 : decode cL_isLeastSo 97 = .ok (.if_icmp .ne 8, 3) := by decide +kernel
theorem dL_isLeastSo_100 : decode cL_isLeastSo 100 = .ok (.iload 5, 2) := by decide +kernel
theorem dL_isLeastSo_102 : decode cL_isLeastSo 102 = .ok (.ifCond .eq 7, 3) := by decide +kernel
theorem dL_isLeastSo_105 : decode cL_isLeastSo 105 = .ok (.iconst 1, 1) := by decide +kernel
theorem dL_isLeastSo_106 : decode cL_isLeastSo 106 = .ok (.goto 4, 3) := by decide +kernel
theorem dL_isLeastSo_109 : decode cL_isLeastSo 109 = .ok (.iconst 0, 1) := by decide +kernel
theorem dL_isLeastSo_110 : decode cL_isLeastSo 110 = .ok (.istore_n 2, 1) := by decide +kernel
theorem dL_isLeastSo_111 : decode cL_isLeastSo 111 = .ok (.aload_n 0, 1) := by decide +kernel
theorem dL_isLeastSo_112 : decode cL_isLeastSo 112 = .ok (.invokevirtual 76, 3) := by decide +kernel
theorem dL_isLeastSo_115 : decode cL_isLeastSo 115 = .ok (.istore 4, 2) := by decide +kernel
theorem dL_isLeastSo_117 : decode cL_isLeastSo 117 = .ok (.iinc 3 1, 3) := by decide +kernel
theorem dL_isLeastSo_120 : decode cL_isLeastSo 120 = .ok (.goto (-90), 3) := by decide +kernel
theorem dL_isLeastSo_123 : decode cL_isLeastSo 123 = .ok (.iload_n 2, 1) := by decide +kernel
theorem dL_isLeastSo_124 : decode cL_isLeastSo 124 = .ok (.ireturn, 1) := by decide +kernel
set_option maxRecDepth 20000 in
theorem ggL_lastsSo_X8_lasts : GoodIn wsL_lastsSo wsX8_lasts := goodIn_r _ [6, 7, 8, 5, 9, 10, 11, 12, 13, 14, 15, 16, 17, 18, 19, 20, 21, 22, 23, 24, 25, 26, 27, 28, 29, 30, 31, 32, 33, 34, 35, 36, 37, 38, 39, 40, 41, 42, 43, 44, 45, 46, 47, 48, 49, 50, 51, 52, 53, 54, 55, 56, 57, 58, 59, 60, 61, 62, 63, 64, 65, 66, 67, 68, 69, 70, 71, 72, 73, 74, 75, 76, 77, 78, 79, 80, 81, 82, 83, 84, 85, 86, 87, 88, 89, 90, 91, 92, 93, 94, 95, 96, 97, 98, 99, 100, 101, 102, 103, 104, 105, 106, 107, 108, 109, 110, 111, 112, 113, 114, 115, 116, 117, 118, 119, 120, 121, 122, 123, 124, 125, 126, 127, 128, 129, 130, 131, 132, 133, 134, 135, 136, 137, 138, 139, 140, 141, 142, 143, 144, 298, 299, 300, 301, 302, 303, 304, 305, 306, 307, 308, 309, 310, 311, 312, 313, 314, 315, 316, 317, 318, 319, 320, 321, 322] (by decide +kernel) (by decide +kernel)
set_option maxRecDepth 20000 in
theorem gL_lastsSo_X8_lasts : GoodIn wsL_lastsSo (wsV RL 89 RX8 yX8_lasts wsX8_lasts) := goodIn_app (goodIn_of _ (by decide +kernel)) ggL_lastsSo_X8_lasts
set_option maxRecDepth 20000 in
theorem ggL_lastsSo_X8_count : GoodIn wsL_lastsSo wsX8_count := goodIn_r _ [148, 18, 21, 19, 20, 149, 150, 151, 152, 153, 154, 155, 156, 157, 158, 159, 160, 161, 162, 112, 113, 26, 114, 28, 115, 53, 54, 55, 56, 57, 58, 59, 60, 61, 62, 63, 64, 65, 66, 67, 68, 69, 163, 164, 165, 166, 167, 168, 169, 170, 171, 172, 173, 174, 298, 299, 300, 301, 302, 303, 304, 305, 306, 307, 308, 309, 310, 311, 312, 313, 314, 315, 316, 317, 318, 323, 324, 325, 326, 327, 328, 329, 330, 331, 332, 333, 334, 335, 336, 319, 320, 321, 322] (by decide +kernel) (by decide +kernel)
set_option maxRecDepth 20000 in
theorem gL_lastsSo_X8_count : GoodIn wsL_lastsSo (wsV RL 21 RX8 yX8_count wsX8_count) := goodIn_app (goodIn_of _ (by decide +kernel)) ggL_lastsSo_X8_count
set_option maxRecDepth 20000 in
theorem ggL_lastsSo_X8_keep : GoodIn wsL_lastsSo wsX8_keep := goodIn_r _ [178, 179, 18, 180, 21, 181, 182, 183, 184, 185, 186, 187, 188, 189, 190, 191, 192, 193, 194, 24, 25, 26, 27, 28, 29, 30, 31, 32, 33, 34, 35, 36, 37, 38, 39, 40, 41, 42, 43, 44, 45, 46, 195, 196, 197, 198, 199, 200, 201, 202, 203, 204, 205, 298, 299, 300, 301, 302, 303, 304, 305, 306, 307, 308, 309, 310, 311, 312, 313, 314, 315, 316, 317, 318, 319, 320, 321, 322, 337, 338, 339, 340, 341, 342] (by decide +kernel) (by decide +kernel)
set_option maxRecDepth 20000 in
theorem gL_lastsSo_X8_keep : GoodIn wsL_lastsSo (wsV RL 92 RX8 yX8_keep wsX8_keep) := goodIn_app (goodIn_of _ (by decide +kernel)) ggL_lastsSo_X8_keep
set_option maxRecDepth 20000 in
theorem ggL_lastsSo_X8_adjust : GoodIn wsL_lastsSo wsX8_adjust := goodIn_r _ [209, 157, 18, 19, 210, 211, 55, 212, 213, 214, 215, 216, 217, 218, 219, 220, 221, 222, 223, 224, 225, 182, 183, 184, 185, 186, 187, 188, 189, 190, 191, 192, 193, 194, 24, 25, 26, 27, 28, 29, 30, 31, 32, 33, 34, 35, 36, 37, 38, 39, 40, 41, 42, 43, 44, 45, 46, 195, 196, 197, 198, 199, 200, 201, 202, 203, 204, 205, 53, 54, 56, 57, 58, 59, 60, 61, 62, 63, 64, 65, 66, 67, 68, 69, 70, 71, 72, 73, 74, 75, 76, 77, 78, 79, 80, 81, 82, 83, 84, 85, 86, 87, 88, 89, 51, 5, 52, 10, 11, 12, 90, 91, 92, 93, 94, 95, 96, 97, 298, 299, 300, 301, 302, 303, 304, 305, 306, 307, 308, 309, 310, 311, 327, 328, 312, 313, 314, 315, 316, 317, 318, 319, 320, 321, 322, 337, 338, 339, 340, 341, 342] (by decide +kernel) (by decide +kernel)
set_option maxRecDepth 20000 in
theorem gL_lastsSo_X8_adjust : GoodIn wsL_lastsSo (wsV RL 24 RX8 yX8_adjust wsX8_adjust) := goodIn_app (goodIn_of _ (by decide +kernel)) ggL_lastsSo_X8_adjust
set_option maxRecDepth 20000 in
theorem ggL_lastsSo_X8_press : GoodIn wsL_lastsSo wsX8_press := goodIn_r _ [229, 157, 18, 7, 8, 5, 9, 10, 11, 12, 214, 215, 216, 217, 218, 219, 220, 221, 222, 223, 224, 225, 182, 183, 184, 185, 186, 187, 188, 189, 190, 191, 192, 193, 194, 24, 25, 26, 27, 28, 29, 30, 31, 32, 33, 34, 35, 36, 37, 38, 39, 40, 41, 42, 43, 44, 45, 46, 195, 196, 197, 198, 199, 200, 201, 202, 203, 204, 205, 230, 231, 232, 233, 234, 235, 236, 237, 238, 239, 240, 241, 242, 54, 55, 56, 57, 58, 59, 60, 61, 62, 63, 64, 65, 66, 67, 68, 69, 243, 244, 245, 246, 247, 79, 80, 81, 248, 112, 113, 114, 115, 249, 103, 104, 105, 106, 107, 108, 109, 88, 110, 111, 116, 117, 118, 119, 120, 121, 122, 123, 124, 125, 126, 127, 128, 129, 130, 131, 132, 133, 134, 135, 95, 96, 97, 136, 137, 138, 139, 140, 141, 142, 143, 144, 78, 250, 251, 252, 253, 254, 255, 256, 257, 258, 259, 260, 261, 262, 263, 264, 265, 266, 267, 268, 269, 270, 271, 272, 273, 274, 275, 276, 277, 278, 279, 280, 298, 299, 300, 301, 302, 303, 327, 328, 304, 305, 306, 307, 308, 309, 310, 311, 312, 313, 314, 315, 316, 317, 318, 319, 320, 321, 322, 337, 338, 339, 340, 341, 342, 323, 324, 325, 326] (by decide +kernel) (by decide +kernel)
set_option maxRecDepth 20000 in
theorem gL_lastsSo_X8_press : GoodIn wsL_lastsSo (wsV RL 45 RX8 yX8_press wsX8_press) := goodIn_app (goodIn_of _ (by decide +kernel)) ggL_lastsSo_X8_press
set_option maxRecDepth 20000 in
theorem ggL_lastsSo_X8_fill : GoodIn wsL_lastsSo wsX8_fill := goodIn_r _ [284, 18, 19, 20, 157, 10, 11, 5, 12, 214, 215, 216, 217, 218, 219, 220, 221, 222, 223, 224, 225, 182, 183, 184, 185, 186, 187, 188, 189, 190, 191, 192, 193, 194, 24, 25, 26, 27, 28, 29, 30, 31, 32, 33, 34, 35, 36, 37, 38, 39, 40, 41, 42, 43, 44, 45, 46, 195, 196, 197, 198, 199, 200, 201, 202, 203, 204, 205, 285, 286, 287, 288, 289, 96, 88, 97, 298, 299, 300, 301, 302, 303, 304, 305, 306, 307, 308, 309, 310, 311, 312, 313, 314, 315, 316, 317, 318, 327, 328, 319, 320, 321, 322, 337, 338, 339, 340, 341, 342] (by decide +kernel) (by decide +kernel)
set_option maxRecDepth 20000 in
theorem gL_lastsSo_X8_fill : GoodIn wsL_lastsSo (wsV RL 30 RX8 yX8_fill wsX8_fill) := goodIn_app (goodIn_of _ (by decide +kernel)) ggL_lastsSo_X8_fill
set_option maxRecDepth 20000 in
theorem ggL_lastsSo_X8_pass : GoodIn wsL_lastsSo wsX8_pass := goodIn_r _ [293, 18, 21, 22, 157, 10, 11, 5, 12, 214, 215, 216, 217, 218, 219, 220, 221, 222, 223, 224, 225, 182, 183, 184, 185, 186, 187, 188, 189, 190, 191, 192, 193, 194, 24, 25, 26, 27, 28, 29, 30, 31, 32, 33, 34, 35, 36, 37, 38, 39, 40, 41, 42, 43, 44, 45, 46, 195, 196, 197, 198, 199, 200, 201, 202, 203, 204, 205, 298, 299, 300, 301, 302, 303, 304, 305, 306, 307, 308, 309, 310, 311, 327, 328, 312, 313, 314, 315, 316, 317, 318, 319, 320, 321, 322, 337, 338, 339, 340, 341, 342] (by decide +kernel) (by decide +kernel)
set_option maxRecDepth 20000 in
theorem gL_lastsSo_X8_pass : GoodIn wsL_lastsSo (wsV RL 14 RX8 yX8_pass wsX8_pass) := goodIn_app (goodIn_of _ (by decide +kernel)) ggL_lastsSo_X8_pass
set_option maxRecDepth 20000 in
theorem ggL_lastsSo_X8_restore : GoodIn wsL_lastsSo wsX8_restore := goodIn_r _ [297, 180, 157, 18, 179, 21, 214, 215, 216, 217, 218, 219, 220, 221, 222, 223, 224, 225, 182, 183, 184, 185, 186, 187, 188, 189, 190, 191, 192, 193, 194, 24, 25, 26, 27, 28, 29, 30, 31, 32, 33, 34, 35, 36, 37, 38, 39, 40, 41, 42, 43, 44, 45, 46, 195, 196, 197, 198, 199, 200, 201, 202, 203, 204, 205, 181, 298, 299, 300, 301, 302, 303, 304, 305, 306, 307, 308, 309, 310, 311, 327, 328, 312, 313, 314, 315, 316, 317, 318, 319, 320, 321, 322, 337, 338, 339, 340, 341, 342] (by decide +kernel) (by decide +kernel)
set_option maxRecDepth 20000 in
theorem gL_lastsSo_X8_restore : GoodIn wsL_lastsSo (wsV RL 95 RX8 yX8_restore wsX8_restore) := goodIn_app (goodIn_of _ (by decide +kernel)) ggL_lastsSo_X8_restore
theorem dL_lastsSo_0 : decode cL_lastsSo 0 = .ok (.aload_n 0, 1) := by decide +kernel
theorem dL_lastsSo_1 : decode cL_lastsSo 1 = .ok (.iload_n 1, 1) := by decide +kernel
theorem dL_lastsSo_2 : decode cL_lastsSo 2 = .ok (.iload_n 2, 1) := by decide +kernel
theorem dL_lastsSo_3 : decode cL_lastsSo 3 = .ok (.invokevirtual 89, 3) := by decide +kernel
theorem dL_lastsSo_6 : decode cL_lastsSo 6 = .ok (.istore_n 3, 1) := by decide +kernel
theorem dL_lastsSo_7 : decode cL_lastsSo 7 = .ok (.aload_n 0, 1) := by decide +kernel
theorem dL_lastsSo_8 : decode cL_lastsSo 8 = .ok (.iconst 1, 1) := by decide +kernel
theorem dL_lastsSo_9 : decode cL_lastsSo 9 = .ok (.invokevirtual 21, 3) := by decide +kernel
theorem dL_lastsSo_12 : decode cL_lastsSo 12 = .ok (.istore 4, 2) := by decide +kernel
theorem dL_lastsSo_14 : decode cL_lastsSo 14 = .ok (.aload_n 0, 1) := by decide +kernel
theorem dL_lastsSo_15 : decode cL_lastsSo 15 = .ok (.invokevirtual 92, 3) := by decide +kernel
theorem dL_lastsSo_18 : decode cL_lastsSo 18 = .ok (.istore 5, 2) := by decide +kernel
theorem dL_lastsSo_20 : decode cL_lastsSo 20 = .ok (.iload_n 3, 1) := by decide +kernel
theorem dL_lastsSo_21 : decode cL_lastsSo 21 = .ok (.bipush (-5), 2) := by decide +kernel
theorem dL_lastsSo_23 : decode cL_lastsSo 23 = .ok (.if_icmp .eq 8, 3) := by decide +kernel
theorem dL_lastsSo_26 : decode cL_lastsSo 26 = .ok (.iload_n 3, 1) := by decide +kernel
theorem dL_lastsSo_27 : decode cL_lastsSo 27 = .ok (.iconst 5, 1) := by decide +kernel
theorem dL_lastsSo_28 : decode cL_lastsSo 28 = .ok (.if_icmp .le 7, 3) := by decide +kernel
theorem dL_lastsSo_31 : decode cL_lastsSo 31 = .ok (.iconst 5, 1) := by decide +kernel
theorem dL_lastsSo_32 : decode cL_lastsSo 32 = .ok (.goto 4, 3) := by decide +kernel
theorem dL_lastsSo_35 : decode cL_lastsSo 35 = .ok (.iload_n 3, 1) := by decide +kernel
theorem dL_lastsSo_36 : decode cL_lastsSo 36 = .ok (.istore 6, 2) := by decide +kernel
theorem dL_lastsSo_38 : decode cL_lastsSo 38 = .ok (.iload_n 3, 1) := by decide +kernel
theorem dL_lastsSo_39 : decode cL_lastsSo 39 = .ok (.bipush (-5), 2) := by decide +kernel
theorem dL_lastsSo_41 : decode cL_lastsSo 41 = .ok (.if_icmp .eq 14, 3) := by decide +kernel
theorem dL_lastsSo_44 : decode cL_lastsSo 44 = .ok (.iload_n 3, 1) := by decide +kernel
theorem dL_lastsSo_45 : decode cL_lastsSo 45 = .ok (.ifCond .lt 14, 3) := by decide +kernel
theorem dL_lastsSo_48 : decode cL_lastsSo 48 = .ok (.iload_n 3, 1) := by decide +kernel
theorem dL_lastsSo_49 : decode cL_lastsSo 49 = .ok (.sipush 200, 3) := by decide +kernel
theorem dL_lastsSo_52 : decode cL_lastsSo 52 = .ok (.if_icmp .ge 7, 3) := by decide +kernel
theorem dL_lastsSo_55 : decode cL_lastsSo 55 = .ok (.iconst 1, 1) := by decide +kernel
theorem dL_lastsSo_56 : decode cL_lastsSo 56 = .ok (.goto 4, 3) := by decide +kernel
theorem dL_lastsSo_59 : decode cL_lastsSo 59 = .ok (.iconst 0, 1) := by decide +kernel
theorem dL_lastsSo_60 : decode cL_lastsSo 60 = .ok (.istore 7, 2) := by decide +kernel
theorem dL_lastsSo_62 : decode cL_lastsSo 62 = .ok (.iconst 0, 1) := by decide +kernel
theorem dL_lastsSo_63 : decode cL_lastsSo 63 = .ok (.istore 8, 2) := by decide +kernel
theorem dL_lastsSo_65 : decode cL_lastsSo 65 = .ok (.iload 8, 2) := by decide +kernel
theorem dL_lastsSo_67 : decode cL_lastsSo 67 = .ok (.iload 6, 2) := by decide +kernel
theorem dL_lastsSo_69 : decode cL_lastsSo 69 = .ok (.if_icmp .gt 152, 3) := by decide +kernel
theorem dL_lastsSo_72 : decode cL_lastsSo 72 = .ok (.iload 7, 2) := by decide +kernel
theorem dL_lastsSo_74 : decode cL_lastsSo 74 = .ok (.ifCond .eq 147, 3) := by decide +kernel
theorem dL_lastsSo_77 : decode cL_lastsSo 77 = .ok (.aload_n 0, 1) := by decide +kernel
theorem dL_lastsSo_78 : decode cL_lastsSo 78 = .ok (.iconst 0, 1) := by decide +kernel
theorem dL_lastsSo_79 : decode cL_lastsSo 79 = .ok (.invokevirtual 21, 3) := by decide +kernel
theorem dL_lastsSo_82 : decode cL_lastsSo 82 = .ok (.ldc 57, 2) := by decide +kernel
theorem dL_lastsSo_84 : decode cL_lastsSo 84 = .ok (.if_icmp .ge 137, 3) := by decide +kernel
theorem dL_lastsSo_87 : decode cL_lastsSo 87 = .ok (.aload_n 0, 1) := by decide +kernel
theorem dL_lastsSo_88 : decode cL_lastsSo 88 = .ok (.aload_n 0, 1) := by decide +kernel
theorem dL_lastsSo_89 : decode cL_lastsSo 89 = .ok (.iconst 0, 1) := by decide +kernel
theorem dL_lastsSo_90 : decode cL_lastsSo 90 = .ok (.invokevirtual 21, 3) := by decide +kernel
theorem dL_lastsSo_93 : decode cL_lastsSo 93 = .ok (.invokevirtual 24, 3) := by decide +kernel
theorem dL_lastsSo_96 : decode cL_lastsSo 96 = .ok (.istore 9, 2) := by decide +kernel
theorem dL_lastsSo_98 : decode cL_lastsSo 98 = .ok (.aload_n 0, 1) := by decide +kernel
theorem dL_lastsSo_99 : decode cL_lastsSo 99 = .ok (.iload_n 1, 1) := by decide +kernel
theorem dL_lastsSo_100 : decode cL_lastsSo 100 = .ok (.iload_n 2, 1) := by decide +kernel
theorem dL_lastsSo_101 : decode cL_lastsSo 101 = .ok (.invokevirtual 45, 3) := by decide +kernel
theorem dL_lastsSo_104 : decode cL_lastsSo 104 = .ok (.istore 10, 2) := by decide +kernel
theorem dL_lastsSo_106 : decode cL_lastsSo 106 = .ok (.iload 9, 2) := by decide +kernel
theorem dL_lastsSo_108 : decode cL_lastsSo 108 = .ok (.ifCond .lt 38, 3) := by decide +kernel
theorem dL_lastsSo_111 : decode cL_lastsSo 111 = .ok (.iload 10, 2) := by decide +kernel
theorem dL_lastsSo_113 : decode cL_lastsSo 113 = .ok (.iload_n 2, 1) := by decide +kernel
theorem dL_lastsSo_114 : decode cL_lastsSo 114 = .ok (.if_icmp .ne 7, 3) := by decide +kernel
theorem dL_lastsSo_117 : decode cL_lastsSo 117 = .ok (.iconst 1, 1) := by decide +kernel
theorem dL_lastsSo_118 : decode cL_lastsSo 118 = .ok (.goto 4, 3) := by decide +kernel
theorem dL_lastsSo_121 : decode cL_lastsSo 121 = .ok (.iconst 0, 1) := by decide +kernel
theorem dL_lastsSo_122 : decode cL_lastsSo 122 = .ok (.iload_n 3, 1) := by decide +kernel
theorem dL_lastsSo_123 : decode cL_lastsSo 123 = .ok (.bipush (-5), 2) := by decide +kernel
theorem dL_lastsSo_125 : decode cL_lastsSo 125 = .ok (.if_icmp .eq 9, 3) := by decide +kernel
theorem dL_lastsSo_128 : decode cL_lastsSo 128 = .ok (.iload 8, 2) := by decide +kernel
theorem dL_lastsSo_130 : decode cL_lastsSo 130 = .ok (.iload_n 3, 1) := by decide +kernel
theorem dL_lastsSo_131 : decode cL_lastsSo 131 = .ok (.if_icmp .ge 7, 3) := by decide +kernel
theorem dL_lastsSo_134 : decode cL_lastsSo 134 = .ok (.iconst 1, 1) := by decide +kernel
theorem dL_lastsSo_135 : decode cL_lastsSo 135 = .ok (.goto 4, 3) := by decide +kernel
theorem dL_lastsSo_138 : decode cL_lastsSo 138 = .ok (.iconst 0, 1) := by decide +kernel
theorem dL_lastsSo_139 : decode cL_lastsSo 139 = .ok (.if_icmp .ne 7, 3) := by decide +kernel
theorem dL_lastsSo_142 : decode cL_lastsSo 142 = .ok (.iconst 1, 1) := by decide +kernel
theorem dL_lastsSo_143 : decode cL_lastsSo 143 = .ok (.goto 4, 3) := by decide +kernel
theorem dL_lastsSo_146 : decode cL_lastsSo 146 = .ok (.iconst 0, 1) := by decide +kernel
theorem dL_lastsSo_147 : decode cL_lastsSo 147 = .ok (.istore 7, 2) := by decide +kernel
theorem dL_lastsSo_149 : decode cL_lastsSo 149 = .ok (.aload_n 0, 1) := by decide +kernel
theorem dL_lastsSo_150 : decode cL_lastsSo 150 = .ok (.iconst 1, 1) := by decide +kernel
theorem dL_lastsSo_151 : decode cL_lastsSo 151 = .ok (.invokevirtual 21, 3) := by decide +kernel
theorem dL_lastsSo_154 : decode cL_lastsSo 154 = .ok (.iload 4, 2) := by decide +kernel
theorem dL_lastsSo_156 : decode cL_lastsSo 156 = .ok (.if_icmp .ge 32, 3) := by decide +kernel
theorem dL_lastsSo_159 : decode cL_lastsSo 159 = .ok (.iload 7, 2) := by decide +kernel
theorem dL_lastsSo_161 : decode cL_lastsSo 161 = .ok (.ifCond .eq 24, 3) := by decide +kernel
theorem dL_lastsSo_164 : decode cL_lastsSo 164 = .ok (.aload_n 0, 1) := by decide +kernel
theorem dL_lastsSo_165 : decode cL_lastsSo 165 = .ok (.iload 4, 2) := by decide +kernel
theorem dL_lastsSo_167 : decode cL_lastsSo 167 = .ok (.aload_n 0, 1) := by decide +kernel
theorem dL_lastsSo_168 : decode cL_lastsSo 168 = .ok (.iconst 1, 1) := by decide +kernel
theorem dL_lastsSo_169 : decode cL_lastsSo 169 = .ok (.invokevirtual 21, 3) := by decide +kernel
theorem dL_lastsSo_172 : decode cL_lastsSo 172 = .ok (.isub, 1) := by decide +kernel
theorem dL_lastsSo_173 : decode cL_lastsSo 173 = .ok (.invokevirtual 30, 3) := by decide +kernel
theorem dL_lastsSo_176 : decode cL_lastsSo 176 = .ok (.iload 4, 2) := by decide +kernel
theorem dL_lastsSo_178 : decode cL_lastsSo 178 = .ok (.if_icmp .ne 7, 3) := by decide +kernel
