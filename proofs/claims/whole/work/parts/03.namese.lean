theorem dX9_prints_37 : decode cX9_prints 37 = .ok (.iload_n 1, 1) := by decide +kernel
theorem dX9_prints_38 : decode cX9_prints 38 = .ok (.invokevirtual 91, 3) := by decide +kernel
theorem dX9_prints_41 : decode cX9_prints 41 = .ok (.ifCond .eq 7, 3) := by decide +kernel
theorem dX9_prints_44 : decode cX9_prints 44 = .ok (.iconst 1, 1) := by decide +kernel
theorem dX9_prints_45 : decode cX9_prints 45 = .ok (.goto 4, 3) := by decide +kernel
theorem dX9_prints_48 : decode cX9_prints 48 = .ok (.iconst 0, 1) := by decide +kernel
theorem dX9_prints_49 : decode cX9_prints 49 = .ok (.istore_n 2, 1) := by decide +kernel
theorem dX9_prints_50 : decode cX9_prints 50 = .ok (.aload_n 0, 1) := by decide +kernel
theorem dX9_prints_51 : decode cX9_prints 51 = .ok (.getfield 7, 3) := by decide +kernel
theorem dX9_prints_54 : decode cX9_prints 54 = .ok (.bipush 13, 2) := by decide +kernel
theorem dX9_prints_56 : decode cX9_prints 56 = .ok (.aload_n 0, 1) := by decide +kernel
theorem dX9_prints_57 : decode cX9_prints 57 = .ok (.invokevirtual 57, 3) := by decide +kernel
theorem dX9_prints_60 : decode cX9_prints 60 = .ok (.iastore, 1) := by decide +kernel
theorem dX9_prints_61 : decode cX9_prints 61 = .ok (.aload_n 0, 1) := by decide +kernel
theorem dX9_prints_62 : decode cX9_prints 62 = .ok (.getfield 7, 3) := by decide +kernel
theorem dX9_prints_65 : decode cX9_prints 65 = .ok (.bipush 14, 2) := by decide +kernel
theorem dX9_prints_67 : decode cX9_prints 67 = .ok (.aload_n 0, 1) := by decide +kernel
theorem dX9_prints_68 : decode cX9_prints 68 = .ok (.getfield 7, 3) := by decide +kernel
theorem dX9_prints_71 : decode cX9_prints 71 = .ok (.iconst 3, 1) := by decide +kernel
theorem dX9_prints_72 : decode cX9_prints 72 = .ok (.iaload, 1) := by decide +kernel
theorem dX9_prints_73 : decode cX9_prints 73 = .ok (.iastore, 1) := by decide +kernel
theorem dX9_prints_74 : decode cX9_prints 74 = .ok (.aload_n 0, 1) := by decide +kernel
theorem dX9_prints_75 : decode cX9_prints 75 = .ok (.getfield 7, 3) := by decide +kernel
theorem dX9_prints_78 : decode cX9_prints 78 = .ok (.bipush 15, 2) := by decide +kernel
theorem dX9_prints_80 : decode cX9_prints 80 = .ok (.aload_n 0, 1) := by decide +kernel
theorem dX9_prints_81 : decode cX9_prints 81 = .ok (.iload_n 1, 1) := by decide +kernel
theorem dX9_prints_82 : decode cX9_prints 82 = .ok (.iconst 1, 1) := by decide +kernel
theorem dX9_prints_83 : decode cX9_prints 83 = .ok (.invokevirtual 87, 3) := by decide +kernel
theorem dX9_prints_86 : decode cX9_prints 86 = .ok (.iastore, 1) := by decide +kernel
theorem dX9_prints_87 : decode cX9_prints 87 = .ok (.aload_n 0, 1) := by decide +kernel
theorem dX9_prints_88 : decode cX9_prints 88 = .ok (.getfield 7, 3) := by decide +kernel
theorem dX9_prints_91 : decode cX9_prints 91 = .ok (.bipush 16, 2) := by decide +kernel
theorem dX9_prints_93 : decode cX9_prints 93 = .ok (.aload_n 0, 1) := by decide +kernel
theorem dX9_prints_94 : decode cX9_prints 94 = .ok (.iload_n 1, 1) := by decide +kernel
theorem dX9_prints_95 : decode cX9_prints 95 = .ok (.iconst 0, 1) := by decide +kernel
theorem dX9_prints_96 : decode cX9_prints 96 = .ok (.invokevirtual 87, 3) := by decide +kernel
theorem dX9_prints_99 : decode cX9_prints 99 = .ok (.iastore, 1) := by decide +kernel
theorem dX9_prints_100 : decode cX9_prints 100 = .ok (.aload_n 0, 1) := by decide +kernel
theorem dX9_prints_101 : decode cX9_prints 101 = .ok (.getfield 7, 3) := by decide +kernel
theorem dX9_prints_104 : decode cX9_prints 104 = .ok (.bipush 17, 2) := by decide +kernel
theorem dX9_prints_106 : decode cX9_prints 106 = .ok (.iload_n 2, 1) := by decide +kernel
theorem dX9_prints_107 : decode cX9_prints 107 = .ok (.iastore, 1) := by decide +kernel
theorem dX9_prints_108 : decode cX9_prints 108 = .ok (.aload_n 0, 1) := by decide +kernel
theorem dX9_prints_109 : decode cX9_prints 109 = .ok (.getfield 7, 3) := by decide +kernel
theorem dX9_prints_112 : decode cX9_prints 112 = .ok (.bipush 18, 2) := by decide +kernel
theorem dX9_prints_114 : decode cX9_prints 114 = .ok (.iload_n 1, 1) := by decide +kernel
theorem dX9_prints_115 : decode cX9_prints 115 = .ok (.iastore, 1) := by decide +kernel
theorem dX9_prints_116 : decode cX9_prints 116 = .ok (.aload_n 0, 1) := by decide +kernel
theorem dX9_prints_117 : decode cX9_prints 117 = .ok (.getfield 7, 3) := by decide +kernel
theorem dX9_prints_120 : decode cX9_prints 120 = .ok (.bipush 12, 2) := by decide +kernel
theorem dX9_prints_122 : decode cX9_prints 122 = .ok (.aload_n 0, 1) := by decide +kernel
theorem dX9_prints_123 : decode cX9_prints 123 = .ok (.getfield 7, 3) := by decide +kernel
theorem dX9_prints_126 : decode cX9_prints 126 = .ok (.bipush 12, 2) := by decide +kernel
theorem dX9_prints_128 : decode cX9_prints 128 = .ok (.iaload, 1) := by decide +kernel
theorem dX9_prints_129 : decode cX9_prints 129 = .ok (.iconst 1, 1) := by decide +kernel
theorem dX9_prints_130 : decode cX9_prints 130 = .ok (.iadd, 1) := by decide +kernel
theorem dX9_prints_131 : decode cX9_prints 131 = .ok (.bipush 12, 2) := by decide +kernel
theorem dX9_prints_133 : decode cX9_prints 133 = .ok (.invokestatic 64, 3) := by decide +kernel
theorem dX9_prints_136 : decode cX9_prints 136 = .ok (.iastore, 1) := by decide +kernel
theorem dX9_prints_137 : decode cX9_prints 137 = .ok (.aload_n 0, 1) := by decide +kernel
theorem dX9_prints_138 : decode cX9_prints 138 = .ok (.getfield 7, 3) := by decide +kernel
theorem dX9_prints_141 : decode cX9_prints 141 = .ok (.iconst 5, 1) := by decide +kernel
theorem dX9_prints_142 : decode cX9_prints 142 = .ok (.dup2, 1) := by decide +kernel
theorem dX9_prints_143 : decode cX9_prints 143 = .ok (.iaload, 1) := by decide +kernel
theorem dX9_prints_144 : decode cX9_prints 144 = .ok (.iconst 1, 1) := by decide +kernel
theorem dX9_prints_145 : decode cX9_prints 145 = .ok (.iadd, 1) := by decide +kernel
theorem dX9_prints_146 : decode cX9_prints 146 = .ok (.iastore, 1) := by decide +kernel
theorem dX9_prints_147 : decode cX9_prints 147 = .ok (.aload_n 0, 1) := by decide +kernel
theorem dX9_prints_148 : decode cX9_prints 148 = .ok (.getfield 7, 3) := by decide +kernel
theorem dX9_prints_151 : decode cX9_prints 151 = .ok (.bipush 6, 2) := by decide +kernel
theorem dX9_prints_153 : decode cX9_prints 153 = .ok (.dup2, 1) := by decide +kernel
theorem dX9_prints_154 : decode cX9_prints 154 = .ok (.iaload, 1) := by decide +kernel
theorem dX9_prints_155 : decode cX9_prints 155 = .ok (.iload_n 2, 1) := by decide +kernel
theorem dX9_prints_156 : decode cX9_prints 156 = .ok (.iadd, 1) := by decide +kernel
theorem dX9_prints_157 : decode cX9_prints 157 = .ok (.iastore, 1) := by decide +kernel
theorem dX9_prints_158 : decode cX9_prints 158 = .ok (.aload_n 0, 1) := by decide +kernel
theorem dX9_prints_159 : decode cX9_prints 159 = .ok (.getfield 7, 3) := by decide +kernel
theorem dX9_prints_162 : decode cX9_prints 162 = .ok (.bipush 7, 2) := by decide +kernel
theorem dX9_prints_164 : decode cX9_prints 164 = .ok (.dup2, 1) := by decide +kernel
theorem dX9_prints_165 : decode cX9_prints 165 = .ok (.iaload, 1) := by decide +kernel
theorem dX9_prints_166 : decode cX9_prints 166 = .ok (.aload_n 0, 1) := by decide +kernel
theorem dX9_prints_167 : decode cX9_prints 167 = .ok (.getfield 7, 3) := by decide +kernel
theorem dX9_prints_170 : decode cX9_prints 170 = .ok (.bipush 15, 2) := by decide +kernel
theorem dX9_prints_172 : decode cX9_prints 172 = .ok (.iaload, 1) := by decide +kernel
theorem dX9_prints_173 : decode cX9_prints 173 = .ok (.invokestatic 94, 3) := by decide +kernel
theorem dX9_prints_176 : decode cX9_prints 176 = .ok (.iadd, 1) := by decide +kernel
theorem dX9_prints_177 : decode cX9_prints 177 = .ok (.iastore, 1) := by decide +kernel
theorem dX9_prints_178 : decode cX9_prints 178 = .ok (.aload_n 0, 1) := by decide +kernel
theorem dX9_prints_179 : decode cX9_prints 179 = .ok (.getfield 7, 3) := by decide +kernel
theorem dX9_prints_182 : decode cX9_prints 182 = .ok (.bipush 8, 2) := by decide +kernel
theorem dX9_prints_184 : decode cX9_prints 184 = .ok (.dup2, 1) := by decide +kernel
theorem dX9_prints_185 : decode cX9_prints 185 = .ok (.iaload, 1) := by decide +kernel
theorem dX9_prints_186 : decode cX9_prints 186 = .ok (.aload_n 0, 1) := by decide +kernel
theorem dX9_prints_187 : decode cX9_prints 187 = .ok (.getfield 7, 3) := by decide +kernel
theorem dX9_prints_190 : decode cX9_prints 190 = .ok (.bipush 16, 2) := by decide +kernel
theorem dX9_prints_192 : decode cX9_prints 192 = .ok (.iaload, 1) := by decide +kernel
theorem dX9_prints_193 : decode cX9_prints 193 = .ok (.invokestatic 94, 3) := by decide +kernel
theorem dX9_prints_196 : decode cX9_prints 196 = .ok (.iadd, 1) := by decide +kernel
theorem dX9_prints_197 : decode cX9_prints 197 = .ok (.iastore, 1) := by decide +kernel
theorem dX9_prints_198 : decode cX9_prints 198 = .ok (.aload_n 0, 1) := by decide +kernel
theorem dX9_prints_199 : decode cX9_prints 199 = .ok (.iload_n 1, 1) := by decide +kernel
theorem dX9_prints_200 : decode cX9_prints 200 = .ok (.invokevirtual 97, 3) := by decide +kernel
theorem dX9_prints_203 : decode cX9_prints 203 = .ok (.iload_n 2, 1) := by decide +kernel
theorem dX9_prints_204 : decode cX9_prints 204 = .ok (.ireturn, 1) := by decide +kernel
set_option maxRecDepth 20000 in
theorem ggX9_presses_X9_prints : GoodIn wsX9_presses wsX9_prints := goodIn_r _ [9, 1, 10, 11, 12, 8, 13, 14, 15, 16, 17, 18, 19, 20, 21, 22, 23, 24, 25, 26, 27, 28, 29, 30, 31, 32, 33, 34, 35, 36, 37, 38, 39, 40, 41, 42, 43, 44, 45, 46, 47, 48, 49, 50, 51, 52, 53, 54, 55, 56, 57, 58, 59, 60, 61, 62, 63, 64] (by decide +kernel) (by decide +kernel)
set_option maxRecDepth 20000 in
theorem gX9_presses_X9_prints : GoodIn wsX9_presses (wsV RX9 101 RX9 yX9_prints wsX9_prints) := goodIn_app (goodIn_of _ (by decide +kernel)) ggX9_presses_X9_prints
theorem dX9_presses_0 : decode cX9_presses 0 = .ok (.iconst 0, 1) := by decide +kernel
theorem dX9_presses_1 : decode cX9_presses 1 = .ok (.istore_n 3, 1) := by decide +kernel
theorem dX9_presses_2 : decode cX9_presses 2 = .ok (.iconst 0, 1) := by decide +kernel
theorem dX9_presses_3 : decode cX9_presses 3 = .ok (.istore 4, 2) := by decide +kernel
theorem dX9_presses_5 : decode cX9_presses 5 = .ok (.iload 4, 2) := by decide +kernel
theorem dX9_presses_7 : decode cX9_presses 7 = .ok (.iload_n 2, 1) := by decide +kernel
theorem dX9_presses_8 : decode cX9_presses 8 = .ok (.if_icmp .ge 17, 3) := by decide +kernel
theorem dX9_presses_11 : decode cX9_presses 11 = .ok (.iload_n 3, 1) := by decide +kernel
theorem dX9_presses_12 : decode cX9_presses 12 = .ok (.aload_n 0, 1) := by decide +kernel
theorem dX9_presses_13 : decode cX9_presses 13 = .ok (.iload_n 1, 1) := by decide +kernel
theorem dX9_presses_14 : decode cX9_presses 14 = .ok (.invokevirtual 101, 3) := by decide +kernel
theorem dX9_presses_17 : decode cX9_presses 17 = .ok (.iadd, 1) := by decide +kernel
theorem dX9_presses_18 : decode cX9_presses 18 = .ok (.istore_n 3, 1) := by decide +kernel
theorem dX9_presses_19 : decode cX9_presses 19 = .ok (.iinc 4 1, 3) := by decide +kernel
theorem dX9_presses_22 : decode cX9_presses 22 = .ok (.goto (-17), 3) := by decide +kernel
theorem dX9_presses_25 : decode cX9_presses 25 = .ok (.iload_n 3, 1) := by decide +kernel
theorem dX9_presses_26 : decode cX9_presses 26 = .ok (.ifCond .le 248, 3) := by decide +kernel
theorem dX9_presses_29 : decode cX9_presses 29 = .ok (.aload_n 0, 1) := by decide +kernel
theorem dX9_presses_30 : decode cX9_presses 30 = .ok (.getfield 7, 3) := by decide +kernel
theorem dX9_presses_33 : decode cX9_presses 33 = .ok (.bipush 11, 2) := by decide +kernel
theorem dX9_presses_35 : decode cX9_presses 35 = .ok (.iaload, 1) := by decide +kernel
theorem dX9_presses_36 : decode cX9_presses 36 = .ok (.istore 4, 2) := by decide +kernel
theorem dX9_presses_38 : decode cX9_presses 38 = .ok (.iload 4, 2) := by decide +kernel
theorem dX9_presses_40 : decode cX9_presses 40 = .ok (.ifCond .le 27, 3) := by decide +kernel
theorem dX9_presses_43 : decode cX9_presses 43 = .ok (.aload_n 0, 1) := by decide +kernel
theorem dX9_presses_44 : decode cX9_presses 44 = .ok (.getfield 25, 3) := by decide +kernel
theorem dX9_presses_47 : decode cX9_presses 47 = .ok (.iconst 4, 1) := by decide +kernel
theorem dX9_presses_48 : decode cX9_presses 48 = .ok (.iload 4, 2) := by decide +kernel
theorem dX9_presses_50 : decode cX9_presses 50 = .ok (.imul, 1) := by decide +kernel
theorem dX9_presses_51 : decode cX9_presses 51 = .ok (.iconst 4, 1) := by decide +kernel
theorem dX9_presses_52 : decode cX9_presses 52 = .ok (.isub, 1) := by decide +kernel
theorem dX9_presses_53 : decode cX9_presses 53 = .ok (.iaload, 1) := by decide +kernel
theorem dX9_presses_54 : decode cX9_presses 54 = .ok (.aload_n 0, 1) := by decide +kernel
theorem dX9_presses_55 : decode cX9_presses 55 = .ok (.getfield 7, 3) := by decide +kernel
theorem dX9_presses_58 : decode cX9_presses 58 = .ok (.iconst 3, 1) := by decide +kernel
theorem dX9_presses_59 : decode cX9_presses 59 = .ok (.iaload, 1) := by decide +kernel
theorem dX9_presses_60 : decode cX9_presses 60 = .ok (.if_icmp .ne 7, 3) := by decide +kernel
theorem dX9_presses_63 : decode cX9_presses 63 = .ok (.iconst 1, 1) := by decide +kernel
theorem dX9_presses_64 : decode cX9_presses 64 = .ok (.goto 4, 3) := by decide +kernel
theorem dX9_presses_67 : decode cX9_presses 67 = .ok (.iconst 0, 1) := by decide +kernel
theorem dX9_presses_68 : decode cX9_presses 68 = .ok (.istore 5, 2) := by decide +kernel
theorem dX9_presses_70 : decode cX9_presses 70 = .ok (.iload 5, 2) := by decide +kernel
theorem dX9_presses_72 : decode cX9_presses 72 = .ok (.ifCond .eq 17, 3) := by decide +kernel
theorem dX9_presses_75 : decode cX9_presses 75 = .ok (.iload 4, 2) := by decide +kernel
theorem dX9_presses_77 : decode cX9_presses 77 = .ok (.aload_n 0, 1) := by decide +kernel
theorem dX9_presses_78 : decode cX9_presses 78 = .ok (.getfield 41, 3) := by decide +kernel
theorem dX9_presses_81 : decode cX9_presses 81 = .ok (.if_icmp .lt 8, 3) := by decide +kernel
theorem dX9_presses_84 : decode cX9_presses 84 = .ok (.iload 4, 2) := by decide +kernel
theorem dX9_presses_86 : decode cX9_presses 86 = .ok (.goto 9, 3) := by decide +kernel
theorem dX9_presses_89 : decode cX9_presses 89 = .ok (.aload_n 0, 1) := by decide +kernel
theorem dX9_presses_90 : decode cX9_presses 90 = .ok (.getfield 37, 3) := by decide +kernel
theorem dX9_presses_93 : decode cX9_presses 93 = .ok (.iconst 1, 1) := by decide +kernel
theorem dX9_presses_94 : decode cX9_presses 94 = .ok (.iadd, 1) := by decide +kernel
theorem dX9_presses_95 : decode cX9_presses 95 = .ok (.istore 6, 2) := by decide +kernel
theorem dX9_presses_97 : decode cX9_presses 97 = .ok (.aload_n 0, 1) := by decide +kernel
theorem dX9_presses_98 : decode cX9_presses 98 = .ok (.iload 6, 2) := by decide +kernel
theorem dX9_presses_100 : decode cX9_presses 100 = .ok (.aload_n 0, 1) := by decide +kernel
theorem dX9_presses_101 : decode cX9_presses 101 = .ok (.getfield 37, 3) := by decide +kernel
theorem dX9_presses_104 : decode cX9_presses 104 = .ok (.if_icmp .le 8, 3) := by decide +kernel
theorem dX9_presses_107 : decode cX9_presses 107 = .ok (.iload 6, 2) := by decide +kernel
theorem dX9_presses_109 : decode cX9_presses 109 = .ok (.goto 7, 3) := by decide +kernel
theorem dX9_presses_112 : decode cX9_presses 112 = .ok (.aload_n 0, 1) := by decide +kernel
theorem dX9_presses_113 : decode cX9_presses 113 = .ok (.getfield 37, 3) := by decide +kernel
theorem dX9_presses_116 : decode cX9_presses 116 = .ok (.putfield 37, 3) := by decide +kernel
theorem dX9_presses_119 : decode cX9_presses 119 = .ok (.iload 5, 2) := by decide +kernel
theorem dX9_presses_121 : decode cX9_presses 121 = .ok (.ifCond .eq 17, 3) := by decide +kernel
theorem dX9_presses_124 : decode cX9_presses 124 = .ok (.aload_n 0, 1) := by decide +kernel
theorem dX9_presses_125 : decode cX9_presses 125 = .ok (.getfield 25, 3) := by decide +kernel
theorem dX9_presses_128 : decode cX9_presses 128 = .ok (.iconst 4, 1) := by decide +kernel
theorem dX9_presses_129 : decode cX9_presses 129 = .ok (.iload 4, 2) := by decide +kernel
theorem dX9_presses_131 : decode cX9_presses 131 = .ok (.imul, 1) := by decide +kernel
theorem dX9_presses_132 : decode cX9_presses 132 = .ok (.iconst 3, 1) := by decide +kernel
theorem dX9_presses_133 : decode cX9_presses 133 = .ok (.isub, 1) := by decide +kernel
theorem dX9_presses_134 : decode cX9_presses 134 = .ok (.iaload, 1) := by decide +kernel
theorem dX9_presses_135 : decode cX9_presses 135 = .ok (.goto 4, 3) := by decide +kernel
theorem dX9_presses_138 : decode cX9_presses 138 = .ok (.iconst 0, 1) := by decide +kernel
theorem dX9_presses_139 : decode cX9_presses 139 = .ok (.istore 7, 2) := by decide +kernel
theorem dX9_presses_141 : decode cX9_presses 141 = .ok (.iload 5, 2) := by decide +kernel
theorem dX9_presses_143 : decode cX9_presses 143 = .ok (.ifCond .eq 17, 3) := by decide +kernel
theorem dX9_presses_146 : decode cX9_presses 146 = .ok (.aload_n 0, 1) := by decide +kernel
theorem dX9_presses_147 : decode cX9_presses 147 = .ok (.getfield 25, 3) := by decide +kernel
theorem dX9_presses_150 : decode cX9_presses 150 = .ok (.iconst 4, 1) := by decide +kernel
theorem dX9_presses_151 : decode cX9_presses 151 = .ok (.iload 4, 2) := by decide +kernel
theorem dX9_presses_153 : decode cX9_presses 153 = .ok (.imul, 1) := by decide +kernel
theorem dX9_presses_154 : decode cX9_presses 154 = .ok (.iconst 2, 1) := by decide +kernel
theorem dX9_presses_155 : decode cX9_presses 155 = .ok (.isub, 1) := by decide +kernel
theorem dX9_presses_156 : decode cX9_presses 156 = .ok (.iaload, 1) := by decide +kernel
theorem dX9_presses_157 : decode cX9_presses 157 = .ok (.goto 5, 3) := by decide +kernel
theorem dX9_presses_160 : decode cX9_presses 160 = .ok (.iload 4, 2) := by decide +kernel
theorem dX9_presses_162 : decode cX9_presses 162 = .ok (.istore 8, 2) := by decide +kernel
theorem dX9_presses_164 : decode cX9_presses 164 = .ok (.iload 5, 2) := by decide +kernel
theorem dX9_presses_166 : decode cX9_presses 166 = .ok (.ifCond .eq 17, 3) := by decide +kernel
theorem dX9_presses_169 : decode cX9_presses 169 = .ok (.aload_n 0, 1) := by decide +kernel
theorem dX9_presses_170 : decode cX9_presses 170 = .ok (.getfield 25, 3) := by decide +kernel
theorem dX9_presses_173 : decode cX9_presses 173 = .ok (.iconst 4, 1) := by decide +kernel
theorem dX9_presses_174 : decode cX9_presses 174 = .ok (.iload 4, 2) := by decide +kernel
theorem dX9_presses_176 : decode cX9_presses 176 = .ok (.imul, 1) := by decide +kernel
theorem dX9_presses_177 : decode cX9_presses 177 = .ok (.iconst 1, 1) := by decide +kernel
theorem dX9_presses_178 : decode cX9_presses 178 = .ok (.isub, 1) := by decide +kernel
theorem dX9_presses_179 : decode cX9_presses 179 = .ok (.iaload, 1) := by decide +kernel
theorem dX9_presses_180 : decode cX9_presses 180 = .ok (.goto 25, 3) := by decide +kernel
theorem dX9_presses_183 : decode cX9_presses 183 = .ok (.iload 4, 2) := by decide +kernel
theorem dX9_presses_185 : decode cX9_presses 185 = .ok (.ifCond .le 19, 3) := by decide +kernel
theorem dX9_presses_188 : decode cX9_presses 188 = .ok (.aload_n 0, 1) := by decide +kernel
theorem dX9_presses_189 : decode cX9_presses 189 = .ok (.getfield 25, 3) := by decide +kernel
theorem dX9_presses_192 : decode cX9_presses 192 = .ok (.iconst 4, 1) := by decide +kernel
theorem dX9_presses_193 : decode cX9_presses 193 = .ok (.iload 4, 2) := by decide +kernel
theorem dX9_presses_195 : decode cX9_presses 195 = .ok (.imul, 1) := by decide +kernel
theorem dX9_presses_196 : decode cX9_presses 196 = .ok (.iconst 1, 1) := by decide +kernel
theorem dX9_presses_197 : decode cX9_presses 197 = .ok (.isub, 1) := by decide +kernel
theorem dX9_presses_198 : decode cX9_presses 198 = .ok (.iaload, 1) := by decide +kernel
theorem dX9_presses_199 : decode cX9_presses 199 = .ok (.iconst 1, 1) := by decide +kernel
theorem dX9_presses_200 : decode cX9_presses 200 = .ok (.iadd, 1) := by decide +kernel
theorem dX9_presses_201 : decode cX9_presses 201 = .ok (.goto 4, 3) := by decide +kernel
theorem dX9_presses_204 : decode cX9_presses 204 = .ok (.iconst 1, 1) := by decide +kernel
theorem dX9_presses_205 : decode cX9_presses 205 = .ok (.istore 9, 2) := by decide +kernel
theorem dX9_presses_207 : decode cX9_presses 207 = .ok (.aload_n 0, 1) := by decide +kernel
theorem dX9_presses_208 : decode cX9_presses 208 = .ok (.getfield 25, 3) := by decide +kernel
theorem dX9_presses_211 : decode cX9_presses 211 = .ok (.iconst 4, 1) := by decide +kernel
theorem dX9_presses_212 : decode cX9_presses 212 = .ok (.iload 6, 2) := by decide +kernel
theorem dX9_presses_214 : decode cX9_presses 214 = .ok (.imul, 1) := by decide +kernel
theorem dX9_presses_215 : decode cX9_presses 215 = .ok (.iconst 4, 1) := by decide +kernel
theorem dX9_presses_216 : decode cX9_presses 216 = .ok (.isub, 1) := by decide +kernel
theorem dX9_presses_217 : decode cX9_presses 217 = .ok (.aload_n 0, 1) := by decide +kernel
theorem dX9_presses_218 : decode cX9_presses 218 = .ok (.getfield 7, 3) := by decide +kernel
theorem dX9_presses_221 : decode cX9_presses 221 = .ok (.iconst 3, 1) := by decide +kernel
theorem dX9_presses_222 : decode cX9_presses 222 = .ok (.iaload, 1) := by decide +kernel
theorem dX9_presses_223 : decode cX9_presses 223 = .ok (.iastore, 1) := by decide +kernel
theorem dX9_presses_224 : decode cX9_presses 224 = .ok (.aload_n 0, 1) := by decide +kernel
theorem dX9_presses_225 : decode cX9_presses 225 = .ok (.getfield 25, 3) := by decide +kernel
theorem dX9_presses_228 : decode cX9_presses 228 = .ok (.iconst 4, 1) := by decide +kernel
theorem dX9_presses_229 : decode cX9_presses 229 = .ok (.iload 6, 2) := by decide +kernel
theorem dX9_presses_231 : decode cX9_presses 231 = .ok (.imul, 1) := by decide +kernel
theorem dX9_presses_232 : decode cX9_presses 232 = .ok (.iconst 3, 1) := by decide +kernel
theorem dX9_presses_233 : decode cX9_presses 233 = .ok (.isub, 1) := by decide +kernel
theorem dX9_presses_234 : decode cX9_presses 234 = .ok (.iload 7, 2) := by decide +kernel
theorem dX9_presses_236 : decode cX9_presses 236 = .ok (.iload_n 3, 1) := by decide +kernel
theorem dX9_presses_237 : decode cX9_presses 237 = .ok (.iadd, 1) := by decide +kernel
theorem dX9_presses_238 : decode cX9_presses 238 = .ok (.iastore, 1) := by decide +kernel
theorem dX9_presses_239 : decode cX9_presses 239 = .ok (.aload_n 0, 1) := by decide +kernel
theorem dX9_presses_240 : decode cX9_presses 240 = .ok (.getfield 25, 3) := by decide +kernel
theorem dX9_presses_243 : decode cX9_presses 243 = .ok (.iconst 4, 1) := by decide +kernel
theorem dX9_presses_244 : decode cX9_presses 244 = .ok (.iload 6, 2) := by decide +kernel
theorem dX9_presses_246 : decode cX9_presses 246 = .ok (.imul, 1) := by decide +kernel
theorem dX9_presses_247 : decode cX9_presses 247 = .ok (.iconst 2, 1) := by decide +kernel
theorem dX9_presses_248 : decode cX9_presses 248 = .ok (.isub, 1) := by decide +kernel
theorem dX9_presses_249 : decode cX9_presses 249 = .ok (.iload 8, 2) := by decide +kernel
theorem dX9_presses_251 : decode cX9_presses 251 = .ok (.iastore, 1) := by decide +kernel
theorem dX9_presses_252 : decode cX9_presses 252 = .ok (.aload_n 0, 1) := by decide +kernel
theorem dX9_presses_253 : decode cX9_presses 253 = .ok (.getfield 25, 3) := by decide +kernel
theorem dX9_presses_256 : decode cX9_presses 256 = .ok (.iconst 4, 1) := by decide +kernel
theorem dX9_presses_257 : decode cX9_presses 257 = .ok (.iload 6, 2) := by decide +kernel
theorem dX9_presses_259 : decode cX9_presses 259 = .ok (.imul, 1) := by decide +kernel
theorem dX9_presses_260 : decode cX9_presses 260 = .ok (.iconst 1, 1) := by decide +kernel
theorem dX9_presses_261 : decode cX9_presses 261 = .ok (.isub, 1) := by decide +kernel
theorem dX9_presses_262 : decode cX9_presses 262 = .ok (.iload 9, 2) := by decide +kernel
theorem dX9_presses_264 : decode cX9_presses 264 = .ok (.iastore, 1) := by decide +kernel
theorem dX9_presses_265 : decode cX9_presses 265 = .ok (.aload_n 0, 1) := by decide +kernel
theorem dX9_presses_266 : decode cX9_presses 266 = .ok (.getfield 7, 3) := by decide +kernel
theorem dX9_presses_269 : decode cX9_presses 269 = .ok (.bipush 11, 2) := by decide +kernel
theorem dX9_presses_271 : decode cX9_presses 271 = .ok (.iload 6, 2) := by decide +kernel
theorem dX9_presses_273 : decode cX9_presses 273 = .ok (.iastore, 1) := by decide +kernel
theorem dX9_presses_274 : decode cX9_presses 274 = .ok (.iload_n 3, 1) := by decide +kernel
theorem dX9_presses_275 : decode cX9_presses 275 = .ok (.ireturn, 1) := by decide +kernel
set_option maxRecDepth 20000 in
theorem ggX9_pass_X9_in : GoodIn wsX9_pass wsX9_in := goodIn_r _ [6] (by decide +kernel) (by decide +kernel)
set_option maxRecDepth 20000 in
theorem gX9_pass_X9_in : GoodIn wsX9_pass (va_wsS RX9 32 yX9_in wsX9_in) := goodIn_app (goodIn_of _ (by decide +kernel)) ggX9_pass_X9_in
set_option maxRecDepth 20000 in
theorem ggX9_pass_X9_putAside : GoodIn wsX9_pass wsX9_putAside := goodIn_r _ [10, 11, 1, 12, 13, 24, 25, 26, 27, 28, 29, 30, 31, 32, 33, 34, 35, 36] (by decide +kernel) (by decide +kernel)
set_option maxRecDepth 20000 in
theorem gX9_pass_X9_putAside : GoodIn wsX9_pass (wsV RX9 104 RX9 yX9_putAside wsX9_putAside) := goodIn_app (goodIn_of _ (by decide +kernel)) ggX9_pass_X9_putAside
set_option maxRecDepth 20000 in
theorem ggX9_pass_X9_act : GoodIn wsX9_pass wsX9_act := goodIn_r _ [17, 18, 19, 11, 20, 21, 22, 5, 23, 1, 13, 12, 24, 25, 26, 27, 28, 29, 30, 31, 32, 33, 34, 35, 36] (by decide +kernel) (by decide +kernel)
set_option maxRecDepth 20000 in
theorem gX9_pass_X9_act : GoodIn wsX9_pass (wsV RX9 107 RX9 yX9_act wsX9_act) := goodIn_app (goodIn_of _ (by decide +kernel)) ggX9_pass_X9_act
theorem dX9_pass_0 : decode cX9_pass 0 = .ok (.iload_n 1, 1) := by decide +kernel
theorem dX9_pass_1 : decode cX9_pass 1 = .ok (.iconst 1, 1) := by decide +kernel
theorem dX9_pass_2 : decode cX9_pass 2 = .ok (.sipush 999, 3) := by decide +kernel
theorem dX9_pass_5 : decode cX9_pass 5 = .ok (.invokestatic 32, 3) := by decide +kernel
theorem dX9_pass_8 : decode cX9_pass 8 = .ok (.ifCond .ne 6, 3) := by decide +kernel
theorem dX9_pass_11 : decode cX9_pass 11 = .ok (.bipush (-2), 2) := by decide +kernel
theorem dX9_pass_13 : decode cX9_pass 13 = .ok (.ireturn, 1) := by decide +kernel
theorem dX9_pass_14 : decode cX9_pass 14 = .ok (.aload_n 0, 1) := by decide +kernel
theorem dX9_pass_15 : decode cX9_pass 15 = .ok (.getfield 7, 3) := by decide +kernel
theorem dX9_pass_18 : decode cX9_pass 18 = .ok (.iconst 3, 1) := by decide +kernel
theorem dX9_pass_19 : decode cX9_pass 19 = .ok (.iaload, 1) := by decide +kernel
theorem dX9_pass_20 : decode cX9_pass 20 = .ok (.iload_n 1, 1) := by decide +kernel
theorem dX9_pass_21 : decode cX9_pass 21 = .ok (.iadd, 1) := by decide +kernel
theorem dX9_pass_22 : decode cX9_pass 22 = .ok (.ldc 36, 2) := by decide +kernel
theorem dX9_pass_24 : decode cX9_pass 24 = .ok (.if_icmp .le 6, 3) := by decide +kernel
theorem dX9_pass_27 : decode cX9_pass 27 = .ok (.bipush (-3), 2) := by decide +kernel
theorem dX9_pass_29 : decode cX9_pass 29 = .ok (.ireturn, 1) := by decide +kernel
theorem dX9_pass_30 : decode cX9_pass 30 = .ok (.aload_n 0, 1) := by decide +kernel
theorem dX9_pass_31 : decode cX9_pass 31 = .ok (.invokevirtual 104, 3) := by decide +kernel
theorem dX9_pass_34 : decode cX9_pass 34 = .ok (.aload_n 0, 1) := by decide +kernel
theorem dX9_pass_35 : decode cX9_pass 35 = .ok (.getfield 7, 3) := by decide +kernel
theorem dX9_pass_38 : decode cX9_pass 38 = .ok (.iconst 3, 1) := by decide +kernel
theorem dX9_pass_39 : decode cX9_pass 39 = .ok (.dup2, 1) := by decide +kernel
theorem dX9_pass_40 : decode cX9_pass 40 = .ok (.iaload, 1) := by decide +kernel
theorem dX9_pass_41 : decode cX9_pass 41 = .ok (.iload_n 1, 1) := by decide +kernel
theorem dX9_pass_42 : decode cX9_pass 42 = .ok (.iadd, 1) := by decide +kernel
theorem dX9_pass_43 : decode cX9_pass 43 = .ok (.iastore, 1) := by decide +kernel
theorem dX9_pass_44 : decode cX9_pass 44 = .ok (.aload_n 0, 1) := by decide +kernel
theorem dX9_pass_45 : decode cX9_pass 45 = .ok (.aload_n 0, 1) := by decide +kernel
theorem dX9_pass_46 : decode cX9_pass 46 = .ok (.getfield 7, 3) := by decide +kernel
theorem dX9_pass_49 : decode cX9_pass 49 = .ok (.iconst 3, 1) := by decide +kernel
theorem dX9_pass_50 : decode cX9_pass 50 = .ok (.iaload, 1) := by decide +kernel
theorem dX9_pass_51 : decode cX9_pass 51 = .ok (.invokevirtual 107, 3) := by decide +kernel
theorem dX9_pass_54 : decode cX9_pass 54 = .ok (.ireturn, 1) := by decide +kernel
set_option maxRecDepth 20000 in
theorem ggX9_adjust_X9_isDay : GoodIn wsX9_adjust wsX9_isDay := goodIn_r _ [4, 5, 6, 7, 3, 8] (by decide +kernel) (by decide +kernel)
set_option maxRecDepth 20000 in
theorem gX9_adjust_X9_isDay : GoodIn wsX9_adjust (va_wsS RX9 110 yX9_isDay wsX9_isDay) := goodIn_app (goodIn_of _ (by decide +kernel)) ggX9_adjust_X9_isDay
set_option maxRecDepth 20000 in
theorem ggX9_adjust_X9_putAside : GoodIn wsX9_adjust wsX9_putAside := goodIn_r _ [12, 13, 14, 15, 16, 61, 62, 63, 64, 65, 66, 67, 68, 69, 70, 71, 72, 73] (by decide +kernel) (by decide +kernel)
set_option maxRecDepth 20000 in
theorem gX9_adjust_X9_putAside : GoodIn wsX9_adjust (wsV RX9 104 RX9 yX9_putAside wsX9_putAside) := goodIn_app (goodIn_of _ (by decide +kernel)) ggX9_adjust_X9_putAside
set_option maxRecDepth 20000 in
theorem ggX9_adjust_X9_adjusts : GoodIn wsX9_adjust wsX9_adjusts := goodIn_r _ [20, 21, 22, 23, 3, 24, 25, 26, 27, 28, 14, 29, 30, 31, 32, 33, 34, 35, 36, 37, 38, 39, 40, 41, 42, 43, 44, 45, 46, 47, 48, 49, 50, 61, 62, 63, 64, 65, 66, 67, 68, 69, 70, 71, 72, 73] (by decide +kernel) (by decide +kernel)
set_option maxRecDepth 20000 in
theorem gX9_adjust_X9_adjusts : GoodIn wsX9_adjust (wsV RX9 113 RX9 yX9_adjusts wsX9_adjusts) := goodIn_app (goodIn_of _ (by decide +kernel)) ggX9_adjust_X9_adjusts
set_option maxRecDepth 20000 in
theorem ggX9_adjust_X9_act : GoodIn wsX9_adjust wsX9_act := goodIn_r _ [54, 55, 56, 13, 57, 58, 59, 3, 60, 14, 16, 15, 61, 62, 63, 64, 65, 66, 67, 68, 69, 70, 71, 72, 73] (by decide +kernel) (by decide +kernel)
set_option maxRecDepth 20000 in
theorem gX9_adjust_X9_act : GoodIn wsX9_adjust (wsV RX9 107 RX9 yX9_act wsX9_act) := goodIn_app (goodIn_of _ (by decide +kernel)) ggX9_adjust_X9_act
theorem dX9_adjust_0 : decode cX9_adjust 0 = .ok (.iload_n 1, 1) := by decide +kernel
theorem dX9_adjust_1 : decode cX9_adjust 1 = .ok (.invokestatic 110, 3) := by decide +kernel
theorem dX9_adjust_4 : decode cX9_adjust 4 = .ok (.ifCond .ne 5, 3) := by decide +kernel
theorem dX9_adjust_7 : decode cX9_adjust 7 = .ok (.iconst (-1), 1) := by decide +kernel
theorem dX9_adjust_8 : decode cX9_adjust 8 = .ok (.ireturn, 1) := by decide +kernel
theorem dX9_adjust_9 : decode cX9_adjust 9 = .ok (.aload_n 0, 1) := by decide +kernel
theorem dX9_adjust_10 : decode cX9_adjust 10 = .ok (.invokevirtual 104, 3) := by decide +kernel
theorem dX9_adjust_13 : decode cX9_adjust 13 = .ok (.aload_n 0, 1) := by decide +kernel
theorem dX9_adjust_14 : decode cX9_adjust 14 = .ok (.aload_n 0, 1) := by decide +kernel
theorem dX9_adjust_15 : decode cX9_adjust 15 = .ok (.iload_n 1, 1) := by decide +kernel
theorem dX9_adjust_16 : decode cX9_adjust 16 = .ok (.invokevirtual 113, 3) := by decide +kernel
theorem dX9_adjust_19 : decode cX9_adjust 19 = .ok (.invokevirtual 107, 3) := by decide +kernel
theorem dX9_adjust_22 : decode cX9_adjust 22 = .ok (.ireturn, 1) := by decide +kernel
set_option maxRecDepth 20000 in
theorem ggX9_turn_X9_isPlace : GoodIn wsX9_turn wsX9_isPlace := goodIn_r _ [5, 6, 7, 4, 8] (by decide +kernel) (by decide +kernel)
set_option maxRecDepth 20000 in
theorem gX9_turn_X9_isPlace : GoodIn wsX9_turn (va_wsS RX9 116 yX9_isPlace wsX9_isPlace) := goodIn_app (goodIn_of _ (by decide +kernel)) ggX9_turn_X9_isPlace
set_option maxRecDepth 20000 in
theorem ggX9_turn_X9_in : GoodIn wsX9_turn wsX9_in := goodIn_r _ [8] (by decide +kernel) (by decide +kernel)
set_option maxRecDepth 20000 in
theorem gX9_turn_X9_in : GoodIn wsX9_turn (va_wsS RX9 32 yX9_in wsX9_in) := goodIn_app (goodIn_of _ (by decide +kernel)) ggX9_turn_X9_in
set_option maxRecDepth 20000 in
theorem ggX9_turn_X9_putAside : GoodIn wsX9_turn wsX9_putAside := goodIn_r _ [12, 13, 1, 14, 15, 36, 37, 38, 39, 40, 41, 42, 43, 44, 45, 46, 47, 48] (by decide +kernel) (by decide +kernel)
set_option maxRecDepth 20000 in
theorem gX9_turn_X9_putAside : GoodIn wsX9_turn (wsV RX9 104 RX9 yX9_putAside wsX9_putAside) := goodIn_app (goodIn_of _ (by decide +kernel)) ggX9_turn_X9_putAside
set_option maxRecDepth 20000 in
theorem ggX9_turn_X9_steps : GoodIn wsX9_turn wsX9_steps := goodIn_r _ [19, 1, 20, 21, 4, 22, 23, 24, 25, 36, 37, 38, 39, 40, 41, 42, 43, 44, 45, 46, 47, 48] (by decide +kernel) (by decide +kernel)
set_option maxRecDepth 20000 in
theorem gX9_turn_X9_steps : GoodIn wsX9_turn (wsV RX9 76 RX9 yX9_steps wsX9_steps) := goodIn_app (goodIn_of _ (by decide +kernel)) ggX9_turn_X9_steps
set_option maxRecDepth 20000 in
theorem ggX9_turn_X9_of : GoodIn wsX9_turn wsX9_of := goodIn_r _ [22] (by decide +kernel) (by decide +kernel)
set_option maxRecDepth 20000 in
theorem gX9_turn_X9_of : GoodIn wsX9_turn (va_wsS RX9 28 yX9_of wsX9_of) := goodIn_app (goodIn_of _ (by decide +kernel)) ggX9_turn_X9_of
set_option maxRecDepth 20000 in
theorem ggX9_turn_X9_act : GoodIn wsX9_turn wsX9_act := goodIn_r _ [29, 30, 31, 13, 32, 33, 34, 4, 35, 1, 15, 14, 36, 37, 38, 39, 40, 41, 42, 43, 44, 45, 46, 47, 48] (by decide +kernel) (by decide +kernel)
set_option maxRecDepth 20000 in
theorem gX9_turn_X9_act : GoodIn wsX9_turn (wsV RX9 107 RX9 yX9_act wsX9_act) := goodIn_app (goodIn_of _ (by decide +kernel)) ggX9_turn_X9_act
theorem dX9_turn_0 : decode cX9_turn 0 = .ok (.iload_n 1, 1) := by decide +kernel
theorem dX9_turn_1 : decode cX9_turn 1 = .ok (.invokestatic 116, 3) := by decide +kernel
theorem dX9_turn_4 : decode cX9_turn 4 = .ok (.ifCond .ne 5, 3) := by decide +kernel
theorem dX9_turn_7 : decode cX9_turn 7 = .ok (.iconst (-1), 1) := by decide +kernel
theorem dX9_turn_8 : decode cX9_turn 8 = .ok (.ireturn, 1) := by decide +kernel
theorem dX9_turn_9 : decode cX9_turn 9 = .ok (.iload_n 2, 1) := by decide +kernel
theorem dX9_turn_10 : decode cX9_turn 10 = .ok (.bipush (-9), 2) := by decide +kernel
theorem dX9_turn_12 : decode cX9_turn 12 = .ok (.bipush 9, 2) := by decide +kernel
theorem dX9_turn_14 : decode cX9_turn 14 = .ok (.invokestatic 32, 3) := by decide +kernel
theorem dX9_turn_17 : decode cX9_turn 17 = .ok (.ifCond .eq 7, 3) := by decide +kernel
theorem dX9_turn_20 : decode cX9_turn 20 = .ok (.iload_n 2, 1) := by decide +kernel
theorem dX9_turn_21 : decode cX9_turn 21 = .ok (.ifCond .ne 6, 3) := by decide +kernel
theorem dX9_turn_24 : decode cX9_turn 24 = .ok (.bipush (-2), 2) := by decide +kernel
theorem dX9_turn_26 : decode cX9_turn 26 = .ok (.ireturn, 1) := by decide +kernel
theorem dX9_turn_27 : decode cX9_turn 27 = .ok (.aload_n 0, 1) := by decide +kernel
theorem dX9_turn_28 : decode cX9_turn 28 = .ok (.invokevirtual 104, 3) := by decide +kernel
theorem dX9_turn_31 : decode cX9_turn 31 = .ok (.aload_n 0, 1) := by decide +kernel
theorem dX9_turn_32 : decode cX9_turn 32 = .ok (.iload_n 1, 1) := by decide +kernel
theorem dX9_turn_33 : decode cX9_turn 33 = .ok (.iload_n 2, 1) := by decide +kernel
theorem dX9_turn_34 : decode cX9_turn 34 = .ok (.ifCond .ge 8, 3) := by decide +kernel
theorem dX9_turn_37 : decode cX9_turn 37 = .ok (.iload_n 2, 1) := by decide +kernel
theorem dX9_turn_38 : decode cX9_turn 38 = .ok (.ineg, 1) := by decide +kernel
theorem dX9_turn_39 : decode cX9_turn 39 = .ok (.goto 4, 3) := by decide +kernel
theorem dX9_turn_42 : decode cX9_turn 42 = .ok (.iload_n 2, 1) := by decide +kernel
theorem dX9_turn_43 : decode cX9_turn 43 = .ok (.iload_n 2, 1) := by decide +kernel
theorem dX9_turn_44 : decode cX9_turn 44 = .ok (.ifCond .le 7, 3) := by decide +kernel
theorem dX9_turn_47 : decode cX9_turn 47 = .ok (.iconst 1, 1) := by decide +kernel
theorem dX9_turn_48 : decode cX9_turn 48 = .ok (.goto 4, 3) := by decide +kernel
theorem dX9_turn_51 : decode cX9_turn 51 = .ok (.iconst 0, 1) := by decide +kernel
theorem dX9_turn_52 : decode cX9_turn 52 = .ok (.invokevirtual 76, 3) := by decide +kernel
theorem dX9_turn_55 : decode cX9_turn 55 = .ok (.aload_n 0, 1) := by decide +kernel
theorem dX9_turn_56 : decode cX9_turn 56 = .ok (.aload_n 0, 1) := by decide +kernel
theorem dX9_turn_57 : decode cX9_turn 57 = .ok (.getfield 7, 3) := by decide +kernel
theorem dX9_turn_60 : decode cX9_turn 60 = .ok (.iload_n 1, 1) := by decide +kernel
theorem dX9_turn_61 : decode cX9_turn 61 = .ok (.iconst 1, 1) := by decide +kernel
theorem dX9_turn_62 : decode cX9_turn 62 = .ok (.invokestatic 28, 3) := by decide +kernel
theorem dX9_turn_65 : decode cX9_turn 65 = .ok (.iaload, 1) := by decide +kernel
theorem dX9_turn_66 : decode cX9_turn 66 = .ok (.invokevirtual 107, 3) := by decide +kernel
theorem dX9_turn_69 : decode cX9_turn 69 = .ok (.ireturn, 1) := by decide +kernel
set_option maxRecDepth 20000 in
theorem ggX9_press_X9_in : GoodIn wsX9_press wsX9_in := goodIn_r _ [4] (by decide +kernel) (by decide +kernel)
set_option maxRecDepth 20000 in
theorem gX9_press_X9_in : GoodIn wsX9_press (va_wsS RX9 32 yX9_in wsX9_in) := goodIn_app (goodIn_of _ (by decide +kernel)) ggX9_press_X9_in
set_option maxRecDepth 20000 in
theorem ggX9_press_X9_putAside : GoodIn wsX9_press wsX9_putAside := goodIn_r _ [8, 9, 10, 11, 12, 74, 75, 76, 77, 78, 79, 80, 81, 82, 83, 84, 85, 86] (by decide +kernel) (by decide +kernel)
set_option maxRecDepth 20000 in
theorem gX9_press_X9_putAside : GoodIn wsX9_press (wsV RX9 104 RX9 yX9_putAside wsX9_putAside) := goodIn_app (goodIn_of _ (by decide +kernel)) ggX9_press_X9_putAside
set_option maxRecDepth 20000 in
theorem ggX9_press_X9_presses : GoodIn wsX9_press wsX9_presses := goodIn_r _ [16, 10, 17, 12, 11, 18, 19, 20, 3, 21, 22, 23, 24, 25, 26, 27, 28, 29, 30, 31, 32, 33, 34, 35, 36, 37, 38, 39, 40, 41, 42, 43, 44, 45, 46, 47, 48, 49, 50, 51, 52, 53, 54, 55, 56, 57, 58, 59, 60, 61, 62, 63, 74, 75, 76, 77, 78, 79, 80, 81, 82, 83, 84, 85, 86] (by decide +kernel) (by decide +kernel)
set_option maxRecDepth 20000 in
theorem gX9_press_X9_presses : GoodIn wsX9_press (wsV RX9 119 RX9 yX9_presses wsX9_presses) := goodIn_app (goodIn_of _ (by decide +kernel)) ggX9_press_X9_presses
set_option maxRecDepth 20000 in
theorem ggX9_press_X9_act : GoodIn wsX9_press wsX9_act := goodIn_r _ [67, 68, 69, 9, 70, 71, 72, 3, 73, 10, 12, 11, 74, 75, 76, 77, 78, 79, 80, 81, 82, 83, 84, 85, 86] (by decide +kernel) (by decide +kernel)
set_option maxRecDepth 20000 in
theorem gX9_press_X9_act : GoodIn wsX9_press (wsV RX9 107 RX9 yX9_act wsX9_act) := goodIn_app (goodIn_of _ (by decide +kernel)) ggX9_press_X9_act
theorem dX9_press_0 : decode cX9_press 0 = .ok (.iload_n 1, 1) := by decide +kernel
theorem dX9_press_1 : decode cX9_press 1 = .ok (.iconst 1, 1) := by decide +kernel
theorem dX9_press_2 : decode cX9_press 2 = .ok (.bipush 9, 2) := by decide +kernel
theorem dX9_press_4 : decode cX9_press 4 = .ok (.invokestatic 32, 3) := by decide +kernel
theorem dX9_press_7 : decode cX9_press 7 = .ok (.ifCond .eq 13, 3) := by decide +kernel
theorem dX9_press_10 : decode cX9_press 10 = .ok (.iload_n 2, 1) := by decide +kernel
theorem dX9_press_11 : decode cX9_press 11 = .ok (.iconst 1, 1) := by decide +kernel
theorem dX9_press_12 : decode cX9_press 12 = .ok (.bipush 99, 2) := by decide +kernel
theorem dX9_press_14 : decode cX9_press 14 = .ok (.invokestatic 32, 3) := by decide +kernel
theorem dX9_press_17 : decode cX9_press 17 = .ok (.ifCond .ne 6, 3) := by decide +kernel
theorem dX9_press_20 : decode cX9_press 20 = .ok (.bipush (-2), 2) := by decide +kernel
theorem dX9_press_22 : decode cX9_press 22 = .ok (.ireturn, 1) := by decide +kernel
theorem dX9_press_23 : decode cX9_press 23 = .ok (.aload_n 0, 1) := by decide +kernel
theorem dX9_press_24 : decode cX9_press 24 = .ok (.invokevirtual 104, 3) := by decide +kernel
theorem dX9_press_27 : decode cX9_press 27 = .ok (.aload_n 0, 1) := by decide +kernel
theorem dX9_press_28 : decode cX9_press 28 = .ok (.aload_n 0, 1) := by decide +kernel
theorem dX9_press_29 : decode cX9_press 29 = .ok (.iload_n 1, 1) := by decide +kernel
theorem dX9_press_30 : decode cX9_press 30 = .ok (.iload_n 2, 1) := by decide +kernel
theorem dX9_press_31 : decode cX9_press 31 = .ok (.invokevirtual 119, 3) := by decide +kernel
theorem dX9_press_34 : decode cX9_press 34 = .ok (.invokevirtual 107, 3) := by decide +kernel
theorem dX9_press_37 : decode cX9_press 37 = .ok (.ireturn, 1) := by decide +kernel
set_option maxRecDepth 20000 in
theorem ggX9_fill_X9_in : GoodIn wsX9_fill wsX9_in := goodIn_r _ [5] (by decide +kernel) (by decide +kernel)
set_option maxRecDepth 20000 in
theorem gX9_fill_X9_in : GoodIn wsX9_fill (va_wsS RX9 32 yX9_in wsX9_in) := goodIn_app (goodIn_of _ (by decide +kernel)) ggX9_fill_X9_in
set_option maxRecDepth 20000 in
theorem ggX9_fill_X9_putAside : GoodIn wsX9_fill wsX9_putAside := goodIn_r _ [9, 10, 1, 11, 12, 26, 27, 28, 29, 30, 31, 32, 33, 34, 35, 36, 37, 38] (by decide +kernel) (by decide +kernel)
set_option maxRecDepth 20000 in
theorem gX9_fill_X9_putAside : GoodIn wsX9_fill (wsV RX9 104 RX9 yX9_putAside wsX9_putAside) := goodIn_app (goodIn_of _ (by decide +kernel)) ggX9_fill_X9_putAside
set_option maxRecDepth 20000 in
theorem ggX9_fill_X9_least : GoodIn wsX9_fill wsX9_least := goodIn_r _ [15] (by decide +kernel) (by decide +kernel)
set_option maxRecDepth 20000 in
theorem gX9_fill_X9_least : GoodIn wsX9_fill (va_wsS RX9 64 yX9_least wsX9_least) := goodIn_app (goodIn_of _ (by decide +kernel)) ggX9_fill_X9_least
set_option maxRecDepth 20000 in
theorem ggX9_fill_X9_act : GoodIn wsX9_fill wsX9_act := goodIn_r _ [19, 20, 21, 10, 22, 23, 24, 4, 25, 1, 12, 11, 26, 27, 28, 29, 30, 31, 32, 33, 34, 35, 36, 37, 38] (by decide +kernel) (by decide +kernel)
set_option maxRecDepth 20000 in
theorem gX9_fill_X9_act : GoodIn wsX9_fill (wsV RX9 107 RX9 yX9_act wsX9_act) := goodIn_app (goodIn_of _ (by decide +kernel)) ggX9_fill_X9_act
theorem dX9_fill_0 : decode cX9_fill 0 = .ok (.iload_n 1, 1) := by decide +kernel
theorem dX9_fill_1 : decode cX9_fill 1 = .ok (.iconst 1, 1) := by decide +kernel
theorem dX9_fill_2 : decode cX9_fill 2 = .ok (.sipush 200, 3) := by decide +kernel
theorem dX9_fill_5 : decode cX9_fill 5 = .ok (.invokestatic 32, 3) := by decide +kernel
theorem dX9_fill_8 : decode cX9_fill 8 = .ok (.ifCond .ne 6, 3) := by decide +kernel
theorem dX9_fill_11 : decode cX9_fill 11 = .ok (.bipush (-2), 2) := by decide +kernel
theorem dX9_fill_13 : decode cX9_fill 13 = .ok (.ireturn, 1) := by decide +kernel
theorem dX9_fill_14 : decode cX9_fill 14 = .ok (.aload_n 0, 1) := by decide +kernel
theorem dX9_fill_15 : decode cX9_fill 15 = .ok (.getfield 7, 3) := by decide +kernel
theorem dX9_fill_18 : decode cX9_fill 18 = .ok (.iconst 4, 1) := by decide +kernel
theorem dX9_fill_19 : decode cX9_fill 19 = .ok (.iaload, 1) := by decide +kernel
theorem dX9_fill_20 : decode cX9_fill 20 = .ok (.sipush 200, 3) := by decide +kernel
theorem dX9_fill_23 : decode cX9_fill 23 = .ok (.if_icmp .ne 6, 3) := by decide +kernel
theorem dX9_fill_26 : decode cX9_fill 26 = .ok (.bipush (-5), 2) := by decide +kernel
theorem dX9_fill_28 : decode cX9_fill 28 = .ok (.ireturn, 1) := by decide +kernel
theorem dX9_fill_29 : decode cX9_fill 29 = .ok (.aload_n 0, 1) := by decide +kernel
theorem dX9_fill_30 : decode cX9_fill 30 = .ok (.invokevirtual 104, 3) := by decide +kernel
theorem dX9_fill_33 : decode cX9_fill 33 = .ok (.aload_n 0, 1) := by decide +kernel
theorem dX9_fill_34 : decode cX9_fill 34 = .ok (.getfield 7, 3) := by decide +kernel
theorem dX9_fill_37 : decode cX9_fill 37 = .ok (.iconst 4, 1) := by decide +kernel
theorem dX9_fill_38 : decode cX9_fill 38 = .ok (.aload_n 0, 1) := by decide +kernel
theorem dX9_fill_39 : decode cX9_fill 39 = .ok (.getfield 7, 3) := by decide +kernel
theorem dX9_fill_42 : decode cX9_fill 42 = .ok (.iconst 4, 1) := by decide +kernel
theorem dX9_fill_43 : decode cX9_fill 43 = .ok (.iaload, 1) := by decide +kernel
theorem dX9_fill_44 : decode cX9_fill 44 = .ok (.iload_n 1, 1) := by decide +kernel
theorem dX9_fill_45 : decode cX9_fill 45 = .ok (.iadd, 1) := by decide +kernel
theorem dX9_fill_46 : decode cX9_fill 46 = .ok (.sipush 200, 3) := by decide +kernel
theorem dX9_fill_49 : decode cX9_fill 49 = .ok (.invokestatic 64, 3) := by decide +kernel
theorem dX9_fill_52 : decode cX9_fill 52 = .ok (.iastore, 1) := by decide +kernel
theorem dX9_fill_53 : decode cX9_fill 53 = .ok (.aload_n 0, 1) := by decide +kernel
theorem dX9_fill_54 : decode cX9_fill 54 = .ok (.aload_n 0, 1) := by decide +kernel
theorem dX9_fill_55 : decode cX9_fill 55 = .ok (.getfield 7, 3) := by decide +kernel
theorem dX9_fill_58 : decode cX9_fill 58 = .ok (.iconst 4, 1) := by decide +kernel
theorem dX9_fill_59 : decode cX9_fill 59 = .ok (.iaload, 1) := by decide +kernel
theorem dX9_fill_60 : decode cX9_fill 60 = .ok (.invokevirtual 107, 3) := by decide +kernel
theorem dX9_fill_63 : decode cX9_fill 63 = .ok (.ireturn, 1) := by decide +kernel
set_option maxRecDepth 20000 in
theorem ggX9_exchanges_X9_of : GoodIn wsX9_exchanges wsX9_of := goodIn_r _ [5] (by decide +kernel) (by decide +kernel)
set_option maxRecDepth 20000 in
theorem gX9_exchanges_X9_of : GoodIn wsX9_exchanges (va_wsS RX9 28 yX9_of wsX9_of) := goodIn_app (goodIn_of _ (by decide +kernel)) ggX9_exchanges_X9_of
theorem dX9_exchanges_0 : decode cX9_exchanges 0 = .ok (.iconst 0, 1) := by decide +kernel
theorem dX9_exchanges_1 : decode cX9_exchanges 1 = .ok (.istore_n 3, 1) := by decide +kernel
theorem dX9_exchanges_2 : decode cX9_exchanges 2 = .ok (.iload_n 3, 1) := by decide +kernel
theorem dX9_exchanges_3 : decode cX9_exchanges 3 = .ok (.bipush 13, 2) := by decide +kernel
theorem dX9_exchanges_5 : decode cX9_exchanges 5 = .ok (.if_icmp .ge 53, 3) := by decide +kernel
theorem dX9_exchanges_8 : decode cX9_exchanges 8 = .ok (.aload_n 0, 1) := by decide +kernel
theorem dX9_exchanges_9 : decode cX9_exchanges 9 = .ok (.getfield 7, 3) := by decide +kernel
theorem dX9_exchanges_12 : decode cX9_exchanges 12 = .ok (.iload_n 1, 1) := by decide +kernel
theorem dX9_exchanges_13 : decode cX9_exchanges 13 = .ok (.iload_n 3, 1) := by decide +kernel
theorem dX9_exchanges_14 : decode cX9_exchanges 14 = .ok (.invokestatic 28, 3) := by decide +kernel
theorem dX9_exchanges_17 : decode cX9_exchanges 17 = .ok (.iaload, 1) := by decide +kernel
theorem dX9_exchanges_18 : decode cX9_exchanges 18 = .ok (.istore 4, 2) := by decide +kernel
theorem dX9_exchanges_20 : decode cX9_exchanges 20 = .ok (.aload_n 0, 1) := by decide +kernel
theorem dX9_exchanges_21 : decode cX9_exchanges 21 = .ok (.getfield 7, 3) := by decide +kernel
theorem dX9_exchanges_24 : decode cX9_exchanges 24 = .ok (.iload_n 1, 1) := by decide +kernel
theorem dX9_exchanges_25 : decode cX9_exchanges 25 = .ok (.iload_n 3, 1) := by decide +kernel
theorem dX9_exchanges_26 : decode cX9_exchanges 26 = .ok (.invokestatic 28, 3) := by decide +kernel
theorem dX9_exchanges_29 : decode cX9_exchanges 29 = .ok (.aload_n 0, 1) := by decide +kernel
theorem dX9_exchanges_30 : decode cX9_exchanges 30 = .ok (.getfield 7, 3) := by decide +kernel
theorem dX9_exchanges_33 : decode cX9_exchanges 33 = .ok (.iload_n 2, 1) := by decide +kernel
theorem dX9_exchanges_34 : decode cX9_exchanges 34 = .ok (.iload_n 3, 1) := by decide +kernel
theorem dX9_exchanges_35 : decode cX9_exchanges 35 = .ok (.invokestatic 28, 3) := by decide +kernel
theorem dX9_exchanges_38 : decode cX9_exchanges 38 = .ok (.iaload, 1) := by decide +kernel
theorem dX9_exchanges_39 : decode cX9_exchanges 39 = .ok (.iastore, 1) := by decide +kernel
theorem dX9_exchanges_40 : decode cX9_exchanges 40 = .ok (.aload_n 0, 1) := by decide +kernel
theorem dX9_exchanges_41 : decode cX9_exchanges 41 = .ok (.getfield 7, 3) := by decide +kernel
theorem dX9_exchanges_44 : decode cX9_exchanges 44 = .ok (.iload_n 2, 1) := by decide +kernel
theorem dX9_exchanges_45 : decode cX9_exchanges 45 = .ok (.iload_n 3, 1) := by decide +kernel
theorem dX9_exchanges_46 : decode cX9_exchanges 46 = .ok (.invokestatic 28, 3) := by decide +kernel
theorem dX9_exchanges_49 : decode cX9_exchanges 49 = .ok (.iload 4, 2) := by decide +kernel
theorem dX9_exchanges_51 : decode cX9_exchanges 51 = .ok (.iastore, 1) := by decide +kernel
theorem dX9_exchanges_52 : decode cX9_exchanges 52 = .ok (.iinc 3 1, 3) := by decide +kernel
theorem dX9_exchanges_55 : decode cX9_exchanges 55 = .ok (.goto (-53), 3) := by decide +kernel
theorem dX9_exchanges_58 : decode cX9_exchanges 58 = .ok (.return_, 1) := by decide +kernel
set_option maxRecDepth 20000 in
theorem ggX9_exchange_X9_isPlace : GoodIn wsX9_exchange wsX9_isPlace := goodIn_r _ [5, 6, 7, 4, 8] (by decide +kernel) (by decide +kernel)
set_option maxRecDepth 20000 in
theorem gX9_exchange_X9_isPlace : GoodIn wsX9_exchange (va_wsS RX9 116 yX9_isPlace wsX9_isPlace) := goodIn_app (goodIn_of _ (by decide +kernel)) ggX9_exchange_X9_isPlace
set_option maxRecDepth 20000 in
theorem ggX9_exchange_X9_putAside : GoodIn wsX9_exchange wsX9_putAside := goodIn_r _ [12, 13, 1, 14, 15, 33, 34, 35, 36, 37, 38, 39, 40, 41, 42, 43, 44, 45] (by decide +kernel) (by decide +kernel)
set_option maxRecDepth 20000 in
theorem gX9_exchange_X9_putAside : GoodIn wsX9_exchange (wsV RX9 104 RX9 yX9_putAside wsX9_putAside) := goodIn_app (goodIn_of _ (by decide +kernel)) ggX9_exchange_X9_putAside
set_option maxRecDepth 20000 in
theorem ggX9_exchange_X9_exchanges : GoodIn wsX9_exchange wsX9_exchanges := goodIn_r _ [19, 1, 20, 21, 4, 22, 33, 34, 35, 36, 37, 38, 39, 40, 41, 42, 43, 44, 45] (by decide +kernel) (by decide +kernel)
set_option maxRecDepth 20000 in
theorem gX9_exchange_X9_exchanges : GoodIn wsX9_exchange (wsV RX9 122 RX9 yX9_exchanges wsX9_exchanges) := goodIn_app (goodIn_of _ (by decide +kernel)) ggX9_exchange_X9_exchanges
set_option maxRecDepth 20000 in
theorem ggX9_exchange_X9_of : GoodIn wsX9_exchange wsX9_of := goodIn_r _ [22] (by decide +kernel) (by decide +kernel)
set_option maxRecDepth 20000 in
theorem gX9_exchange_X9_of : GoodIn wsX9_exchange (va_wsS RX9 28 yX9_of wsX9_of) := goodIn_app (goodIn_of _ (by decide +kernel)) ggX9_exchange_X9_of
set_option maxRecDepth 20000 in
theorem ggX9_exchange_X9_act : GoodIn wsX9_exchange wsX9_act := goodIn_r _ [26, 27, 28, 13, 29, 30, 31, 4, 32, 1, 15, 14, 33, 34, 35, 36, 37, 38, 39, 40, 41, 42, 43, 44, 45] (by decide +kernel) (by decide +kernel)
set_option maxRecDepth 20000 in
theorem gX9_exchange_X9_act : GoodIn wsX9_exchange (wsV RX9 107 RX9 yX9_act wsX9_act) := goodIn_app (goodIn_of _ (by decide +kernel)) ggX9_exchange_X9_act
theorem dX9_exchange_0 : decode cX9_exchange 0 = .ok (.iload_n 1, 1) := by decide +kernel
theorem dX9_exchange_1 : decode cX9_exchange 1 = .ok (.invokestatic 116, 3) := by decide +kernel
theorem dX9_exchange_4 : decode cX9_exchange 4 = .ok (.ifCond .eq 10, 3) := by decide +kernel
theorem dX9_exchange_7 : decode cX9_exchange 7 = .ok (.iload_n 2, 1) := by decide +kernel
theorem dX9_exchange_8 : decode cX9_exchange 8 = .ok (.invokestatic 116, 3) := by decide +kernel
theorem dX9_exchange_11 : decode cX9_exchange 11 = .ok (.ifCond .ne 5, 3) := by decide +kernel
theorem dX9_exchange_14 : decode cX9_exchange 14 = .ok (.iconst (-1), 1) := by decide +kernel
theorem dX9_exchange_15 : decode cX9_exchange 15 = .ok (.ireturn, 1) := by decide +kernel
theorem dX9_exchange_16 : decode cX9_exchange 16 = .ok (.iload_n 1, 1) := by decide +kernel
theorem dX9_exchange_17 : decode cX9_exchange 17 = .ok (.iload_n 2, 1) := by decide +kernel
theorem dX9_exchange_18 : decode cX9_exchange 18 = .ok (.if_icmp .ne 6, 3) := by decide +kernel
theorem dX9_exchange_21 : decode cX9_exchange 21 = .ok (.bipush (-5), 2) := by decide +kernel
theorem dX9_exchange_23 : decode cX9_exchange 23 = .ok (.ireturn, 1) := by decide +kernel
theorem dX9_exchange_24 : decode cX9_exchange 24 = .ok (.aload_n 0, 1) := by decide +kernel
theorem dX9_exchange_25 : decode cX9_exchange 25 = .ok (.invokevirtual 104, 3) := by decide +kernel
theorem dX9_exchange_28 : decode cX9_exchange 28 = .ok (.aload_n 0, 1) := by decide +kernel
theorem dX9_exchange_29 : decode cX9_exchange 29 = .ok (.iload_n 1, 1) := by decide +kernel
theorem dX9_exchange_30 : decode cX9_exchange 30 = .ok (.iload_n 2, 1) := by decide +kernel
theorem dX9_exchange_31 : decode cX9_exchange 31 = .ok (.invokevirtual 122, 3) := by decide +kernel
theorem dX9_exchange_34 : decode cX9_exchange 34 = .ok (.aload_n 0, 1) := by decide +kernel
theorem dX9_exchange_35 : decode cX9_exchange 35 = .ok (.aload_n 0, 1) := by decide +kernel
theorem dX9_exchange_36 : decode cX9_exchange 36 = .ok (.getfield 7, 3) := by decide +kernel
theorem dX9_exchange_39 : decode cX9_exchange 39 = .ok (.iload_n 1, 1) := by decide +kernel
theorem dX9_exchange_40 : decode cX9_exchange 40 = .ok (.iconst 0, 1) := by decide +kernel
theorem dX9_exchange_41 : decode cX9_exchange 41 = .ok (.invokestatic 28, 3) := by decide +kernel
theorem dX9_exchange_44 : decode cX9_exchange 44 = .ok (.iaload, 1) := by decide +kernel
theorem dX9_exchange_45 : decode cX9_exchange 45 = .ok (.invokevirtual 107, 3) := by decide +kernel
theorem dX9_exchange_48 : decode cX9_exchange 48 = .ok (.ireturn, 1) := by decide +kernel
set_option maxRecDepth 20000 in
theorem ggX9_tighten_X9_isPlace : GoodIn wsX9_tighten wsX9_isPlace := goodIn_r _ [5, 6, 7, 4, 8] (by decide +kernel) (by decide +kernel)
set_option maxRecDepth 20000 in
theorem gX9_tighten_X9_isPlace : GoodIn wsX9_tighten (va_wsS RX9 116 yX9_isPlace wsX9_isPlace) := goodIn_app (goodIn_of _ (by decide +kernel)) ggX9_tighten_X9_isPlace
set_option maxRecDepth 20000 in
theorem ggX9_tighten_X9_of : GoodIn wsX9_tighten wsX9_of := goodIn_r _ [11] (by decide +kernel) (by decide +kernel)
set_option maxRecDepth 20000 in
theorem gX9_tighten_X9_of : GoodIn wsX9_tighten (va_wsS RX9 28 yX9_of wsX9_of) := goodIn_app (goodIn_of _ (by decide +kernel)) ggX9_tighten_X9_of
set_option maxRecDepth 20000 in
theorem ggX9_tighten_X9_putAside : GoodIn wsX9_tighten wsX9_putAside := goodIn_r _ [15, 16, 1, 17, 18, 29, 30, 31, 32, 33, 34, 35, 36, 37, 38, 39, 40, 41] (by decide +kernel) (by decide +kernel)
set_option maxRecDepth 20000 in
theorem gX9_tighten_X9_putAside : GoodIn wsX9_tighten (wsV RX9 104 RX9 yX9_putAside wsX9_putAside) := goodIn_app (goodIn_of _ (by decide +kernel)) ggX9_tighten_X9_putAside
set_option maxRecDepth 20000 in
theorem ggX9_tighten_X9_act : GoodIn wsX9_tighten wsX9_act := goodIn_r _ [22, 23, 24, 16, 25, 26, 27, 4, 28, 1, 18, 17, 29, 30, 31, 32, 33, 34, 35, 36, 37, 38, 39, 40, 41] (by decide +kernel) (by decide +kernel)
set_option maxRecDepth 20000 in
theorem gX9_tighten_X9_act : GoodIn wsX9_tighten (wsV RX9 107 RX9 yX9_act wsX9_act) := goodIn_app (goodIn_of _ (by decide +kernel)) ggX9_tighten_X9_act
theorem dX9_tighten_0 : decode cX9_tighten 0 = .ok (.iload_n 1, 1) := by decide +kernel
theorem dX9_tighten_1 : decode cX9_tighten 1 = .ok (.invokestatic 116, 3) := by decide +kernel
theorem dX9_tighten_4 : decode cX9_tighten 4 = .ok (.ifCond .ne 5, 3) := by decide +kernel
theorem dX9_tighten_7 : decode cX9_tighten 7 = .ok (.iconst (-1), 1) := by decide +kernel
theorem dX9_tighten_8 : decode cX9_tighten 8 = .ok (.ireturn, 1) := by decide +kernel
theorem dX9_tighten_9 : decode cX9_tighten 9 = .ok (.aload_n 0, 1) := by decide +kernel
theorem dX9_tighten_10 : decode cX9_tighten 10 = .ok (.getfield 7, 3) := by decide +kernel
theorem dX9_tighten_13 : decode cX9_tighten 13 = .ok (.iload_n 1, 1) := by decide +kernel
theorem dX9_tighten_14 : decode cX9_tighten 14 = .ok (.iconst 2, 1) := by decide +kernel
theorem dX9_tighten_15 : decode cX9_tighten 15 = .ok (.invokestatic 28, 3) := by decide +kernel
theorem dX9_tighten_18 : decode cX9_tighten 18 = .ok (.iaload, 1) := by decide +kernel
theorem dX9_tighten_19 : decode cX9_tighten 19 = .ok (.istore_n 2, 1) := by decide +kernel
theorem dX9_tighten_20 : decode cX9_tighten 20 = .ok (.iload_n 2, 1) := by decide +kernel
theorem dX9_tighten_21 : decode cX9_tighten 21 = .ok (.ifCond .ne 6, 3) := by decide +kernel
theorem dX9_tighten_24 : decode cX9_tighten 24 = .ok (.bipush (-5), 2) := by decide +kernel
theorem dX9_tighten_26 : decode cX9_tighten 26 = .ok (.ireturn, 1) := by decide +kernel
theorem dX9_tighten_27 : decode cX9_tighten 27 = .ok (.aload_n 0, 1) := by decide +kernel
theorem dX9_tighten_28 : decode cX9_tighten 28 = .ok (.invokevirtual 104, 3) := by decide +kernel
theorem dX9_tighten_31 : decode cX9_tighten 31 = .ok (.aload_n 0, 1) := by decide +kernel
theorem dX9_tighten_32 : decode cX9_tighten 32 = .ok (.getfield 7, 3) := by decide +kernel
theorem dX9_tighten_35 : decode cX9_tighten 35 = .ok (.iload_n 1, 1) := by decide +kernel
theorem dX9_tighten_36 : decode cX9_tighten 36 = .ok (.iconst 2, 1) := by decide +kernel
theorem dX9_tighten_37 : decode cX9_tighten 37 = .ok (.invokestatic 28, 3) := by decide +kernel
theorem dX9_tighten_40 : decode cX9_tighten 40 = .ok (.iconst 0, 1) := by decide +kernel
theorem dX9_tighten_41 : decode cX9_tighten 41 = .ok (.iastore, 1) := by decide +kernel
theorem dX9_tighten_42 : decode cX9_tighten 42 = .ok (.aload_n 0, 1) := by decide +kernel
theorem dX9_tighten_43 : decode cX9_tighten 43 = .ok (.iload_n 2, 1) := by decide +kernel
theorem dX9_tighten_44 : decode cX9_tighten 44 = .ok (.invokevirtual 107, 3) := by decide +kernel
theorem dX9_tighten_47 : decode cX9_tighten 47 = .ok (.ireturn, 1) := by decide +kernel
set_option maxRecDepth 20000 in
theorem ggX9_replace_X9_isPlace : GoodIn wsX9_replace wsX9_isPlace := goodIn_r _ [5, 6, 7, 4, 8] (by decide +kernel) (by decide +kernel)
set_option maxRecDepth 20000 in
theorem gX9_replace_X9_isPlace : GoodIn wsX9_replace (va_wsS RX9 116 yX9_isPlace wsX9_isPlace) := goodIn_app (goodIn_of _ (by decide +kernel)) ggX9_replace_X9_isPlace
set_option maxRecDepth 20000 in
theorem ggX9_replace_X9_putAside : GoodIn wsX9_replace wsX9_putAside := goodIn_r _ [12, 13, 1, 14, 15, 29, 30, 31, 32, 33, 34, 35, 36, 37, 38, 39, 40, 41] (by decide +kernel) (by decide +kernel)
set_option maxRecDepth 20000 in
theorem gX9_replace_X9_putAside : GoodIn wsX9_replace (wsV RX9 104 RX9 yX9_putAside wsX9_putAside) := goodIn_app (goodIn_of _ (by decide +kernel)) ggX9_replace_X9_putAside
set_option maxRecDepth 20000 in
theorem ggX9_replace_X9_of : GoodIn wsX9_replace wsX9_of := goodIn_r _ [18] (by decide +kernel) (by decide +kernel)
set_option maxRecDepth 20000 in
theorem gX9_replace_X9_of : GoodIn wsX9_replace (va_wsS RX9 28 yX9_of wsX9_of) := goodIn_app (goodIn_of _ (by decide +kernel)) ggX9_replace_X9_of
set_option maxRecDepth 20000 in
theorem ggX9_replace_X9_act : GoodIn wsX9_replace wsX9_act := goodIn_r _ [22, 23, 24, 13, 25, 26, 27, 4, 28, 1, 15, 14, 29, 30, 31, 32, 33, 34, 35, 36, 37, 38, 39, 40, 41] (by decide +kernel) (by decide +kernel)
set_option maxRecDepth 20000 in
theorem gX9_replace_X9_act : GoodIn wsX9_replace (wsV RX9 107 RX9 yX9_act wsX9_act) := goodIn_app (goodIn_of _ (by decide +kernel)) ggX9_replace_X9_act
theorem dX9_replace_0 : decode cX9_replace 0 = .ok (.iload_n 1, 1) := by decide +kernel
theorem dX9_replace_1 : decode cX9_replace 1 = .ok (.invokestatic 116, 3) := by decide +kernel
theorem dX9_replace_4 : decode cX9_replace 4 = .ok (.ifCond .ne 5, 3) := by decide +kernel
theorem dX9_replace_7 : decode cX9_replace 7 = .ok (.iconst (-1), 1) := by decide +kernel
theorem dX9_replace_8 : decode cX9_replace 8 = .ok (.ireturn, 1) := by decide +kernel
theorem dX9_replace_9 : decode cX9_replace 9 = .ok (.aload_n 0, 1) := by decide +kernel
theorem dX9_replace_10 : decode cX9_replace 10 = .ok (.invokevirtual 104, 3) := by decide +kernel
theorem dX9_replace_13 : decode cX9_replace 13 = .ok (.iconst 0, 1) := by decide +kernel
theorem dX9_replace_14 : decode cX9_replace 14 = .ok (.istore_n 2, 1) := by decide +kernel
theorem dX9_replace_15 : decode cX9_replace 15 = .ok (.iconst 0, 1) := by decide +kernel
theorem dX9_replace_16 : decode cX9_replace 16 = .ok (.istore_n 3, 1) := by decide +kernel
theorem dX9_replace_17 : decode cX9_replace 17 = .ok (.iload_n 3, 1) := by decide +kernel
theorem dX9_replace_18 : decode cX9_replace 18 = .ok (.bipush 10, 2) := by decide +kernel
theorem dX9_replace_20 : decode cX9_replace 20 = .ok (.if_icmp .ge 37, 3) := by decide +kernel
theorem dX9_replace_23 : decode cX9_replace 23 = .ok (.iload_n 2, 1) := by decide +kernel
theorem dX9_replace_24 : decode cX9_replace 24 = .ok (.aload_n 0, 1) := by decide +kernel
theorem dX9_replace_25 : decode cX9_replace 25 = .ok (.getfield 7, 3) := by decide +kernel
theorem dX9_replace_28 : decode cX9_replace 28 = .ok (.iload_n 1, 1) := by decide +kernel
theorem dX9_replace_29 : decode cX9_replace 29 = .ok (.iconst 3, 1) := by decide +kernel
theorem dX9_replace_30 : decode cX9_replace 30 = .ok (.iload_n 3, 1) := by decide +kernel
theorem dX9_replace_31 : decode cX9_replace 31 = .ok (.iadd, 1) := by decide +kernel
theorem dX9_replace_32 : decode cX9_replace 32 = .ok (.invokestatic 28, 3) := by decide +kernel
theorem dX9_replace_35 : decode cX9_replace 35 = .ok (.iaload, 1) := by decide +kernel
theorem dX9_replace_36 : decode cX9_replace 36 = .ok (.iadd, 1) := by decide +kernel
theorem dX9_replace_37 : decode cX9_replace 37 = .ok (.istore_n 2, 1) := by decide +kernel
theorem dX9_replace_38 : decode cX9_replace 38 = .ok (.aload_n 0, 1) := by decide +kernel
theorem dX9_replace_39 : decode cX9_replace 39 = .ok (.getfield 7, 3) := by decide +kernel
theorem dX9_replace_42 : decode cX9_replace 42 = .ok (.iload_n 1, 1) := by decide +kernel
theorem dX9_replace_43 : decode cX9_replace 43 = .ok (.iconst 3, 1) := by decide +kernel
theorem dX9_replace_44 : decode cX9_replace 44 = .ok (.iload_n 3, 1) := by decide +kernel
theorem dX9_replace_45 : decode cX9_replace 45 = .ok (.iadd, 1) := by decide +kernel
theorem dX9_replace_46 : decode cX9_replace 46 = .ok (.invokestatic 28, 3) := by decide +kernel
theorem dX9_replace_49 : decode cX9_replace 49 = .ok (.iconst 0, 1) := by decide +kernel
theorem dX9_replace_50 : decode cX9_replace 50 = .ok (.iastore, 1) := by decide +kernel
theorem dX9_replace_51 : decode cX9_replace 51 = .ok (.iinc 3 1, 3) := by decide +kernel
theorem dX9_replace_54 : decode cX9_replace 54 = .ok (.goto (-37), 3) := by decide +kernel
theorem dX9_replace_57 : decode cX9_replace 57 = .ok (.aload_n 0, 1) := by decide +kernel
theorem dX9_replace_58 : decode cX9_replace 58 = .ok (.getfield 7, 3) := by decide +kernel
theorem dX9_replace_61 : decode cX9_replace 61 = .ok (.iload_n 1, 1) := by decide +kernel
theorem dX9_replace_62 : decode cX9_replace 62 = .ok (.iconst 1, 1) := by decide +kernel
theorem dX9_replace_63 : decode cX9_replace 63 = .ok (.invokestatic 28, 3) := by decide +kernel
theorem dX9_replace_66 : decode cX9_replace 66 = .ok (.iconst 0, 1) := by decide +kernel
theorem dX9_replace_67 : decode cX9_replace 67 = .ok (.iastore, 1) := by decide +kernel
theorem dX9_replace_68 : decode cX9_replace 68 = .ok (.aload_n 0, 1) := by decide +kernel
theorem dX9_replace_69 : decode cX9_replace 69 = .ok (.getfield 7, 3) := by decide +kernel
theorem dX9_replace_72 : decode cX9_replace 72 = .ok (.iload_n 1, 1) := by decide +kernel
theorem dX9_replace_73 : decode cX9_replace 73 = .ok (.iconst 2, 1) := by decide +kernel
theorem dX9_replace_74 : decode cX9_replace 74 = .ok (.invokestatic 28, 3) := by decide +kernel
theorem dX9_replace_77 : decode cX9_replace 77 = .ok (.iconst 0, 1) := by decide +kernel
theorem dX9_replace_78 : decode cX9_replace 78 = .ok (.iastore, 1) := by decide +kernel
theorem dX9_replace_79 : decode cX9_replace 79 = .ok (.aload_n 0, 1) := by decide +kernel
theorem dX9_replace_80 : decode cX9_replace 80 = .ok (.iload_n 2, 1) := by decide +kernel
theorem dX9_replace_81 : decode cX9_replace 81 = .ok (.invokevirtual 107, 3) := by decide +kernel
theorem dX9_replace_84 : decode cX9_replace 84 = .ok (.ireturn, 1) := by decide +kernel
set_option maxRecDepth 20000 in
theorem ggX9_set_X9_in : GoodIn wsX9_set wsX9_in := goodIn_r _ [5] (by decide +kernel) (by decide +kernel)
set_option maxRecDepth 20000 in
theorem gX9_set_X9_in : GoodIn wsX9_set (va_wsS RX9 32 yX9_in wsX9_in) := goodIn_app (goodIn_of _ (by decide +kernel)) ggX9_set_X9_in
set_option maxRecDepth 20000 in
theorem ggX9_set_X9_putAside : GoodIn wsX9_set wsX9_putAside := goodIn_r _ [9, 10, 1, 11, 12, 23, 24, 25, 26, 27, 28, 29, 30, 31, 32, 33, 34, 35] (by decide +kernel) (by decide +kernel)
set_option maxRecDepth 20000 in
theorem gX9_set_X9_putAside : GoodIn wsX9_set (wsV RX9 104 RX9 yX9_putAside wsX9_putAside) := goodIn_app (goodIn_of _ (by decide +kernel)) ggX9_set_X9_putAside
set_option maxRecDepth 20000 in
theorem ggX9_set_X9_act : GoodIn wsX9_set wsX9_act := goodIn_r _ [16, 17, 18, 10, 19, 20, 21, 4, 22, 1, 12, 11, 23, 24, 25, 26, 27, 28, 29, 30, 31, 32, 33, 34, 35] (by decide +kernel) (by decide +kernel)
set_option maxRecDepth 20000 in
theorem gX9_set_X9_act : GoodIn wsX9_set (wsV RX9 107 RX9 yX9_act wsX9_act) := goodIn_app (goodIn_of _ (by decide +kernel)) ggX9_set_X9_act
theorem dX9_set_0 : decode cX9_set 0 = .ok (.iload_n 1, 1) := by decide +kernel
theorem dX9_set_1 : decode cX9_set 1 = .ok (.iconst 0, 1) := by decide +kernel
theorem dX9_set_2 : decode cX9_set 2 = .ok (.iconst 2, 1) := by decide +kernel
theorem dX9_set_3 : decode cX9_set 3 = .ok (.invokestatic 32, 3) := by decide +kernel
theorem dX9_set_6 : decode cX9_set 6 = .ok (.ifCond .eq 52, 3) := by decide +kernel
theorem dX9_set_9 : decode cX9_set 9 = .ok (.iload_n 2, 1) := by decide +kernel
theorem dX9_set_10 : decode cX9_set 10 = .ok (.iload_n 1, 1) := by decide +kernel
theorem dX9_set_11 : decode cX9_set 11 = .ok (.ifCond .ne 8, 3) := by decide +kernel
theorem dX9_set_14 : decode cX9_set 14 = .ok (.bipush 10, 2) := by decide +kernel
theorem dX9_set_16 : decode cX9_set 16 = .ok (.goto 14, 3) := by decide +kernel
theorem dX9_set_19 : decode cX9_set 19 = .ok (.iload_n 1, 1) := by decide +kernel
theorem dX9_set_20 : decode cX9_set 20 = .ok (.iconst 1, 1) := by decide +kernel
theorem dX9_set_21 : decode cX9_set 21 = .ok (.if_icmp .ne 8, 3) := by decide +kernel
theorem dX9_set_24 : decode cX9_set 24 = .ok (.bipush 60, 2) := by decide +kernel
theorem dX9_set_26 : decode cX9_set 26 = .ok (.goto 4, 3) := by decide +kernel
theorem dX9_set_29 : decode cX9_set 29 = .ok (.iconst 1, 1) := by decide +kernel
theorem dX9_set_30 : decode cX9_set 30 = .ok (.iload_n 1, 1) := by decide +kernel
theorem dX9_set_31 : decode cX9_set 31 = .ok (.ifCond .ne 8, 3) := by decide +kernel
theorem dX9_set_34 : decode cX9_set 34 = .ok (.bipush 60, 2) := by decide +kernel
theorem dX9_set_36 : decode cX9_set 36 = .ok (.goto 16, 3) := by decide +kernel
theorem dX9_set_39 : decode cX9_set 39 = .ok (.iload_n 1, 1) := by decide +kernel
theorem dX9_set_40 : decode cX9_set 40 = .ok (.iconst 1, 1) := by decide +kernel
theorem dX9_set_41 : decode cX9_set 41 = .ok (.if_icmp .ne 9, 3) := by decide +kernel
theorem dX9_set_44 : decode cX9_set 44 = .ok (.sipush 150, 3) := by decide +kernel
theorem dX9_set_47 : decode cX9_set 47 = .ok (.goto 5, 3) := by decide +kernel
theorem dX9_set_50 : decode cX9_set 50 = .ok (.bipush 99, 2) := by decide +kernel
theorem dX9_set_52 : decode cX9_set 52 = .ok (.invokestatic 32, 3) := by decide +kernel
theorem dX9_set_55 : decode cX9_set 55 = .ok (.ifCond .ne 6, 3) := by decide +kernel
theorem dX9_set_58 : decode cX9_set 58 = .ok (.bipush (-2), 2) := by decide +kernel
theorem dX9_set_60 : decode cX9_set 60 = .ok (.ireturn, 1) := by decide +kernel
theorem dX9_set_61 : decode cX9_set 61 = .ok (.aload_n 0, 1) := by decide +kernel
theorem dX9_set_62 : decode cX9_set 62 = .ok (.getfield 7, 3) := by decide +kernel
theorem dX9_set_65 : decode cX9_set 65 = .ok (.iload_n 1, 1) := by decide +kernel
theorem dX9_set_66 : decode cX9_set 66 = .ok (.iaload, 1) := by decide +kernel
theorem dX9_set_67 : decode cX9_set 67 = .ok (.istore_n 3, 1) := by decide +kernel
theorem dX9_set_68 : decode cX9_set 68 = .ok (.iload_n 3, 1) := by decide +kernel
theorem dX9_set_69 : decode cX9_set 69 = .ok (.iload_n 2, 1) := by decide +kernel
theorem dX9_set_70 : decode cX9_set 70 = .ok (.if_icmp .ne 6, 3) := by decide +kernel
theorem dX9_set_73 : decode cX9_set 73 = .ok (.bipush (-5), 2) := by decide +kernel
theorem dX9_set_75 : decode cX9_set 75 = .ok (.ireturn, 1) := by decide +kernel
theorem dX9_set_76 : decode cX9_set 76 = .ok (.aload_n 0, 1) := by decide +kernel
theorem dX9_set_77 : decode cX9_set 77 = .ok (.invokevirtual 104, 3) := by decide +kernel
theorem dX9_set_80 : decode cX9_set 80 = .ok (.aload_n 0, 1) := by decide +kernel
theorem dX9_set_81 : decode cX9_set 81 = .ok (.getfield 7, 3) := by decide +kernel
theorem dX9_set_84 : decode cX9_set 84 = .ok (.iload_n 1, 1) := by decide +kernel
theorem dX9_set_85 : decode cX9_set 85 = .ok (.iload_n 2, 1) := by decide +kernel
theorem dX9_set_86 : decode cX9_set 86 = .ok (.iastore, 1) := by decide +kernel
theorem dX9_set_87 : decode cX9_set 87 = .ok (.aload_n 0, 1) := by decide +kernel
theorem dX9_set_88 : decode cX9_set 88 = .ok (.iload_n 3, 1) := by decide +kernel
theorem dX9_set_89 : decode cX9_set 89 = .ok (.invokevirtual 107, 3) := by decide +kernel
theorem dX9_set_92 : decode cX9_set 92 = .ok (.ireturn, 1) := by decide +kernel
theorem dX9_type_0 : decode cX9_type 0 = .ok (.aload_n 0, 1) := by decide +kernel
theorem dX9_type_1 : decode cX9_type 1 = .ok (.getfield 126, 3) := by decide +kernel
theorem dX9_type_4 : decode cX9_type 4 = .ok (.bipush 60, 2) := by decide +kernel
theorem dX9_type_6 : decode cX9_type 6 = .ok (.if_icmp .ne 6, 3) := by decide +kernel
theorem dX9_type_9 : decode cX9_type 9 = .ok (.bipush (-3), 2) := by decide +kernel
theorem dX9_type_11 : decode cX9_type 11 = .ok (.ireturn, 1) := by decide +kernel
theorem dX9_type_12 : decode cX9_type 12 = .ok (.aload_n 0, 1) := by decide +kernel
theorem dX9_type_13 : decode cX9_type 13 = .ok (.getfield 22, 3) := by decide +kernel
theorem dX9_type_16 : decode cX9_type 16 = .ok (.aload_n 0, 1) := by decide +kernel
theorem dX9_type_17 : decode cX9_type 17 = .ok (.getfield 126, 3) := by decide +kernel
theorem dX9_type_20 : decode cX9_type 20 = .ok (.iload_n 1, 1) := by decide +kernel
theorem dX9_type_21 : decode cX9_type 21 = .ok (.iastore, 1) := by decide +kernel
theorem dX9_type_22 : decode cX9_type 22 = .ok (.aload_n 0, 1) := by decide +kernel
theorem dX9_type_23 : decode cX9_type 23 = .ok (.dup, 1) := by decide +kernel
theorem dX9_type_24 : decode cX9_type 24 = .ok (.getfield 126, 3) := by decide +kernel
theorem dX9_type_27 : decode cX9_type 27 = .ok (.iconst 1, 1) := by decide +kernel
theorem dX9_type_28 : decode cX9_type 28 = .ok (.iadd, 1) := by decide +kernel
theorem dX9_type_29 : decode cX9_type 29 = .ok (.putfield 126, 3) := by decide +kernel
theorem dX9_type_32 : decode cX9_type 32 = .ok (.aload_n 0, 1) := by decide +kernel
theorem dX9_type_33 : decode cX9_type 33 = .ok (.getfield 126, 3) := by decide +kernel
theorem dX9_type_36 : decode cX9_type 36 = .ok (.ireturn, 1) := by decide +kernel
theorem dX9_clearText_0 : decode cX9_clearText 0 = .ok (.aload_n 0, 1) := by decide +kernel
theorem dX9_clearText_1 : decode cX9_clearText 1 = .ok (.getfield 126, 3) := by decide +kernel
theorem dX9_clearText_4 : decode cX9_clearText 4 = .ok (.istore_n 1, 1) := by decide +kernel
theorem dX9_clearText_5 : decode cX9_clearText 5 = .ok (.aload_n 0, 1) := by decide +kernel
theorem dX9_clearText_6 : decode cX9_clearText 6 = .ok (.iconst 0, 1) := by decide +kernel
theorem dX9_clearText_7 : decode cX9_clearText 7 = .ok (.putfield 126, 3) := by decide +kernel
theorem dX9_clearText_10 : decode cX9_clearText 10 = .ok (.iload_n 1, 1) := by decide +kernel
theorem dX9_clearText_11 : decode cX9_clearText 11 = .ok (.ireturn, 1) := by decide +kernel
set_option maxRecDepth 20000 in
theorem ggX9_sign_X9_in : GoodIn wsX9_sign wsX9_in := goodIn_r _ [8] (by decide +kernel) (by decide +kernel)
set_option maxRecDepth 20000 in
theorem gX9_sign_X9_in : GoodIn wsX9_sign (va_wsS RX9 32 yX9_in wsX9_in) := goodIn_app (goodIn_of _ (by decide +kernel)) ggX9_sign_X9_in
theorem dX9_sign_0 : decode cX9_sign 0 = .ok (.aload_n 0, 1) := by decide +kernel
theorem dX9_sign_1 : decode cX9_sign 1 = .ok (.getfield 129, 3) := by decide +kernel
theorem dX9_sign_4 : decode cX9_sign 4 = .ok (.aload_n 0, 1) := by decide +kernel
theorem dX9_sign_5 : decode cX9_sign 5 = .ok (.getfield 126, 3) := by decide +kernel
theorem dX9_sign_8 : decode cX9_sign 8 = .ok (.if_icmp .ge 15, 3) := by decide +kernel
theorem dX9_sign_11 : decode cX9_sign 11 = .ok (.aload_n 0, 1) := by decide +kernel
theorem dX9_sign_12 : decode cX9_sign 12 = .ok (.getfield 22, 3) := by decide +kernel
theorem dX9_sign_15 : decode cX9_sign 15 = .ok (.aload_n 0, 1) := by decide +kernel
theorem dX9_sign_16 : decode cX9_sign 16 = .ok (.getfield 129, 3) := by decide +kernel
theorem dX9_sign_19 : decode cX9_sign 19 = .ok (.iaload, 1) := by decide +kernel
theorem dX9_sign_20 : decode cX9_sign 20 = .ok (.goto 4, 3) := by decide +kernel
theorem dX9_sign_23 : decode cX9_sign 23 = .ok (.iconst 0, 1) := by decide +kernel
theorem dX9_sign_24 : decode cX9_sign 24 = .ok (.istore_n 3, 1) := by decide +kernel
theorem dX9_sign_25 : decode cX9_sign 25 = .ok (.aload_n 0, 1) := by decide +kernel
theorem dX9_sign_26 : decode cX9_sign 26 = .ok (.aload_n 0, 1) := by decide +kernel
theorem dX9_sign_27 : decode cX9_sign 27 = .ok (.getfield 132, 3) := by decide +kernel
theorem dX9_sign_30 : decode cX9_sign 30 = .ok (.ifCond .ne 23, 3) := by decide +kernel
theorem dX9_sign_33 : decode cX9_sign 33 = .ok (.aload_n 0, 1) := by decide +kernel
theorem dX9_sign_34 : decode cX9_sign 34 = .ok (.getfield 129, 3) := by decide +kernel
theorem dX9_sign_37 : decode cX9_sign 37 = .ok (.aload_n 0, 1) := by decide +kernel
theorem dX9_sign_38 : decode cX9_sign 38 = .ok (.getfield 126, 3) := by decide +kernel
theorem dX9_sign_41 : decode cX9_sign 41 = .ok (.if_icmp .ge 12, 3) := by decide +kernel
theorem dX9_sign_44 : decode cX9_sign 44 = .ok (.iload_n 3, 1) := by decide +kernel
theorem dX9_sign_45 : decode cX9_sign 45 = .ok (.iload_n 1, 1) := by decide +kernel
theorem dX9_sign_46 : decode cX9_sign 46 = .ok (.iload_n 2, 1) := by decide +kernel
theorem dX9_sign_47 : decode cX9_sign 47 = .ok (.invokestatic 32, 3) := by decide +kernel
theorem dX9_sign_50 : decode cX9_sign 50 = .ok (.ifCond .ne 7, 3) := by decide +kernel
theorem dX9_sign_53 : decode cX9_sign 53 = .ok (.iconst 1, 1) := by decide +kernel
theorem dX9_sign_54 : decode cX9_sign 54 = .ok (.goto 4, 3) := by decide +kernel
theorem dX9_sign_57 : decode cX9_sign 57 = .ok (.iconst 0, 1) := by decide +kernel
theorem dX9_sign_58 : decode cX9_sign 58 = .ok (.putfield 132, 3) := by decide +kernel
theorem dX9_sign_61 : decode cX9_sign 61 = .ok (.aload_n 0, 1) := by decide +kernel
theorem dX9_sign_62 : decode cX9_sign 62 = .ok (.dup, 1) := by decide +kernel
theorem dX9_sign_63 : decode cX9_sign 63 = .ok (.getfield 129, 3) := by decide +kernel
theorem dX9_sign_66 : decode cX9_sign 66 = .ok (.aload_n 0, 1) := by decide +kernel
theorem dX9_sign_67 : decode cX9_sign 67 = .ok (.getfield 132, 3) := by decide +kernel
theorem dX9_sign_70 : decode cX9_sign 70 = .ok (.ifCond .eq 7, 3) := by decide +kernel
theorem dX9_sign_73 : decode cX9_sign 73 = .ok (.iconst 0, 1) := by decide +kernel
theorem dX9_sign_74 : decode cX9_sign 74 = .ok (.goto 4, 3) := by decide +kernel
theorem dX9_sign_77 : decode cX9_sign 77 = .ok (.iconst 1, 1) := by decide +kernel
theorem dX9_sign_78 : decode cX9_sign 78 = .ok (.iadd, 1) := by decide +kernel
theorem dX9_sign_79 : decode cX9_sign 79 = .ok (.putfield 129, 3) := by decide +kernel
theorem dX9_sign_82 : decode cX9_sign 82 = .ok (.iload_n 3, 1) := by decide +kernel
theorem dX9_sign_83 : decode cX9_sign 83 = .ok (.ireturn, 1) := by decide +kernel
theorem dX9_isNext_0 : decode cX9_isNext 0 = .ok (.aload_n 0, 1) := by decide +kernel
theorem dX9_isNext_1 : decode cX9_isNext 1 = .ok (.getfield 132, 3) := by decide +kernel
theorem dX9_isNext_4 : decode cX9_isNext 4 = .ok (.ifCond .ne 31, 3) := by decide +kernel
theorem dX9_isNext_7 : decode cX9_isNext 7 = .ok (.aload_n 0, 1) := by decide +kernel
theorem dX9_isNext_8 : decode cX9_isNext 8 = .ok (.getfield 129, 3) := by decide +kernel
theorem dX9_isNext_11 : decode cX9_isNext 11 = .ok (.aload_n 0, 1) := by decide +kernel
theorem dX9_isNext_12 : decode cX9_isNext 12 = .ok (.getfield 126, 3) := by decide +kernel
theorem dX9_isNext_15 : decode cX9_isNext 15 = .ok (.if_icmp .ge 20, 3) := by decide +kernel
theorem dX9_isNext_18 : decode cX9_isNext 18 = .ok (.aload_n 0, 1) := by decide +kernel
theorem dX9_isNext_19 : decode cX9_isNext 19 = .ok (.getfield 22, 3) := by decide +kernel
theorem dX9_isNext_22 : decode cX9_isNext 22 = .ok (.aload_n 0, 1) := by decide +kernel
theorem dX9_isNext_23 : decode cX9_isNext 23 = .ok (.getfield 129, 3) := by decide +kernel
theorem dX9_isNext_26 : decode cX9_isNext 26 = .ok (.iaload, 1) := by decide +kernel
theorem dX9_isNext_27 : decode cX9_isNext 27 = .ok (.iload_n 1, 1) := by decide +kernel
theorem dX9_isNext_28 : decode cX9_isNext 28 = .ok (.if_icmp .ne 7, 3) := by decide +kernel
theorem dX9_isNext_31 : decode cX9_isNext 31 = .ok (.iconst 1, 1) := by decide +kernel
theorem dX9_isNext_32 : decode cX9_isNext 32 = .ok (.goto 4, 3) := by decide +kernel
theorem dX9_isNext_35 : decode cX9_isNext 35 = .ok (.iconst 0, 1) := by decide +kernel
theorem dX9_isNext_36 : decode cX9_isNext 36 = .ok (.ireturn, 1) := by decide +kernel
set_option maxRecDepth 20000 in
theorem ggX9_number_X9_sign : GoodIn wsX9_number wsX9_sign := goodIn_r _ [9, 2, 3, 4, 1, 10, 11, 8, 12, 13, 14, 15, 16, 17, 18, 19, 20, 21, 22, 23, 24, 25] (by decide +kernel) (by decide +kernel)
set_option maxRecDepth 20000 in
theorem gX9_number_X9_sign : GoodIn wsX9_number (wsV RX9 136 RX9 yX9_sign wsX9_sign) := goodIn_app (goodIn_of _ (by decide +kernel)) ggX9_number_X9_sign
set_option maxRecDepth 20000 in
theorem ggX9_number_X9_in : GoodIn wsX9_number wsX9_in := goodIn_r _ [12] (by decide +kernel) (by decide +kernel)
set_option maxRecDepth 20000 in
theorem gX9_number_X9_in : GoodIn wsX9_number (va_wsS RX9 32 yX9_in wsX9_in) := goodIn_app (goodIn_of _ (by decide +kernel)) ggX9_number_X9_in
theorem dX9_number_0 : decode cX9_number 0 = .ok (.aload_n 0, 1) := by decide +kernel
theorem dX9_number_1 : decode cX9_number 1 = .ok (.bipush 49, 2) := by decide +kernel
theorem dX9_number_3 : decode cX9_number 3 = .ok (.bipush 57, 2) := by decide +kernel
theorem dX9_number_5 : decode cX9_number 5 = .ok (.invokevirtual 136, 3) := by decide +kernel
theorem dX9_number_8 : decode cX9_number 8 = .ok (.bipush 48, 2) := by decide +kernel
theorem dX9_number_10 : decode cX9_number 10 = .ok (.isub, 1) := by decide +kernel
theorem dX9_number_11 : decode cX9_number 11 = .ok (.istore_n 2, 1) := by decide +kernel
theorem dX9_number_12 : decode cX9_number 12 = .ok (.aload_n 0, 1) := by decide +kernel
theorem dX9_number_13 : decode cX9_number 13 = .ok (.getfield 132, 3) := by decide +kernel
theorem dX9_number_16 : decode cX9_number 16 = .ok (.ifCond .ne 85, 3) := by decide +kernel
theorem dX9_number_19 : decode cX9_number 19 = .ok (.aload_n 0, 1) := by decide +kernel
theorem dX9_number_20 : decode cX9_number 20 = .ok (.getfield 129, 3) := by decide +kernel
theorem dX9_number_23 : decode cX9_number 23 = .ok (.aload_n 0, 1) := by decide +kernel
theorem dX9_number_24 : decode cX9_number 24 = .ok (.getfield 126, 3) := by decide +kernel
theorem dX9_number_27 : decode cX9_number 27 = .ok (.if_icmp .ge 74, 3) := by decide +kernel
theorem dX9_number_30 : decode cX9_number 30 = .ok (.aload_n 0, 1) := by decide +kernel
theorem dX9_number_31 : decode cX9_number 31 = .ok (.getfield 22, 3) := by decide +kernel
theorem dX9_number_34 : decode cX9_number 34 = .ok (.aload_n 0, 1) := by decide +kernel
theorem dX9_number_35 : decode cX9_number 35 = .ok (.getfield 129, 3) := by decide +kernel
theorem dX9_number_38 : decode cX9_number 38 = .ok (.iaload, 1) := by decide +kernel
theorem dX9_number_39 : decode cX9_number 39 = .ok (.bipush 48, 2) := by decide +kernel
theorem dX9_number_41 : decode cX9_number 41 = .ok (.bipush 57, 2) := by decide +kernel
theorem dX9_number_43 : decode cX9_number 43 = .ok (.invokestatic 32, 3) := by decide +kernel
theorem dX9_number_46 : decode cX9_number 46 = .ok (.ifCond .eq 55, 3) := by decide +kernel
theorem dX9_number_49 : decode cX9_number 49 = .ok (.bipush 10, 2) := by decide +kernel
theorem dX9_number_51 : decode cX9_number 51 = .ok (.iload_n 2, 1) := by decide +kernel
theorem dX9_number_52 : decode cX9_number 52 = .ok (.imul, 1) := by decide +kernel
theorem dX9_number_53 : decode cX9_number 53 = .ok (.aload_n 0, 1) := by decide +kernel
theorem dX9_number_54 : decode cX9_number 54 = .ok (.getfield 22, 3) := by decide +kernel
theorem dX9_number_57 : decode cX9_number 57 = .ok (.aload_n 0, 1) := by decide +kernel
theorem dX9_number_58 : decode cX9_number 58 = .ok (.getfield 129, 3) := by decide +kernel
theorem dX9_number_61 : decode cX9_number 61 = .ok (.iaload, 1) := by decide +kernel
theorem dX9_number_62 : decode cX9_number 62 = .ok (.iadd, 1) := by decide +kernel
theorem dX9_number_63 : decode cX9_number 63 = .ok (.bipush 48, 2) := by decide +kernel
theorem dX9_number_65 : decode cX9_number 65 = .ok (.isub, 1) := by decide +kernel
theorem dX9_number_66 : decode cX9_number 66 = .ok (.iload_n 1, 1) := by decide +kernel
theorem dX9_number_67 : decode cX9_number 67 = .ok (.if_icmp .gt 34, 3) := by decide +kernel
theorem dX9_number_70 : decode cX9_number 70 = .ok (.bipush 10, 2) := by decide +kernel
theorem dX9_number_72 : decode cX9_number 72 = .ok (.iload_n 2, 1) := by decide +kernel
theorem dX9_number_73 : decode cX9_number 73 = .ok (.imul, 1) := by decide +kernel
theorem dX9_number_74 : decode cX9_number 74 = .ok (.aload_n 0, 1) := by decide +kernel
theorem dX9_number_75 : decode cX9_number 75 = .ok (.getfield 22, 3) := by decide +kernel
theorem dX9_number_78 : decode cX9_number 78 = .ok (.aload_n 0, 1) := by decide +kernel
theorem dX9_number_79 : decode cX9_number 79 = .ok (.getfield 129, 3) := by decide +kernel
theorem dX9_number_82 : decode cX9_number 82 = .ok (.iaload, 1) := by decide +kernel
theorem dX9_number_83 : decode cX9_number 83 = .ok (.iadd, 1) := by decide +kernel
theorem dX9_number_84 : decode cX9_number 84 = .ok (.bipush 48, 2) := by decide +kernel
theorem dX9_number_86 : decode cX9_number 86 = .ok (.isub, 1) := by decide +kernel
theorem dX9_number_87 : decode cX9_number 87 = .ok (.istore_n 2, 1) := by decide +kernel
theorem dX9_number_88 : decode cX9_number 88 = .ok (.aload_n 0, 1) := by decide +kernel
theorem dX9_number_89 : decode cX9_number 89 = .ok (.dup, 1) := by decide +kernel
theorem dX9_number_90 : decode cX9_number 90 = .ok (.getfield 129, 3) := by decide +kernel
theorem dX9_number_93 : decode cX9_number 93 = .ok (.iconst 1, 1) := by decide +kernel
theorem dX9_number_94 : decode cX9_number 94 = .ok (.iadd, 1) := by decide +kernel
theorem dX9_number_95 : decode cX9_number 95 = .ok (.putfield 129, 3) := by decide +kernel
theorem dX9_number_98 : decode cX9_number 98 = .ok (.goto (-86), 3) := by decide +kernel
theorem dX9_number_101 : decode cX9_number 101 = .ok (.iload_n 2, 1) := by decide +kernel
theorem dX9_number_102 : decode cX9_number 102 = .ok (.ireturn, 1) := by decide +kernel
set_option maxRecDepth 20000 in
theorem ggX9_begins_X9_dayOf : GoodIn wsX9_begins wsX9_dayOf := goodIn_r _ [4, 5, 6, 3, 7, 8, 9, 10, 11, 12, 13] (by decide +kernel) (by decide +kernel)
set_option maxRecDepth 20000 in
theorem gX9_begins_X9_dayOf : GoodIn wsX9_begins (va_wsS RX9 139 yX9_dayOf wsX9_dayOf) := goodIn_app (goodIn_of _ (by decide +kernel)) ggX9_begins_X9_dayOf
theorem dX9_begins_0 : decode cX9_begins 0 = .ok (.iload_n 0, 1) := by decide +kernel
theorem dX9_begins_1 : decode cX9_begins 1 = .ok (.istore_n 2, 1) := by decide +kernel
theorem dX9_begins_2 : decode cX9_begins 2 = .ok (.iload_n 0, 1) := by decide +kernel
theorem dX9_begins_3 : decode cX9_begins 3 = .ok (.iconst 1, 1) := by decide +kernel
theorem dX9_begins_4 : decode cX9_begins 4 = .ok (.iadd, 1) := by decide +kernel
theorem dX9_begins_5 : decode cX9_begins 5 = .ok (.istore_n 3, 1) := by decide +kernel
theorem dX9_begins_6 : decode cX9_begins 6 = .ok (.iload_n 1, 1) := by decide +kernel
theorem dX9_begins_7 : decode cX9_begins 7 = .ok (.istore 4, 2) := by decide +kernel
theorem dX9_begins_9 : decode cX9_begins 9 = .ok (.iload 4, 2) := by decide +kernel
theorem dX9_begins_11 : decode cX9_begins 11 = .ok (.bipush 6, 2) := by decide +kernel
theorem dX9_begins_13 : decode cX9_begins 13 = .ok (.if_icmp .ge 19, 3) := by decide +kernel
theorem dX9_begins_16 : decode cX9_begins 16 = .ok (.iload_n 2, 1) := by decide +kernel
theorem dX9_begins_17 : decode cX9_begins 17 = .ok (.bipush 10, 2) := by decide +kernel
theorem dX9_begins_19 : decode cX9_begins 19 = .ok (.imul, 1) := by decide +kernel
theorem dX9_begins_20 : decode cX9_begins 20 = .ok (.istore_n 2, 1) := by decide +kernel
theorem dX9_begins_21 : decode cX9_begins 21 = .ok (.iload_n 3, 1) := by decide +kernel
theorem dX9_begins_22 : decode cX9_begins 22 = .ok (.bipush 10, 2) := by decide +kernel
theorem dX9_begins_24 : decode cX9_begins 24 = .ok (.imul, 1) := by decide +kernel
theorem dX9_begins_25 : decode cX9_begins 25 = .ok (.istore_n 3, 1) := by decide +kernel
theorem dX9_begins_26 : decode cX9_begins 26 = .ok (.iinc 4 1, 3) := by decide +kernel
theorem dX9_begins_29 : decode cX9_begins 29 = .ok (.goto (-20), 3) := by decide +kernel
theorem dX9_begins_32 : decode cX9_begins 32 = .ok (.iload_n 2, 1) := by decide +kernel
theorem dX9_begins_33 : decode cX9_begins 33 = .ok (.istore 4, 2) := by decide +kernel
theorem dX9_begins_35 : decode cX9_begins 35 = .ok (.iload 4, 2) := by decide +kernel
theorem dX9_begins_37 : decode cX9_begins 37 = .ok (.iload_n 3, 1) := by decide +kernel
theorem dX9_begins_38 : decode cX9_begins 38 = .ok (.if_icmp .ge 97, 3) := by decide +kernel
theorem dX9_begins_41 : decode cX9_begins 41 = .ok (.iconst 1, 1) := by decide +kernel
theorem dX9_begins_42 : decode cX9_begins 42 = .ok (.istore 5, 2) := by decide +kernel
theorem dX9_begins_44 : decode cX9_begins 44 = .ok (.iload 5, 2) := by decide +kernel
theorem dX9_begins_46 : decode cX9_begins 46 = .ok (.bipush 12, 2) := by decide +kernel
theorem dX9_begins_48 : decode cX9_begins 48 = .ok (.if_icmp .gt 40, 3) := by decide +kernel
theorem dX9_begins_51 : decode cX9_begins 51 = .ok (.iload_n 1, 1) := by decide +kernel
theorem dX9_begins_52 : decode cX9_begins 52 = .ok (.iconst 3, 1) := by decide +kernel
theorem dX9_begins_53 : decode cX9_begins 53 = .ok (.if_icmp .ge 35, 3) := by decide +kernel
theorem dX9_begins_56 : decode cX9_begins 56 = .ok (.iload 4, 2) := by decide +kernel
theorem dX9_begins_58 : decode cX9_begins 58 = .ok (.sipush 10000, 3) := by decide +kernel
theorem dX9_begins_61 : decode cX9_begins 61 = .ok (.idiv, 1) := by decide +kernel
theorem dX9_begins_62 : decode cX9_begins 62 = .ok (.sipush 10000, 3) := by decide +kernel
theorem dX9_begins_65 : decode cX9_begins 65 = .ok (.imul, 1) := by decide +kernel
theorem dX9_begins_66 : decode cX9_begins 66 = .ok (.bipush 100, 2) := by decide +kernel
theorem dX9_begins_68 : decode cX9_begins 68 = .ok (.iload 5, 2) := by decide +kernel
theorem dX9_begins_70 : decode cX9_begins 70 = .ok (.imul, 1) := by decide +kernel
theorem dX9_begins_71 : decode cX9_begins 71 = .ok (.iadd, 1) := by decide +kernel
theorem dX9_begins_72 : decode cX9_begins 72 = .ok (.invokestatic 139, 3) := by decide +kernel
theorem dX9_begins_75 : decode cX9_begins 75 = .ok (.bipush (-5), 2) := by decide +kernel
theorem dX9_begins_77 : decode cX9_begins 77 = .ok (.if_icmp .eq 5, 3) := by decide +kernel
theorem dX9_begins_80 : decode cX9_begins 80 = .ok (.iconst 1, 1) := by decide +kernel
theorem dX9_begins_81 : decode cX9_begins 81 = .ok (.ireturn, 1) := by decide +kernel
theorem dX9_begins_82 : decode cX9_begins 82 = .ok (.iinc 5 1, 3) := by decide +kernel
theorem dX9_begins_85 : decode cX9_begins 85 = .ok (.goto (-41), 3) := by decide +kernel
theorem dX9_begins_88 : decode cX9_begins 88 = .ok (.iload_n 1, 1) := by decide +kernel
theorem dX9_begins_89 : decode cX9_begins 89 = .ok (.iconst 3, 1) := by decide +kernel
theorem dX9_begins_90 : decode cX9_begins 90 = .ok (.if_icmp .lt 15, 3) := by decide +kernel
theorem dX9_begins_93 : decode cX9_begins 93 = .ok (.iload 4, 2) := by decide +kernel
theorem dX9_begins_95 : decode cX9_begins 95 = .ok (.invokestatic 139, 3) := by decide +kernel
theorem dX9_begins_98 : decode cX9_begins 98 = .ok (.bipush (-5), 2) := by decide +kernel
theorem dX9_begins_100 : decode cX9_begins 100 = .ok (.if_icmp .eq 5, 3) := by decide +kernel
theorem dX9_begins_103 : decode cX9_begins 103 = .ok (.iconst 1, 1) := by decide +kernel
theorem dX9_begins_104 : decode cX9_begins 104 = .ok (.ireturn, 1) := by decide +kernel
theorem dX9_begins_105 : decode cX9_begins 105 = .ok (.iload 4, 2) := by decide +kernel
theorem dX9_begins_107 : decode cX9_begins 107 = .ok (.iload_n 1, 1) := by decide +kernel
theorem dX9_begins_108 : decode cX9_begins 108 = .ok (.iconst 1, 1) := by decide +kernel
theorem dX9_begins_109 : decode cX9_begins 109 = .ok (.if_icmp .ne 9, 3) := by decide +kernel
theorem dX9_begins_112 : decode cX9_begins 112 = .ok (.sipush 10000, 3) := by decide +kernel
theorem dX9_begins_115 : decode cX9_begins 115 = .ok (.goto 14, 3) := by decide +kernel
theorem dX9_begins_118 : decode cX9_begins 118 = .ok (.iload_n 1, 1) := by decide +kernel
theorem dX9_begins_119 : decode cX9_begins 119 = .ok (.iconst 4, 1) := by decide +kernel
theorem dX9_begins_120 : decode cX9_begins 120 = .ok (.if_icmp .ge 8, 3) := by decide +kernel
theorem dX9_begins_123 : decode cX9_begins 123 = .ok (.bipush 100, 2) := by decide +kernel
theorem dX9_begins_125 : decode cX9_begins 125 = .ok (.goto 4, 3) := by decide +kernel
theorem dX9_begins_128 : decode cX9_begins 128 = .ok (.iconst 1, 1) := by decide +kernel
theorem dX9_begins_129 : decode cX9_begins 129 = .ok (.iadd, 1) := by decide +kernel
theorem dX9_begins_130 : decode cX9_begins 130 = .ok (.istore 4, 2) := by decide +kernel
theorem dX9_begins_132 : decode cX9_begins 132 = .ok (.goto (-97), 3) := by decide +kernel
theorem dX9_begins_135 : decode cX9_begins 135 = .ok (.iconst 0, 1) := by decide +kernel
theorem dX9_begins_136 : decode cX9_begins 136 = .ok (.ireturn, 1) := by decide +kernel
set_option maxRecDepth 20000 in
theorem ggX9_date_X9_in : GoodIn wsX9_date wsX9_in := goodIn_r _ [8] (by decide +kernel) (by decide +kernel)
set_option maxRecDepth 20000 in
theorem gX9_date_X9_in : GoodIn wsX9_date (va_wsS RX9 32 yX9_in wsX9_in) := goodIn_app (goodIn_of _ (by decide +kernel)) ggX9_date_X9_in
set_option maxRecDepth 20000 in
theorem ggX9_date_X9_begins : GoodIn wsX9_date wsX9_begins := goodIn_r _ [11, 12, 13, 7, 14, 5, 6, 8, 15, 16, 17, 18, 19, 20] (by decide +kernel) (by decide +kernel)
set_option maxRecDepth 20000 in
theorem gX9_date_X9_begins : GoodIn wsX9_date (va_wsS RX9 142 yX9_begins wsX9_begins) := goodIn_app (goodIn_of _ (by decide +kernel)) ggX9_date_X9_begins
theorem dX9_date_0 : decode cX9_date 0 = .ok (.iconst 0, 1) := by decide +kernel
theorem dX9_date_1 : decode cX9_date 1 = .ok (.istore_n 1, 1) := by decide +kernel
theorem dX9_date_2 : decode cX9_date 2 = .ok (.iconst 1, 1) := by decide +kernel
theorem dX9_date_3 : decode cX9_date 3 = .ok (.istore_n 2, 1) := by decide +kernel
theorem dX9_date_4 : decode cX9_date 4 = .ok (.iload_n 2, 1) := by decide +kernel
theorem dX9_date_5 : decode cX9_date 5 = .ok (.bipush 6, 2) := by decide +kernel
theorem dX9_date_7 : decode cX9_date 7 = .ok (.if_icmp .gt 108, 3) := by decide +kernel
theorem dX9_date_10 : decode cX9_date 10 = .ok (.aload_n 0, 1) := by decide +kernel
theorem dX9_date_11 : decode cX9_date 11 = .ok (.getfield 132, 3) := by decide +kernel
theorem dX9_date_14 : decode cX9_date 14 = .ok (.ifCond .ne 101, 3) := by decide +kernel
theorem dX9_date_17 : decode cX9_date 17 = .ok (.aload_n 0, 1) := by decide +kernel
theorem dX9_date_18 : decode cX9_date 18 = .ok (.getfield 129, 3) := by decide +kernel
theorem dX9_date_21 : decode cX9_date 21 = .ok (.aload_n 0, 1) := by decide +kernel
theorem dX9_date_22 : decode cX9_date 22 = .ok (.getfield 126, 3) := by decide +kernel
theorem dX9_date_25 : decode cX9_date 25 = .ok (.if_icmp .ge 15, 3) := by decide +kernel
theorem dX9_date_28 : decode cX9_date 28 = .ok (.aload_n 0, 1) := by decide +kernel
theorem dX9_date_29 : decode cX9_date 29 = .ok (.getfield 22, 3) := by decide +kernel
theorem dX9_date_32 : decode cX9_date 32 = .ok (.aload_n 0, 1) := by decide +kernel
theorem dX9_date_33 : decode cX9_date 33 = .ok (.getfield 129, 3) := by decide +kernel
theorem dX9_date_36 : decode cX9_date 36 = .ok (.iaload, 1) := by decide +kernel
theorem dX9_date_37 : decode cX9_date 37 = .ok (.goto 4, 3) := by decide +kernel
theorem dX9_date_40 : decode cX9_date 40 = .ok (.iconst 0, 1) := by decide +kernel
theorem dX9_date_41 : decode cX9_date 41 = .ok (.istore_n 3, 1) := by decide +kernel
theorem dX9_date_42 : decode cX9_date 42 = .ok (.aload_n 0, 1) := by decide +kernel
theorem dX9_date_43 : decode cX9_date 43 = .ok (.iload_n 3, 1) := by decide +kernel
theorem dX9_date_44 : decode cX9_date 44 = .ok (.bipush 48, 2) := by decide +kernel
theorem dX9_date_46 : decode cX9_date 46 = .ok (.bipush 57, 2) := by decide +kernel
theorem dX9_date_48 : decode cX9_date 48 = .ok (.invokestatic 32, 3) := by decide +kernel
theorem dX9_date_51 : decode cX9_date 51 = .ok (.ifCond .eq 19, 3) := by decide +kernel
theorem dX9_date_54 : decode cX9_date 54 = .ok (.bipush 10, 2) := by decide +kernel
theorem dX9_date_56 : decode cX9_date 56 = .ok (.iload_n 1, 1) := by decide +kernel
theorem dX9_date_57 : decode cX9_date 57 = .ok (.imul, 1) := by decide +kernel
theorem dX9_date_58 : decode cX9_date 58 = .ok (.iload_n 3, 1) := by decide +kernel
theorem dX9_date_59 : decode cX9_date 59 = .ok (.iadd, 1) := by decide +kernel
theorem dX9_date_60 : decode cX9_date 60 = .ok (.bipush 48, 2) := by decide +kernel
theorem dX9_date_62 : decode cX9_date 62 = .ok (.isub, 1) := by decide +kernel
theorem dX9_date_63 : decode cX9_date 63 = .ok (.iload_n 2, 1) := by decide +kernel
theorem dX9_date_64 : decode cX9_date 64 = .ok (.invokestatic 142, 3) := by decide +kernel
theorem dX9_date_67 : decode cX9_date 67 = .ok (.ifCond .ne 7, 3) := by decide +kernel
theorem dX9_date_70 : decode cX9_date 70 = .ok (.iconst 1, 1) := by decide +kernel
theorem dX9_date_71 : decode cX9_date 71 = .ok (.goto 4, 3) := by decide +kernel
theorem dX9_date_74 : decode cX9_date 74 = .ok (.iconst 0, 1) := by decide +kernel
theorem dX9_date_75 : decode cX9_date 75 = .ok (.putfield 132, 3) := by decide +kernel
theorem dX9_date_78 : decode cX9_date 78 = .ok (.bipush 10, 2) := by decide +kernel
theorem dX9_date_80 : decode cX9_date 80 = .ok (.iload_n 1, 1) := by decide +kernel
theorem dX9_date_81 : decode cX9_date 81 = .ok (.imul, 1) := by decide +kernel
theorem dX9_date_82 : decode cX9_date 82 = .ok (.iload_n 3, 1) := by decide +kernel
theorem dX9_date_83 : decode cX9_date 83 = .ok (.iadd, 1) := by decide +kernel
theorem dX9_date_84 : decode cX9_date 84 = .ok (.bipush 48, 2) := by decide +kernel
theorem dX9_date_86 : decode cX9_date 86 = .ok (.isub, 1) := by decide +kernel
theorem dX9_date_87 : decode cX9_date 87 = .ok (.istore_n 1, 1) := by decide +kernel
theorem dX9_date_88 : decode cX9_date 88 = .ok (.aload_n 0, 1) := by decide +kernel
theorem dX9_date_89 : decode cX9_date 89 = .ok (.dup, 1) := by decide +kernel
theorem dX9_date_90 : decode cX9_date 90 = .ok (.getfield 129, 3) := by decide +kernel
theorem dX9_date_93 : decode cX9_date 93 = .ok (.aload_n 0, 1) := by decide +kernel
theorem dX9_date_94 : decode cX9_date 94 = .ok (.getfield 132, 3) := by decide +kernel
theorem dX9_date_97 : decode cX9_date 97 = .ok (.ifCond .eq 7, 3) := by decide +kernel
theorem dX9_date_100 : decode cX9_date 100 = .ok (.iconst 0, 1) := by decide +kernel
theorem dX9_date_101 : decode cX9_date 101 = .ok (.goto 4, 3) := by decide +kernel
theorem dX9_date_104 : decode cX9_date 104 = .ok (.iconst 1, 1) := by decide +kernel
theorem dX9_date_105 : decode cX9_date 105 = .ok (.iadd, 1) := by decide +kernel
theorem dX9_date_106 : decode cX9_date 106 = .ok (.putfield 129, 3) := by decide +kernel
theorem dX9_date_109 : decode cX9_date 109 = .ok (.iinc 2 1, 3) := by decide +kernel
theorem dX9_date_112 : decode cX9_date 112 = .ok (.goto (-108), 3) := by decide +kernel
theorem dX9_date_115 : decode cX9_date 115 = .ok (.iload_n 1, 1) := by decide +kernel
theorem dX9_date_116 : decode cX9_date 116 = .ok (.ireturn, 1) := by decide +kernel
set_option maxRecDepth 20000 in
theorem ggX9_order_X9_isNext : GoodIn wsX9_order wsX9_isNext := goodIn_r _ [9, 3, 1, 10, 11, 105, 106, 107, 108, 109, 110, 111, 112, 113, 114, 115, 116, 117] (by decide +kernel) (by decide +kernel)
set_option maxRecDepth 20000 in
theorem gX9_order_X9_isNext : GoodIn wsX9_order (wsV RX9 146 RX9 yX9_isNext wsX9_isNext) := goodIn_app (goodIn_of _ (by decide +kernel)) ggX9_order_X9_isNext
set_option maxRecDepth 20000 in
theorem ggX9_order_X9_date : GoodIn wsX9_order wsX9_date := goodIn_r _ [15, 3, 1, 10, 11, 16, 17, 8, 18, 19, 20, 21, 22, 23, 24, 25, 26, 27, 28, 29, 30, 105, 106, 107, 108, 109, 110, 111, 112, 113, 114, 115, 116, 117] (by decide +kernel) (by decide +kernel)
set_option maxRecDepth 20000 in
theorem gX9_order_X9_date : GoodIn wsX9_order (wsV RX9 149 RX9 yX9_date wsX9_date) := goodIn_app (goodIn_of _ (by decide +kernel)) ggX9_order_X9_date
set_option maxRecDepth 20000 in
theorem ggX9_order_X9_dayOf : GoodIn wsX9_order wsX9_dayOf := goodIn_r _ [24, 16, 17, 8, 18, 25, 26, 27, 28, 29, 30] (by decide +kernel) (by decide +kernel)
set_option maxRecDepth 20000 in
theorem gX9_order_X9_dayOf : GoodIn wsX9_order (va_wsS RX9 139 yX9_dayOf wsX9_dayOf) := goodIn_app (goodIn_of _ (by decide +kernel)) ggX9_order_X9_dayOf
set_option maxRecDepth 20000 in
theorem ggX9_order_X9_adjusts : GoodIn wsX9_order wsX9_adjusts := goodIn_r _ [34, 35, 36, 37, 8, 38, 39, 40, 41, 42, 2, 43, 44, 45, 28, 29, 30, 25, 26, 27, 46, 47, 48, 49, 50, 51, 52, 53, 54, 55, 56, 57, 58, 105, 106, 107, 108, 109, 110, 111, 112, 113, 114, 115, 116, 117] (by decide +kernel) (by decide +kernel)
set_option maxRecDepth 20000 in
theorem gX9_order_X9_adjusts : GoodIn wsX9_order (wsV RX9 113 RX9 yX9_adjusts wsX9_adjusts) := goodIn_app (goodIn_of _ (by decide +kernel)) ggX9_order_X9_adjusts
set_option maxRecDepth 20000 in
theorem ggX9_order_X9_sign : GoodIn wsX9_order wsX9_sign := goodIn_r _ [62, 1, 10, 11, 3, 16, 17, 8, 18, 105, 106, 107, 108, 109, 110, 111, 112, 113, 114, 115, 116, 117] (by decide +kernel) (by decide +kernel)
set_option maxRecDepth 20000 in
theorem gX9_order_X9_sign : GoodIn wsX9_order (wsV RX9 136 RX9 yX9_sign wsX9_sign) := goodIn_app (goodIn_of _ (by decide +kernel)) ggX9_order_X9_sign
set_option maxRecDepth 20000 in
theorem ggX9_order_X9_number : GoodIn wsX9_order wsX9_number := goodIn_r _ [66, 3, 1, 10, 11, 59, 60, 61, 8, 62, 16, 17, 18, 105, 106, 107, 108, 109, 110, 111, 112, 113, 114, 115, 116, 117] (by decide +kernel) (by decide +kernel)
