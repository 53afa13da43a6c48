set_option maxRecDepth 20000 in
theorem gX7_makeOne_X7_made : GoodIn wsX7_makeOne (wsV RX7 79 RX7 yX7_made wsX7_made) := goodIn_app (goodIn_of _ (by decide +kernel)) ggX7_makeOne_X7_made
set_option maxRecDepth 20000 in
theorem ggX7_makeOne_X7_bitsOf : GoodIn wsX7_makeOne wsX7_bitsOf := goodIn_r _ [21] rfl (by decide +kernel)
set_option maxRecDepth 20000 in
theorem gX7_makeOne_X7_bitsOf : GoodIn wsX7_makeOne (va_wsS RX7 54 yX7_bitsOf wsX7_bitsOf) := goodIn_app (goodIn_of _ (by decide +kernel)) ggX7_makeOne_X7_bitsOf
set_option maxRecDepth 20000 in
theorem ggX7_makeOne_X7_changed : GoodIn wsX7_makeOne wsX7_changed := goodIn_r _ [25, 3, 4, 1, 26, 27, 28, 7, 29, 15, 16, 17, 18, 14, 2, 34, 35, 36, 37, 38, 39, 40, 41, 42, 43, 44, 45, 46, 47, 48, 49] rfl (by decide +kernel)
set_option maxRecDepth 20000 in
theorem gX7_makeOne_X7_changed : GoodIn wsX7_makeOne (wsV RX7 85 RX7 yX7_changed wsX7_changed) := goodIn_app (goodIn_of _ (by decide +kernel)) ggX7_makeOne_X7_changed
set_option maxRecDepth 20000 in
theorem ggX7_makeOne_X7_isLike : GoodIn wsX7_makeOne wsX7_isLike := goodIn_r _ [33, 3, 2, 34, 35, 36, 37, 38, 39, 40, 41, 42, 43, 44, 45, 46, 47, 48, 49] rfl (by decide +kernel)
set_option maxRecDepth 20000 in
theorem gX7_makeOne_X7_isLike : GoodIn wsX7_makeOne (wsV RX7 104 RX7 yX7_isLike wsX7_isLike) := goodIn_app (goodIn_of _ (by decide +kernel)) ggX7_makeOne_X7_isLike
theorem dX7_makeOne_0 : decode cX7_makeOne 0 = .ok (.aload_n 0, 1) := by decide +kernel
theorem dX7_makeOne_1 : decode cX7_makeOne 1 = .ok (.getfield 7, 3) := by decide +kernel
theorem dX7_makeOne_4 : decode cX7_makeOne 4 = .ok (.bipush 16, 2) := by decide +kernel
theorem dX7_makeOne_6 : decode cX7_makeOne 6 = .ok (.iaload, 1) := by decide +kernel
theorem dX7_makeOne_7 : decode cX7_makeOne 7 = .ok (.bipush 6, 2) := by decide +kernel
theorem dX7_makeOne_9 : decode cX7_makeOne 9 = .ok (.if_icmp .ne 79, 3) := by decide +kernel
theorem dX7_makeOne_12 : decode cX7_makeOne 12 = .ok (.iconst 0, 1) := by decide +kernel
theorem dX7_makeOne_13 : decode cX7_makeOne 13 = .ok (.istore 5, 2) := by decide +kernel
theorem dX7_makeOne_15 : decode cX7_makeOne 15 = .ok (.iload 5, 2) := by decide +kernel
theorem dX7_makeOne_17 : decode cX7_makeOne 17 = .ok (.sipush 1024, 3) := by decide +kernel
theorem dX7_makeOne_20 : decode cX7_makeOne 20 = .ok (.if_icmp .ge 66, 3) := by decide +kernel
theorem dX7_makeOne_23 : decode cX7_makeOne 23 = .ok (.iload_n 1, 1) := by decide +kernel
theorem dX7_makeOne_24 : decode cX7_makeOne 24 = .ok (.iload_n 3, 1) := by decide +kernel
theorem dX7_makeOne_25 : decode cX7_makeOne 25 = .ok (.iconst (-1), 1) := by decide +kernel
theorem dX7_makeOne_26 : decode cX7_makeOne 26 = .ok (.if_icmp .ne 7, 3) := by decide +kernel
theorem dX7_makeOne_29 : decode cX7_makeOne 29 = .ok (.lconst 0, 1) := by decide +kernel
theorem dX7_makeOne_30 : decode cX7_makeOne 30 = .ok (.goto 16, 3) := by decide +kernel
theorem dX7_makeOne_33 : decode cX7_makeOne 33 = .ok (.aload_n 0, 1) := by decide +kernel
theorem dX7_makeOne_34 : decode cX7_makeOne 34 = .ok (.getfield 23, 3) := by decide +kernel
theorem dX7_makeOne_37 : decode cX7_makeOne 37 = .ok (.sipush 1024, 3) := by decide +kernel
theorem dX7_makeOne_40 : decode cX7_makeOne 40 = .ok (.iload_n 3, 1) := by decide +kernel
theorem dX7_makeOne_41 : decode cX7_makeOne 41 = .ok (.imul, 1) := by decide +kernel
theorem dX7_makeOne_42 : decode cX7_makeOne 42 = .ok (.iload 5, 2) := by decide +kernel
theorem dX7_makeOne_44 : decode cX7_makeOne 44 = .ok (.iadd, 1) := by decide +kernel
theorem dX7_makeOne_45 : decode cX7_makeOne 45 = .ok (.laload, 1) := by decide +kernel
theorem dX7_makeOne_46 : decode cX7_makeOne 46 = .ok (.iload 4, 2) := by decide +kernel
theorem dX7_makeOne_48 : decode cX7_makeOne 48 = .ok (.iconst (-1), 1) := by decide +kernel
theorem dX7_makeOne_49 : decode cX7_makeOne 49 = .ok (.if_icmp .ne 7, 3) := by decide +kernel
theorem dX7_makeOne_52 : decode cX7_makeOne 52 = .ok (.lconst 0, 1) := by decide +kernel
theorem dX7_makeOne_53 : decode cX7_makeOne 53 = .ok (.goto 17, 3) := by decide +kernel
theorem dX7_makeOne_56 : decode cX7_makeOne 56 = .ok (.aload_n 0, 1) := by decide +kernel
theorem dX7_makeOne_57 : decode cX7_makeOne 57 = .ok (.getfield 23, 3) := by decide +kernel
theorem dX7_makeOne_60 : decode cX7_makeOne 60 = .ok (.sipush 1024, 3) := by decide +kernel
theorem dX7_makeOne_63 : decode cX7_makeOne 63 = .ok (.iload 4, 2) := by decide +kernel
theorem dX7_makeOne_65 : decode cX7_makeOne 65 = .ok (.imul, 1) := by decide +kernel
theorem dX7_makeOne_66 : decode cX7_makeOne 66 = .ok (.iload 5, 2) := by decide +kernel
theorem dX7_makeOne_68 : decode cX7_makeOne 68 = .ok (.iadd, 1) := by decide +kernel
theorem dX7_makeOne_69 : decode cX7_makeOne 69 = .ok (.laload, 1) := by decide +kernel
theorem dX7_makeOne_70 : decode cX7_makeOne 70 = .ok (.invokestatic 100, 3) := by decide +kernel
theorem dX7_makeOne_73 : decode cX7_makeOne 73 = .ok (.lconst 0, 1) := by decide +kernel
theorem dX7_makeOne_74 : decode cX7_makeOne 74 = .ok (.lcmp, 1) := by decide +kernel
theorem dX7_makeOne_75 : decode cX7_makeOne 75 = .ok (.ifCond .eq 5, 3) := by decide +kernel
theorem dX7_makeOne_78 : decode cX7_makeOne 78 = .ok (.iconst 0, 1) := by decide +kernel
theorem dX7_makeOne_79 : decode cX7_makeOne 79 = .ok (.ireturn, 1) := by decide +kernel
theorem dX7_makeOne_80 : decode cX7_makeOne 80 = .ok (.iinc 5 1, 3) := by decide +kernel
theorem dX7_makeOne_83 : decode cX7_makeOne 83 = .ok (.goto (-68), 3) := by decide +kernel
theorem dX7_makeOne_86 : decode cX7_makeOne 86 = .ok (.iconst 1, 1) := by decide +kernel
theorem dX7_makeOne_87 : decode cX7_makeOne 87 = .ok (.ireturn, 1) := by decide +kernel
theorem dX7_makeOne_88 : decode cX7_makeOne 88 = .ok (.aload_n 0, 1) := by decide +kernel
theorem dX7_makeOne_89 : decode cX7_makeOne 89 = .ok (.bipush 16, 2) := by decide +kernel
theorem dX7_makeOne_91 : decode cX7_makeOne 91 = .ok (.iload_n 2, 1) := by decide +kernel
theorem dX7_makeOne_92 : decode cX7_makeOne 92 = .ok (.invokevirtual 79, 3) := by decide +kernel
theorem dX7_makeOne_95 : decode cX7_makeOne 95 = .ok (.istore 5, 2) := by decide +kernel
theorem dX7_makeOne_97 : decode cX7_makeOne 97 = .ok (.iconst 0, 1) := by decide +kernel
theorem dX7_makeOne_98 : decode cX7_makeOne 98 = .ok (.istore 6, 2) := by decide +kernel
theorem dX7_makeOne_100 : decode cX7_makeOne 100 = .ok (.iload 6, 2) := by decide +kernel
theorem dX7_makeOne_102 : decode cX7_makeOne 102 = .ok (.sipush 1024, 3) := by decide +kernel
theorem dX7_makeOne_105 : decode cX7_makeOne 105 = .ok (.if_icmp .ge 92, 3) := by decide +kernel
theorem dX7_makeOne_108 : decode cX7_makeOne 108 = .ok (.iload_n 1, 1) := by decide +kernel
theorem dX7_makeOne_109 : decode cX7_makeOne 109 = .ok (.iload_n 3, 1) := by decide +kernel
theorem dX7_makeOne_110 : decode cX7_makeOne 110 = .ok (.iconst (-1), 1) := by decide +kernel
theorem dX7_makeOne_111 : decode cX7_makeOne 111 = .ok (.if_icmp .ne 7, 3) := by decide +kernel
theorem dX7_makeOne_114 : decode cX7_makeOne 114 = .ok (.lconst 0, 1) := by decide +kernel
theorem dX7_makeOne_115 : decode cX7_makeOne 115 = .ok (.goto 16, 3) := by decide +kernel
theorem dX7_makeOne_118 : decode cX7_makeOne 118 = .ok (.aload_n 0, 1) := by decide +kernel
theorem dX7_makeOne_119 : decode cX7_makeOne 119 = .ok (.getfield 23, 3) := by decide +kernel
theorem dX7_makeOne_122 : decode cX7_makeOne 122 = .ok (.sipush 1024, 3) := by decide +kernel
theorem dX7_makeOne_125 : decode cX7_makeOne 125 = .ok (.iload_n 3, 1) := by decide +kernel
theorem dX7_makeOne_126 : decode cX7_makeOne 126 = .ok (.imul, 1) := by decide +kernel
theorem dX7_makeOne_127 : decode cX7_makeOne 127 = .ok (.iload 6, 2) := by decide +kernel
theorem dX7_makeOne_129 : decode cX7_makeOne 129 = .ok (.iadd, 1) := by decide +kernel
theorem dX7_makeOne_130 : decode cX7_makeOne 130 = .ok (.laload, 1) := by decide +kernel
theorem dX7_makeOne_131 : decode cX7_makeOne 131 = .ok (.iload 4, 2) := by decide +kernel
theorem dX7_makeOne_133 : decode cX7_makeOne 133 = .ok (.iconst (-1), 1) := by decide +kernel
theorem dX7_makeOne_134 : decode cX7_makeOne 134 = .ok (.if_icmp .ne 7, 3) := by decide +kernel
theorem dX7_makeOne_137 : decode cX7_makeOne 137 = .ok (.lconst 0, 1) := by decide +kernel
theorem dX7_makeOne_138 : decode cX7_makeOne 138 = .ok (.goto 17, 3) := by decide +kernel
theorem dX7_makeOne_141 : decode cX7_makeOne 141 = .ok (.aload_n 0, 1) := by decide +kernel
theorem dX7_makeOne_142 : decode cX7_makeOne 142 = .ok (.getfield 23, 3) := by decide +kernel
theorem dX7_makeOne_145 : decode cX7_makeOne 145 = .ok (.sipush 1024, 3) := by decide +kernel
theorem dX7_makeOne_148 : decode cX7_makeOne 148 = .ok (.iload 4, 2) := by decide +kernel
theorem dX7_makeOne_150 : decode cX7_makeOne 150 = .ok (.imul, 1) := by decide +kernel
theorem dX7_makeOne_151 : decode cX7_makeOne 151 = .ok (.iload 6, 2) := by decide +kernel
theorem dX7_makeOne_153 : decode cX7_makeOne 153 = .ok (.iadd, 1) := by decide +kernel
theorem dX7_makeOne_154 : decode cX7_makeOne 154 = .ok (.laload, 1) := by decide +kernel
theorem dX7_makeOne_155 : decode cX7_makeOne 155 = .ok (.invokestatic 100, 3) := by decide +kernel
theorem dX7_makeOne_158 : decode cX7_makeOne 158 = .ok (.lstore 7, 2) := by decide +kernel
theorem dX7_makeOne_160 : decode cX7_makeOne 160 = .ok (.aload_n 0, 1) := by decide +kernel
theorem dX7_makeOne_161 : decode cX7_makeOne 161 = .ok (.getfield 23, 3) := by decide +kernel
theorem dX7_makeOne_164 : decode cX7_makeOne 164 = .ok (.sipush 1024, 3) := by decide +kernel
theorem dX7_makeOne_167 : decode cX7_makeOne 167 = .ok (.iload 5, 2) := by decide +kernel
theorem dX7_makeOne_169 : decode cX7_makeOne 169 = .ok (.imul, 1) := by decide +kernel
theorem dX7_makeOne_170 : decode cX7_makeOne 170 = .ok (.iload 6, 2) := by decide +kernel
theorem dX7_makeOne_172 : decode cX7_makeOne 172 = .ok (.iadd, 1) := by decide +kernel
theorem dX7_makeOne_173 : decode cX7_makeOne 173 = .ok (.lload 7, 2) := by decide +kernel
theorem dX7_makeOne_175 : decode cX7_makeOne 175 = .ok (.lastore, 1) := by decide +kernel
theorem dX7_makeOne_176 : decode cX7_makeOne 176 = .ok (.aload_n 0, 1) := by decide +kernel
theorem dX7_makeOne_177 : decode cX7_makeOne 177 = .ok (.getfield 19, 3) := by decide +kernel
theorem dX7_makeOne_180 : decode cX7_makeOne 180 = .ok (.iload 5, 2) := by decide +kernel
theorem dX7_makeOne_182 : decode cX7_makeOne 182 = .ok (.dup2, 1) := by decide +kernel
theorem dX7_makeOne_183 : decode cX7_makeOne 183 = .ok (.iaload, 1) := by decide +kernel
theorem dX7_makeOne_184 : decode cX7_makeOne 184 = .ok (.lload 7, 2) := by decide +kernel
theorem dX7_makeOne_186 : decode cX7_makeOne 186 = .ok (.invokestatic 54, 3) := by decide +kernel
theorem dX7_makeOne_189 : decode cX7_makeOne 189 = .ok (.iadd, 1) := by decide +kernel
theorem dX7_makeOne_190 : decode cX7_makeOne 190 = .ok (.iastore, 1) := by decide +kernel
theorem dX7_makeOne_191 : decode cX7_makeOne 191 = .ok (.iinc 6 1, 3) := by decide +kernel
theorem dX7_makeOne_194 : decode cX7_makeOne 194 = .ok (.goto (-94), 3) := by decide +kernel
theorem dX7_makeOne_197 : decode cX7_makeOne 197 = .ok (.aload_n 0, 1) := by decide +kernel
theorem dX7_makeOne_198 : decode cX7_makeOne 198 = .ok (.bipush 16, 2) := by decide +kernel
theorem dX7_makeOne_200 : decode cX7_makeOne 200 = .ok (.iload 5, 2) := by decide +kernel
theorem dX7_makeOne_202 : decode cX7_makeOne 202 = .ok (.invokevirtual 85, 3) := by decide +kernel
theorem dX7_makeOne_205 : decode cX7_makeOne 205 = .ok (.aload_n 0, 1) := by decide +kernel
theorem dX7_makeOne_206 : decode cX7_makeOne 206 = .ok (.getfield 19, 3) := by decide +kernel
theorem dX7_makeOne_209 : decode cX7_makeOne 209 = .ok (.iload 5, 2) := by decide +kernel
theorem dX7_makeOne_211 : decode cX7_makeOne 211 = .ok (.iaload, 1) := by decide +kernel
theorem dX7_makeOne_212 : decode cX7_makeOne 212 = .ok (.ifCond .le 57, 3) := by decide +kernel
theorem dX7_makeOne_215 : decode cX7_makeOne 215 = .ok (.aload_n 0, 1) := by decide +kernel
theorem dX7_makeOne_216 : decode cX7_makeOne 216 = .ok (.getfield 16, 3) := by decide +kernel
theorem dX7_makeOne_219 : decode cX7_makeOne 219 = .ok (.iload 5, 2) := by decide +kernel
theorem dX7_makeOne_221 : decode cX7_makeOne 221 = .ok (.aload_n 0, 1) := by decide +kernel
theorem dX7_makeOne_222 : decode cX7_makeOne 222 = .ok (.iload_n 3, 1) := by decide +kernel
theorem dX7_makeOne_223 : decode cX7_makeOne 223 = .ok (.iload 5, 2) := by decide +kernel
theorem dX7_makeOne_225 : decode cX7_makeOne 225 = .ok (.invokevirtual 104, 3) := by decide +kernel
theorem dX7_makeOne_228 : decode cX7_makeOne 228 = .ok (.ifCond .eq 12, 3) := by decide +kernel
theorem dX7_makeOne_231 : decode cX7_makeOne 231 = .ok (.aload_n 0, 1) := by decide +kernel
theorem dX7_makeOne_232 : decode cX7_makeOne 232 = .ok (.getfield 16, 3) := by decide +kernel
theorem dX7_makeOne_235 : decode cX7_makeOne 235 = .ok (.iload_n 3, 1) := by decide +kernel
theorem dX7_makeOne_236 : decode cX7_makeOne 236 = .ok (.iaload, 1) := by decide +kernel
theorem dX7_makeOne_237 : decode cX7_makeOne 237 = .ok (.goto 31, 3) := by decide +kernel
theorem dX7_makeOne_240 : decode cX7_makeOne 240 = .ok (.aload_n 0, 1) := by decide +kernel
theorem dX7_makeOne_241 : decode cX7_makeOne 241 = .ok (.iload 4, 2) := by decide +kernel
theorem dX7_makeOne_243 : decode cX7_makeOne 243 = .ok (.iload 5, 2) := by decide +kernel
theorem dX7_makeOne_245 : decode cX7_makeOne 245 = .ok (.invokevirtual 104, 3) := by decide +kernel
theorem dX7_makeOne_248 : decode cX7_makeOne 248 = .ok (.ifCond .eq 13, 3) := by decide +kernel
theorem dX7_makeOne_251 : decode cX7_makeOne 251 = .ok (.aload_n 0, 1) := by decide +kernel
theorem dX7_makeOne_252 : decode cX7_makeOne 252 = .ok (.getfield 16, 3) := by decide +kernel
theorem dX7_makeOne_255 : decode cX7_makeOne 255 = .ok (.iload 4, 2) := by decide +kernel
theorem dX7_makeOne_257 : decode cX7_makeOne 257 = .ok (.iaload, 1) := by decide +kernel
theorem dX7_makeOne_258 : decode cX7_makeOne 258 = .ok (.goto 10, 3) := by decide +kernel
theorem dX7_makeOne_261 : decode cX7_makeOne 261 = .ok (.aload_n 0, 1) := by decide +kernel
theorem dX7_makeOne_262 : decode cX7_makeOne 262 = .ok (.getfield 16, 3) := by decide +kernel
theorem dX7_makeOne_265 : decode cX7_makeOne 265 = .ok (.iload 5, 2) := by decide +kernel
theorem dX7_makeOne_267 : decode cX7_makeOne 267 = .ok (.iaload, 1) := by decide +kernel
theorem dX7_makeOne_268 : decode cX7_makeOne 268 = .ok (.iastore, 1) := by decide +kernel
theorem dX7_makeOne_269 : decode cX7_makeOne 269 = .ok (.iconst 1, 1) := by decide +kernel
theorem dX7_makeOne_270 : decode cX7_makeOne 270 = .ok (.ireturn, 1) := by decide +kernel
set_option maxRecDepth 20000 in
theorem ggX7_make_X7_makeOne : GoodIn wsX7_make wsX7_makeOne := goodIn_r _ [8, 1, 9, 10, 11, 12, 13, 7, 14, 15, 16, 17, 18, 19, 2, 20, 21, 22, 23, 24, 25, 26, 27, 28, 29, 30, 31, 32, 33, 34, 35, 36, 37, 38, 39, 40, 41, 42, 43, 44, 45, 46, 47, 48, 49, 50, 51, 52, 53, 54] rfl (by decide +kernel)
set_option maxRecDepth 20000 in
theorem gX7_make_X7_makeOne : GoodIn wsX7_make (wsV RX7 108 RX7 yX7_makeOne wsX7_makeOne) := goodIn_app (goodIn_of _ (by decide +kernel)) ggX7_make_X7_makeOne
theorem dX7_make_0 : decode cX7_make 0 = .ok (.aload_n 0, 1) := by decide +kernel
theorem dX7_make_1 : decode cX7_make 1 = .ok (.getfield 7, 3) := by decide +kernel
theorem dX7_make_4 : decode cX7_make 4 = .ok (.bipush 16, 2) := by decide +kernel
theorem dX7_make_6 : decode cX7_make 6 = .ok (.iconst 0, 1) := by decide +kernel
theorem dX7_make_7 : decode cX7_make 7 = .ok (.iastore, 1) := by decide +kernel
theorem dX7_make_8 : decode cX7_make 8 = .ok (.iconst 0, 1) := by decide +kernel
theorem dX7_make_9 : decode cX7_make 9 = .ok (.istore 4, 2) := by decide +kernel
theorem dX7_make_11 : decode cX7_make 11 = .ok (.iconst 0, 1) := by decide +kernel
theorem dX7_make_12 : decode cX7_make 12 = .ok (.istore 5, 2) := by decide +kernel
theorem dX7_make_14 : decode cX7_make 14 = .ok (.iload 4, 2) := by decide +kernel
theorem dX7_make_16 : decode cX7_make 16 = .ok (.aload_n 0, 1) := by decide +kernel
theorem dX7_make_17 : decode cX7_make 17 = .ok (.getfield 7, 3) := by decide +kernel
theorem dX7_make_20 : decode cX7_make 20 = .ok (.iload_n 2, 1) := by decide +kernel
theorem dX7_make_21 : decode cX7_make 21 = .ok (.iaload, 1) := by decide +kernel
theorem dX7_make_22 : decode cX7_make 22 = .ok (.if_icmp .lt 14, 3) := by decide +kernel
theorem dX7_make_25 : decode cX7_make 25 = .ok (.iload 5, 2) := by decide +kernel
theorem dX7_make_27 : decode cX7_make 27 = .ok (.aload_n 0, 1) := by decide +kernel
theorem dX7_make_28 : decode cX7_make 28 = .ok (.getfield 7, 3) := by decide +kernel
theorem dX7_make_31 : decode cX7_make 31 = .ok (.iload_n 3, 1) := by decide +kernel
theorem dX7_make_32 : decode cX7_make 32 = .ok (.iaload, 1) := by decide +kernel
theorem dX7_make_33 : decode cX7_make 33 = .ok (.if_icmp .ge 164, 3) := by decide +kernel
theorem dX7_make_36 : decode cX7_make 36 = .ok (.iload 4, 2) := by decide +kernel
theorem dX7_make_38 : decode cX7_make 38 = .ok (.aload_n 0, 1) := by decide +kernel
theorem dX7_make_39 : decode cX7_make 39 = .ok (.getfield 7, 3) := by decide +kernel
theorem dX7_make_42 : decode cX7_make 42 = .ok (.iload_n 2, 1) := by decide +kernel
theorem dX7_make_43 : decode cX7_make 43 = .ok (.iaload, 1) := by decide +kernel
theorem dX7_make_44 : decode cX7_make 44 = .ok (.if_icmp .ge 18, 3) := by decide +kernel
theorem dX7_make_47 : decode cX7_make 47 = .ok (.aload_n 0, 1) := by decide +kernel
theorem dX7_make_48 : decode cX7_make 48 = .ok (.getfield 13, 3) := by decide +kernel
theorem dX7_make_51 : decode cX7_make 51 = .ok (.bipush 6, 2) := by decide +kernel
theorem dX7_make_53 : decode cX7_make 53 = .ok (.iload_n 2, 1) := by decide +kernel
theorem dX7_make_54 : decode cX7_make 54 = .ok (.imul, 1) := by decide +kernel
theorem dX7_make_55 : decode cX7_make 55 = .ok (.iload 4, 2) := by decide +kernel
theorem dX7_make_57 : decode cX7_make 57 = .ok (.iadd, 1) := by decide +kernel
theorem dX7_make_58 : decode cX7_make 58 = .ok (.iaload, 1) := by decide +kernel
theorem dX7_make_59 : decode cX7_make 59 = .ok (.goto 5, 3) := by decide +kernel
theorem dX7_make_62 : decode cX7_make 62 = .ok (.ldc 107, 2) := by decide +kernel
theorem dX7_make_64 : decode cX7_make 64 = .ok (.istore 6, 2) := by decide +kernel
theorem dX7_make_66 : decode cX7_make 66 = .ok (.iload 5, 2) := by decide +kernel
theorem dX7_make_68 : decode cX7_make 68 = .ok (.aload_n 0, 1) := by decide +kernel
theorem dX7_make_69 : decode cX7_make 69 = .ok (.getfield 7, 3) := by decide +kernel
theorem dX7_make_72 : decode cX7_make 72 = .ok (.iload_n 3, 1) := by decide +kernel
theorem dX7_make_73 : decode cX7_make 73 = .ok (.iaload, 1) := by decide +kernel
theorem dX7_make_74 : decode cX7_make 74 = .ok (.if_icmp .ge 18, 3) := by decide +kernel
theorem dX7_make_77 : decode cX7_make 77 = .ok (.aload_n 0, 1) := by decide +kernel
theorem dX7_make_78 : decode cX7_make 78 = .ok (.getfield 13, 3) := by decide +kernel
theorem dX7_make_81 : decode cX7_make 81 = .ok (.bipush 6, 2) := by decide +kernel
theorem dX7_make_83 : decode cX7_make 83 = .ok (.iload_n 3, 1) := by decide +kernel
theorem dX7_make_84 : decode cX7_make 84 = .ok (.imul, 1) := by decide +kernel
theorem dX7_make_85 : decode cX7_make 85 = .ok (.iload 5, 2) := by decide +kernel
theorem dX7_make_87 : decode cX7_make 87 = .ok (.iadd, 1) := by decide +kernel
theorem dX7_make_88 : decode cX7_make 88 = .ok (.iaload, 1) := by decide +kernel
theorem dX7_make_89 : decode cX7_make 89 = .ok (.goto 5, 3) := by decide +kernel
theorem dX7_make_92 : decode cX7_make 92 = .ok (.ldc 107, 2) := by decide +kernel
theorem dX7_make_94 : decode cX7_make 94 = .ok (.istore 7, 2) := by decide +kernel
theorem dX7_make_96 : decode cX7_make 96 = .ok (.iload 6, 2) := by decide +kernel
theorem dX7_make_98 : decode cX7_make 98 = .ok (.iload 7, 2) := by decide +kernel
theorem dX7_make_100 : decode cX7_make 100 = .ok (.if_icmp .ge 8, 3) := by decide +kernel
theorem dX7_make_103 : decode cX7_make 103 = .ok (.iload 6, 2) := by decide +kernel
theorem dX7_make_105 : decode cX7_make 105 = .ok (.goto 5, 3) := by decide +kernel
theorem dX7_make_108 : decode cX7_make 108 = .ok (.iload 7, 2) := by decide +kernel
theorem dX7_make_110 : decode cX7_make 110 = .ok (.istore 8, 2) := by decide +kernel
theorem dX7_make_112 : decode cX7_make 112 = .ok (.aload_n 0, 1) := by decide +kernel
theorem dX7_make_113 : decode cX7_make 113 = .ok (.iload_n 1, 1) := by decide +kernel
theorem dX7_make_114 : decode cX7_make 114 = .ok (.iload 8, 2) := by decide +kernel
theorem dX7_make_116 : decode cX7_make 116 = .ok (.iload 6, 2) := by decide +kernel
theorem dX7_make_118 : decode cX7_make 118 = .ok (.iload 8, 2) := by decide +kernel
theorem dX7_make_120 : decode cX7_make 120 = .ok (.if_icmp .ne 13, 3) := by decide +kernel
theorem dX7_make_123 : decode cX7_make 123 = .ok (.bipush 6, 2) := by decide +kernel
theorem dX7_make_125 : decode cX7_make 125 = .ok (.iload_n 2, 1) := by decide +kernel
theorem dX7_make_126 : decode cX7_make 126 = .ok (.imul, 1) := by decide +kernel
theorem dX7_make_127 : decode cX7_make 127 = .ok (.iload 4, 2) := by decide +kernel
theorem dX7_make_129 : decode cX7_make 129 = .ok (.iadd, 1) := by decide +kernel
theorem dX7_make_130 : decode cX7_make 130 = .ok (.goto 4, 3) := by decide +kernel
theorem dX7_make_133 : decode cX7_make 133 = .ok (.iconst (-1), 1) := by decide +kernel
theorem dX7_make_134 : decode cX7_make 134 = .ok (.iload 7, 2) := by decide +kernel
theorem dX7_make_136 : decode cX7_make 136 = .ok (.iload 8, 2) := by decide +kernel
theorem dX7_make_138 : decode cX7_make 138 = .ok (.if_icmp .ne 13, 3) := by decide +kernel
theorem dX7_make_141 : decode cX7_make 141 = .ok (.bipush 6, 2) := by decide +kernel
theorem dX7_make_143 : decode cX7_make 143 = .ok (.iload_n 3, 1) := by decide +kernel
theorem dX7_make_144 : decode cX7_make 144 = .ok (.imul, 1) := by decide +kernel
theorem dX7_make_145 : decode cX7_make 145 = .ok (.iload 5, 2) := by decide +kernel
theorem dX7_make_147 : decode cX7_make 147 = .ok (.iadd, 1) := by decide +kernel
theorem dX7_make_148 : decode cX7_make 148 = .ok (.goto 4, 3) := by decide +kernel
theorem dX7_make_151 : decode cX7_make 151 = .ok (.iconst (-1), 1) := by decide +kernel
theorem dX7_make_152 : decode cX7_make 152 = .ok (.invokevirtual 108, 3) := by decide +kernel
theorem dX7_make_155 : decode cX7_make 155 = .ok (.ifCond .ne 5, 3) := by decide +kernel
theorem dX7_make_158 : decode cX7_make 158 = .ok (.iconst 0, 1) := by decide +kernel
theorem dX7_make_159 : decode cX7_make 159 = .ok (.ireturn, 1) := by decide +kernel
theorem dX7_make_160 : decode cX7_make 160 = .ok (.iload 4, 2) := by decide +kernel
theorem dX7_make_162 : decode cX7_make 162 = .ok (.iload 6, 2) := by decide +kernel
theorem dX7_make_164 : decode cX7_make 164 = .ok (.iload 8, 2) := by decide +kernel
theorem dX7_make_166 : decode cX7_make 166 = .ok (.if_icmp .ne 7, 3) := by decide +kernel
theorem dX7_make_169 : decode cX7_make 169 = .ok (.iconst 1, 1) := by decide +kernel
theorem dX7_make_170 : decode cX7_make 170 = .ok (.goto 4, 3) := by decide +kernel
theorem dX7_make_173 : decode cX7_make 173 = .ok (.iconst 0, 1) := by decide +kernel
theorem dX7_make_174 : decode cX7_make 174 = .ok (.iadd, 1) := by decide +kernel
theorem dX7_make_175 : decode cX7_make 175 = .ok (.istore 4, 2) := by decide +kernel
theorem dX7_make_177 : decode cX7_make 177 = .ok (.iload 5, 2) := by decide +kernel
theorem dX7_make_179 : decode cX7_make 179 = .ok (.iload 7, 2) := by decide +kernel
theorem dX7_make_181 : decode cX7_make 181 = .ok (.iload 8, 2) := by decide +kernel
theorem dX7_make_183 : decode cX7_make 183 = .ok (.if_icmp .ne 7, 3) := by decide +kernel
theorem dX7_make_186 : decode cX7_make 186 = .ok (.iconst 1, 1) := by decide +kernel
theorem dX7_make_187 : decode cX7_make 187 = .ok (.goto 4, 3) := by decide +kernel
theorem dX7_make_190 : decode cX7_make 190 = .ok (.iconst 0, 1) := by decide +kernel
theorem dX7_make_191 : decode cX7_make 191 = .ok (.iadd, 1) := by decide +kernel
theorem dX7_make_192 : decode cX7_make 192 = .ok (.istore 5, 2) := by decide +kernel
theorem dX7_make_194 : decode cX7_make 194 = .ok (.goto (-180), 3) := by decide +kernel
theorem dX7_make_197 : decode cX7_make 197 = .ok (.iconst 1, 1) := by decide +kernel
theorem dX7_make_198 : decode cX7_make 198 = .ok (.ireturn, 1) := by decide +kernel
set_option maxRecDepth 20000 in
theorem ggX7_join_X7_isSet : GoodIn wsX7_join wsX7_isSet := goodIn_r _ [6, 7, 8, 9, 5, 10] rfl (by decide +kernel)
set_option maxRecDepth 20000 in
theorem gX7_join_X7_isSet : GoodIn wsX7_join (va_wsS RX7 66 yX7_isSet wsX7_isSet) := goodIn_app (goodIn_of _ (by decide +kernel)) ggX7_join_X7_isSet
set_option maxRecDepth 20000 in
theorem ggX7_join_X7_in : GoodIn wsX7_join wsX7_in := goodIn_r _ [10] rfl (by decide +kernel)
set_option maxRecDepth 20000 in
theorem gX7_join_X7_in : GoodIn wsX7_join (va_wsS RX7 46 yX7_in wsX7_in) := goodIn_app (goodIn_of _ (by decide +kernel)) ggX7_join_X7_in
set_option maxRecDepth 20000 in
theorem ggX7_join_X7_make : GoodIn wsX7_join wsX7_make := goodIn_r _ [14, 15, 16, 17, 18, 19, 20, 5, 21, 22, 23, 24, 25, 26, 27, 28, 29, 30, 31, 32, 33, 34, 35, 36, 37, 38, 39, 40, 41, 42, 43, 44, 45, 46, 47, 48, 49, 50, 51, 60, 61, 62, 63, 64, 65, 66, 67, 68, 69, 70, 71, 72, 73, 74, 75] rfl (by decide +kernel)
set_option maxRecDepth 20000 in
theorem gX7_join_X7_make : GoodIn wsX7_join (wsV RX7 114 RX7 yX7_make wsX7_make) := goodIn_app (goodIn_of _ (by decide +kernel)) ggX7_join_X7_make
set_option maxRecDepth 20000 in
theorem ggX7_join_X7_copySet : GoodIn wsX7_join wsX7_copySet := goodIn_r _ [55, 15, 33, 34, 35, 5, 36, 16, 24, 23, 22, 60, 61, 62, 63, 64, 65, 66, 67, 68, 69, 70, 71, 72, 73, 74, 75] rfl (by decide +kernel)
set_option maxRecDepth 20000 in
theorem gX7_join_X7_copySet : GoodIn wsX7_join (wsV RX7 118 RX7 yX7_copySet wsX7_copySet) := goodIn_app (goodIn_of _ (by decide +kernel)) ggX7_join_X7_copySet
set_option maxRecDepth 20000 in
theorem ggX7_join_X7_all : GoodIn wsX7_join wsX7_all := goodIn_r _ [59, 15, 23, 60, 61, 62, 63, 64, 65, 66, 67, 68, 69, 70, 71, 72, 73, 74, 75] rfl (by decide +kernel)
set_option maxRecDepth 20000 in
theorem gX7_join_X7_all : GoodIn wsX7_join (wsV RX7 88 RX7 yX7_all wsX7_all) := goodIn_app (goodIn_of _ (by decide +kernel)) ggX7_join_X7_all
theorem dX7_join_0 : decode cX7_join 0 = .ok (.iload_n 1, 1) := by decide +kernel
theorem dX7_join_1 : decode cX7_join 1 = .ok (.invokestatic 66, 3) := by decide +kernel
theorem dX7_join_4 : decode cX7_join 4 = .ok (.ifCond .eq 30, 3) := by decide +kernel
theorem dX7_join_7 : decode cX7_join 7 = .ok (.iload_n 2, 1) := by decide +kernel
theorem dX7_join_8 : decode cX7_join 8 = .ok (.i2l, 1) := by decide +kernel
theorem dX7_join_9 : decode cX7_join 9 = .ok (.lconst 0, 1) := by decide +kernel
theorem dX7_join_10 : decode cX7_join 10 = .ok (.ldc2_w 112, 3) := by decide +kernel
theorem dX7_join_13 : decode cX7_join 13 = .ok (.invokestatic 46, 3) := by decide +kernel
theorem dX7_join_16 : decode cX7_join 16 = .ok (.ifCond .eq 18, 3) := by decide +kernel
theorem dX7_join_19 : decode cX7_join 19 = .ok (.iload_n 3, 1) := by decide +kernel
theorem dX7_join_20 : decode cX7_join 20 = .ok (.invokestatic 66, 3) := by decide +kernel
theorem dX7_join_23 : decode cX7_join 23 = .ok (.ifCond .eq 11, 3) := by decide +kernel
theorem dX7_join_26 : decode cX7_join 26 = .ok (.iload 4, 2) := by decide +kernel
theorem dX7_join_28 : decode cX7_join 28 = .ok (.invokestatic 66, 3) := by decide +kernel
theorem dX7_join_31 : decode cX7_join 31 = .ok (.ifCond .ne 6, 3) := by decide +kernel
theorem dX7_join_34 : decode cX7_join 34 = .ok (.bipush (-2), 2) := by decide +kernel
theorem dX7_join_36 : decode cX7_join 36 = .ok (.ireturn, 1) := by decide +kernel
theorem dX7_join_37 : decode cX7_join 37 = .ok (.aload_n 0, 1) := by decide +kernel
theorem dX7_join_38 : decode cX7_join 38 = .ok (.getfield 27, 3) := by decide +kernel
theorem dX7_join_41 : decode cX7_join 41 = .ok (.iconst 1, 1) := by decide +kernel
theorem dX7_join_42 : decode cX7_join 42 = .ok (.if_icmp .ge 6, 3) := by decide +kernel
theorem dX7_join_45 : decode cX7_join 45 = .ok (.bipush (-5), 2) := by decide +kernel
theorem dX7_join_47 : decode cX7_join 47 = .ok (.ireturn, 1) := by decide +kernel
theorem dX7_join_48 : decode cX7_join 48 = .ok (.aload_n 0, 1) := by decide +kernel
theorem dX7_join_49 : decode cX7_join 49 = .ok (.dup, 1) := by decide +kernel
theorem dX7_join_50 : decode cX7_join 50 = .ok (.getfield 27, 3) := by decide +kernel
theorem dX7_join_53 : decode cX7_join 53 = .ok (.iconst 1, 1) := by decide +kernel
theorem dX7_join_54 : decode cX7_join 54 = .ok (.isub, 1) := by decide +kernel
theorem dX7_join_55 : decode cX7_join 55 = .ok (.putfield 27, 3) := by decide +kernel
theorem dX7_join_58 : decode cX7_join 58 = .ok (.aload_n 0, 1) := by decide +kernel
theorem dX7_join_59 : decode cX7_join 59 = .ok (.iload_n 2, 1) := by decide +kernel
theorem dX7_join_60 : decode cX7_join 60 = .ok (.iload_n 3, 1) := by decide +kernel
theorem dX7_join_61 : decode cX7_join 61 = .ok (.iload 4, 2) := by decide +kernel
theorem dX7_join_63 : decode cX7_join 63 = .ok (.invokevirtual 114, 3) := by decide +kernel
theorem dX7_join_66 : decode cX7_join 66 = .ok (.ifCond .ne 6, 3) := by decide +kernel
theorem dX7_join_69 : decode cX7_join 69 = .ok (.bipush (-3), 2) := by decide +kernel
theorem dX7_join_71 : decode cX7_join 71 = .ok (.ireturn, 1) := by decide +kernel
theorem dX7_join_72 : decode cX7_join 72 = .ok (.aload_n 0, 1) := by decide +kernel
theorem dX7_join_73 : decode cX7_join 73 = .ok (.bipush 16, 2) := by decide +kernel
theorem dX7_join_75 : decode cX7_join 75 = .ok (.iload_n 1, 1) := by decide +kernel
theorem dX7_join_76 : decode cX7_join 76 = .ok (.invokevirtual 118, 3) := by decide +kernel
theorem dX7_join_79 : decode cX7_join 79 = .ok (.aload_n 0, 1) := by decide +kernel
theorem dX7_join_80 : decode cX7_join 80 = .ok (.iload_n 1, 1) := by decide +kernel
theorem dX7_join_81 : decode cX7_join 81 = .ok (.invokevirtual 88, 3) := by decide +kernel
theorem dX7_join_84 : decode cX7_join 84 = .ok (.ireturn, 1) := by decide +kernel
set_option maxRecDepth 20000 in
theorem ggX7_shrink_X7_isSet : GoodIn wsX7_shrink wsX7_isSet := goodIn_r _ [8, 9, 10, 11, 7, 12] rfl (by decide +kernel)
set_option maxRecDepth 20000 in
theorem gX7_shrink_X7_isSet : GoodIn wsX7_shrink (va_wsS RX7 66 yX7_isSet wsX7_isSet) := goodIn_app (goodIn_of _ (by decide +kernel)) ggX7_shrink_X7_isSet
set_option maxRecDepth 20000 in
theorem ggX7_shrink_X7_runsOf : GoodIn wsX7_shrink wsX7_runsOf := goodIn_r _ [16, 17, 18, 19, 20, 7, 21, 26, 27, 28, 29, 30, 31, 32, 33, 34, 35, 36, 37, 38, 39, 40, 41] rfl (by decide +kernel)
set_option maxRecDepth 20000 in
theorem gX7_shrink_X7_runsOf : GoodIn wsX7_shrink (wsV RX7 121 RX7 yX7_runsOf wsX7_runsOf) := goodIn_app (goodIn_of _ (by decide +kernel)) ggX7_shrink_X7_runsOf
set_option maxRecDepth 20000 in
theorem ggX7_shrink_X7_plainKind : GoodIn wsX7_shrink wsX7_plainKind := goodIn_r _ [25, 3, 26, 27, 28, 29, 30, 31, 32, 33, 34, 35, 36, 37, 38, 39, 40, 41] rfl (by decide +kernel)
set_option maxRecDepth 20000 in
theorem gX7_shrink_X7_plainKind : GoodIn wsX7_shrink (wsV RX7 62 RX7 yX7_plainKind wsX7_plainKind) := goodIn_app (goodIn_of _ (by decide +kernel)) ggX7_shrink_X7_plainKind
theorem dX7_shrink_0 : decode cX7_shrink 0 = .ok (.iload_n 1, 1) := by decide +kernel
theorem dX7_shrink_1 : decode cX7_shrink 1 = .ok (.invokestatic 66, 3) := by decide +kernel
theorem dX7_shrink_4 : decode cX7_shrink 4 = .ok (.ifCond .ne 6, 3) := by decide +kernel
theorem dX7_shrink_7 : decode cX7_shrink 7 = .ok (.bipush (-2), 2) := by decide +kernel
theorem dX7_shrink_9 : decode cX7_shrink 9 = .ok (.ireturn, 1) := by decide +kernel
theorem dX7_shrink_10 : decode cX7_shrink 10 = .ok (.aload_n 0, 1) := by decide +kernel
theorem dX7_shrink_11 : decode cX7_shrink 11 = .ok (.getfield 27, 3) := by decide +kernel
theorem dX7_shrink_14 : decode cX7_shrink 14 = .ok (.iconst 1, 1) := by decide +kernel
theorem dX7_shrink_15 : decode cX7_shrink 15 = .ok (.if_icmp .ge 6, 3) := by decide +kernel
theorem dX7_shrink_18 : decode cX7_shrink 18 = .ok (.bipush (-5), 2) := by decide +kernel
theorem dX7_shrink_20 : decode cX7_shrink 20 = .ok (.ireturn, 1) := by decide +kernel
theorem dX7_shrink_21 : decode cX7_shrink 21 = .ok (.aload_n 0, 1) := by decide +kernel
theorem dX7_shrink_22 : decode cX7_shrink 22 = .ok (.dup, 1) := by decide +kernel
theorem dX7_shrink_23 : decode cX7_shrink 23 = .ok (.getfield 27, 3) := by decide +kernel
theorem dX7_shrink_26 : decode cX7_shrink 26 = .ok (.iconst 1, 1) := by decide +kernel
theorem dX7_shrink_27 : decode cX7_shrink 27 = .ok (.isub, 1) := by decide +kernel
theorem dX7_shrink_28 : decode cX7_shrink 28 = .ok (.putfield 27, 3) := by decide +kernel
theorem dX7_shrink_31 : decode cX7_shrink 31 = .ok (.iconst 0, 1) := by decide +kernel
theorem dX7_shrink_32 : decode cX7_shrink 32 = .ok (.istore_n 2, 1) := by decide +kernel
theorem dX7_shrink_33 : decode cX7_shrink 33 = .ok (.iconst 0, 1) := by decide +kernel
theorem dX7_shrink_34 : decode cX7_shrink 34 = .ok (.istore_n 3, 1) := by decide +kernel
theorem dX7_shrink_35 : decode cX7_shrink 35 = .ok (.iload_n 3, 1) := by decide +kernel
theorem dX7_shrink_36 : decode cX7_shrink 36 = .ok (.aload_n 0, 1) := by decide +kernel
theorem dX7_shrink_37 : decode cX7_shrink 37 = .ok (.getfield 7, 3) := by decide +kernel
theorem dX7_shrink_40 : decode cX7_shrink 40 = .ok (.iload_n 1, 1) := by decide +kernel
theorem dX7_shrink_41 : decode cX7_shrink 41 = .ok (.iaload, 1) := by decide +kernel
theorem dX7_shrink_42 : decode cX7_shrink 42 = .ok (.if_icmp .ge 98, 3) := by decide +kernel
theorem dX7_shrink_45 : decode cX7_shrink 45 = .ok (.bipush 6, 2) := by decide +kernel
theorem dX7_shrink_47 : decode cX7_shrink 47 = .ok (.iload_n 1, 1) := by decide +kernel
theorem dX7_shrink_48 : decode cX7_shrink 48 = .ok (.imul, 1) := by decide +kernel
theorem dX7_shrink_49 : decode cX7_shrink 49 = .ok (.iload_n 3, 1) := by decide +kernel
theorem dX7_shrink_50 : decode cX7_shrink 50 = .ok (.iadd, 1) := by decide +kernel
theorem dX7_shrink_51 : decode cX7_shrink 51 = .ok (.istore 4, 2) := by decide +kernel
theorem dX7_shrink_53 : decode cX7_shrink 53 = .ok (.aload_n 0, 1) := by decide +kernel
theorem dX7_shrink_54 : decode cX7_shrink 54 = .ok (.getfield 19, 3) := by decide +kernel
theorem dX7_shrink_57 : decode cX7_shrink 57 = .ok (.iload 4, 2) := by decide +kernel
theorem dX7_shrink_59 : decode cX7_shrink 59 = .ok (.iaload, 1) := by decide +kernel
theorem dX7_shrink_60 : decode cX7_shrink 60 = .ok (.sipush 4096, 3) := by decide +kernel
theorem dX7_shrink_63 : decode cX7_shrink 63 = .ok (.if_icmp .gt 15, 3) := by decide +kernel
theorem dX7_shrink_66 : decode cX7_shrink 66 = .ok (.iconst 2, 1) := by decide +kernel
theorem dX7_shrink_67 : decode cX7_shrink 67 = .ok (.aload_n 0, 1) := by decide +kernel
theorem dX7_shrink_68 : decode cX7_shrink 68 = .ok (.getfield 19, 3) := by decide +kernel
theorem dX7_shrink_71 : decode cX7_shrink 71 = .ok (.iload 4, 2) := by decide +kernel
theorem dX7_shrink_73 : decode cX7_shrink 73 = .ok (.iaload, 1) := by decide +kernel
theorem dX7_shrink_74 : decode cX7_shrink 74 = .ok (.imul, 1) := by decide +kernel
theorem dX7_shrink_75 : decode cX7_shrink 75 = .ok (.goto 6, 3) := by decide +kernel
theorem dX7_shrink_78 : decode cX7_shrink 78 = .ok (.sipush 8192, 3) := by decide +kernel
theorem dX7_shrink_81 : decode cX7_shrink 81 = .ok (.istore 5, 2) := by decide +kernel
theorem dX7_shrink_83 : decode cX7_shrink 83 = .ok (.aload_n 0, 1) := by decide +kernel
theorem dX7_shrink_84 : decode cX7_shrink 84 = .ok (.getfield 16, 3) := by decide +kernel
theorem dX7_shrink_87 : decode cX7_shrink 87 = .ok (.iload 4, 2) := by decide +kernel
theorem dX7_shrink_89 : decode cX7_shrink 89 = .ok (.iconst 2, 1) := by decide +kernel
theorem dX7_shrink_90 : decode cX7_shrink 90 = .ok (.iconst 4, 1) := by decide +kernel
theorem dX7_shrink_91 : decode cX7_shrink 91 = .ok (.aload_n 0, 1) := by decide +kernel
theorem dX7_shrink_92 : decode cX7_shrink 92 = .ok (.iload 4, 2) := by decide +kernel
theorem dX7_shrink_94 : decode cX7_shrink 94 = .ok (.invokevirtual 121, 3) := by decide +kernel
theorem dX7_shrink_97 : decode cX7_shrink 97 = .ok (.imul, 1) := by decide +kernel
theorem dX7_shrink_98 : decode cX7_shrink 98 = .ok (.iadd, 1) := by decide +kernel
theorem dX7_shrink_99 : decode cX7_shrink 99 = .ok (.iload 5, 2) := by decide +kernel
theorem dX7_shrink_101 : decode cX7_shrink 101 = .ok (.if_icmp .ge 7, 3) := by decide +kernel
theorem dX7_shrink_104 : decode cX7_shrink 104 = .ok (.iconst 2, 1) := by decide +kernel
theorem dX7_shrink_105 : decode cX7_shrink 105 = .ok (.goto 9, 3) := by decide +kernel
theorem dX7_shrink_108 : decode cX7_shrink 108 = .ok (.aload_n 0, 1) := by decide +kernel
theorem dX7_shrink_109 : decode cX7_shrink 109 = .ok (.iload 4, 2) := by decide +kernel
theorem dX7_shrink_111 : decode cX7_shrink 111 = .ok (.invokevirtual 62, 3) := by decide +kernel
theorem dX7_shrink_114 : decode cX7_shrink 114 = .ok (.iastore, 1) := by decide +kernel
theorem dX7_shrink_115 : decode cX7_shrink 115 = .ok (.iload_n 2, 1) := by decide +kernel
theorem dX7_shrink_116 : decode cX7_shrink 116 = .ok (.aload_n 0, 1) := by decide +kernel
theorem dX7_shrink_117 : decode cX7_shrink 117 = .ok (.getfield 16, 3) := by decide +kernel
theorem dX7_shrink_120 : decode cX7_shrink 120 = .ok (.iload 4, 2) := by decide +kernel
theorem dX7_shrink_122 : decode cX7_shrink 122 = .ok (.iaload, 1) := by decide +kernel
theorem dX7_shrink_123 : decode cX7_shrink 123 = .ok (.iconst 2, 1) := by decide +kernel
theorem dX7_shrink_124 : decode cX7_shrink 124 = .ok (.if_icmp .ne 7, 3) := by decide +kernel
theorem dX7_shrink_127 : decode cX7_shrink 127 = .ok (.iconst 1, 1) := by decide +kernel
theorem dX7_shrink_128 : decode cX7_shrink 128 = .ok (.goto 4, 3) := by decide +kernel
theorem dX7_shrink_131 : decode cX7_shrink 131 = .ok (.iconst 0, 1) := by decide +kernel
theorem dX7_shrink_132 : decode cX7_shrink 132 = .ok (.iadd, 1) := by decide +kernel
theorem dX7_shrink_133 : decode cX7_shrink 133 = .ok (.istore_n 2, 1) := by decide +kernel
theorem dX7_shrink_134 : decode cX7_shrink 134 = .ok (.iinc 3 1, 3) := by decide +kernel
theorem dX7_shrink_137 : decode cX7_shrink 137 = .ok (.goto (-102), 3) := by decide +kernel
theorem dX7_shrink_140 : decode cX7_shrink 140 = .ok (.iload_n 2, 1) := by decide +kernel
theorem dX7_shrink_141 : decode cX7_shrink 141 = .ok (.ireturn, 1) := by decide +kernel
set_option maxRecDepth 20000 in
theorem ggX7_isFormula_X7_in : GoodIn wsX7_isFormula wsX7_in := goodIn_r _ [8] rfl (by decide +kernel)
set_option maxRecDepth 20000 in
theorem gX7_isFormula_X7_in : GoodIn wsX7_isFormula (va_wsS RX7 46 yX7_in wsX7_in) := goodIn_app (goodIn_of _ (by decide +kernel)) ggX7_isFormula_X7_in
theorem dX7_isFormula_0 : decode cX7_isFormula 0 = .ok (.iconst 0, 1) := by decide +kernel
theorem dX7_isFormula_1 : decode cX7_isFormula 1 = .ok (.istore_n 3, 1) := by decide +kernel
theorem dX7_isFormula_2 : decode cX7_isFormula 2 = .ok (.iconst 0, 1) := by decide +kernel
theorem dX7_isFormula_3 : decode cX7_isFormula 3 = .ok (.istore 4, 2) := by decide +kernel
theorem dX7_isFormula_5 : decode cX7_isFormula 5 = .ok (.iload 4, 2) := by decide +kernel
theorem dX7_isFormula_7 : decode cX7_isFormula 7 = .ok (.iload_n 2, 1) := by decide +kernel
theorem dX7_isFormula_8 : decode cX7_isFormula 8 = .ok (.if_icmp .ge 95, 3) := by decide +kernel
theorem dX7_isFormula_11 : decode cX7_isFormula 11 = .ok (.lload_n 0, 1) := by decide +kernel
theorem dX7_isFormula_12 : decode cX7_isFormula 12 = .ok (.bipush 8, 2) := by decide +kernel
theorem dX7_isFormula_14 : decode cX7_isFormula 14 = .ok (.iload 4, 2) := by decide +kernel
theorem dX7_isFormula_16 : decode cX7_isFormula 16 = .ok (.imul, 1) := by decide +kernel
theorem dX7_isFormula_17 : decode cX7_isFormula 17 = .ok (.lushr, 1) := by decide +kernel
theorem dX7_isFormula_18 : decode cX7_isFormula 18 = .ok (.ldc2_w 124, 3) := by decide +kernel
theorem dX7_isFormula_21 : decode cX7_isFormula 21 = .ok (.land, 1) := by decide +kernel
theorem dX7_isFormula_22 : decode cX7_isFormula 22 = .ok (.l2i, 1) := by decide +kernel
theorem dX7_isFormula_23 : decode cX7_isFormula 23 = .ok (.istore 5, 2) := by decide +kernel
theorem dX7_isFormula_25 : decode cX7_isFormula 25 = .ok (.iload 5, 2) := by decide +kernel
theorem dX7_isFormula_27 : decode cX7_isFormula 27 = .ok (.i2l, 1) := by decide +kernel
theorem dX7_isFormula_28 : decode cX7_isFormula 28 = .ok (.ldc2_w 126, 3) := by decide +kernel
theorem dX7_isFormula_31 : decode cX7_isFormula 31 = .ok (.ldc2_w 128, 3) := by decide +kernel
theorem dX7_isFormula_34 : decode cX7_isFormula 34 = .ok (.invokestatic 46, 3) := by decide +kernel
theorem dX7_isFormula_37 : decode cX7_isFormula 37 = .ok (.ifCond .eq 16, 3) := by decide +kernel
theorem dX7_isFormula_40 : decode cX7_isFormula 40 = .ok (.iload_n 3, 1) := by decide +kernel
theorem dX7_isFormula_41 : decode cX7_isFormula 41 = .ok (.iconst 2, 1) := by decide +kernel
theorem dX7_isFormula_42 : decode cX7_isFormula 42 = .ok (.if_icmp .ge 5, 3) := by decide +kernel
theorem dX7_isFormula_45 : decode cX7_isFormula 45 = .ok (.iconst 0, 1) := by decide +kernel
theorem dX7_isFormula_46 : decode cX7_isFormula 46 = .ok (.ireturn, 1) := by decide +kernel
theorem dX7_isFormula_47 : decode cX7_isFormula 47 = .ok (.iinc 3 (-1), 3) := by decide +kernel
theorem dX7_isFormula_50 : decode cX7_isFormula 50 = .ok (.goto 47, 3) := by decide +kernel
theorem dX7_isFormula_53 : decode cX7_isFormula 53 = .ok (.iload 5, 2) := by decide +kernel
theorem dX7_isFormula_55 : decode cX7_isFormula 55 = .ok (.i2l, 1) := by decide +kernel
theorem dX7_isFormula_56 : decode cX7_isFormula 56 = .ok (.lconst 0, 1) := by decide +kernel
theorem dX7_isFormula_57 : decode cX7_isFormula 57 = .ok (.ldc2_w 44, 3) := by decide +kernel
theorem dX7_isFormula_60 : decode cX7_isFormula 60 = .ok (.invokestatic 46, 3) := by decide +kernel
theorem dX7_isFormula_63 : decode cX7_isFormula 63 = .ok (.ifCond .ne 10, 3) := by decide +kernel
theorem dX7_isFormula_66 : decode cX7_isFormula 66 = .ok (.iload 5, 2) := by decide +kernel
theorem dX7_isFormula_68 : decode cX7_isFormula 68 = .ok (.bipush 20, 2) := by decide +kernel
theorem dX7_isFormula_70 : decode cX7_isFormula 70 = .ok (.if_icmp .ne 17, 3) := by decide +kernel
theorem dX7_isFormula_73 : decode cX7_isFormula 73 = .ok (.iload_n 3, 1) := by decide +kernel
theorem dX7_isFormula_74 : decode cX7_isFormula 74 = .ok (.bipush 8, 2) := by decide +kernel
theorem dX7_isFormula_76 : decode cX7_isFormula 76 = .ok (.if_icmp .ne 5, 3) := by decide +kernel
theorem dX7_isFormula_79 : decode cX7_isFormula 79 = .ok (.iconst 0, 1) := by decide +kernel
theorem dX7_isFormula_80 : decode cX7_isFormula 80 = .ok (.ireturn, 1) := by decide +kernel
theorem dX7_isFormula_81 : decode cX7_isFormula 81 = .ok (.iinc 3 1, 3) := by decide +kernel
theorem dX7_isFormula_84 : decode cX7_isFormula 84 = .ok (.goto 13, 3) := by decide +kernel
theorem dX7_isFormula_87 : decode cX7_isFormula 87 = .ok (.iload 5, 2) := by decide +kernel
theorem dX7_isFormula_89 : decode cX7_isFormula 89 = .ok (.sipush 255, 3) := by decide +kernel
theorem dX7_isFormula_92 : decode cX7_isFormula 92 = .ok (.if_icmp .eq 5, 3) := by decide +kernel
theorem dX7_isFormula_95 : decode cX7_isFormula 95 = .ok (.iconst 0, 1) := by decide +kernel
theorem dX7_isFormula_96 : decode cX7_isFormula 96 = .ok (.ireturn, 1) := by decide +kernel
theorem dX7_isFormula_97 : decode cX7_isFormula 97 = .ok (.iinc 4 1, 3) := by decide +kernel
theorem dX7_isFormula_100 : decode cX7_isFormula 100 = .ok (.goto (-95), 3) := by decide +kernel
theorem dX7_isFormula_103 : decode cX7_isFormula 103 = .ok (.iload_n 3, 1) := by decide +kernel
theorem dX7_isFormula_104 : decode cX7_isFormula 104 = .ok (.iconst 1, 1) := by decide +kernel
theorem dX7_isFormula_105 : decode cX7_isFormula 105 = .ok (.if_icmp .ne 7, 3) := by decide +kernel
theorem dX7_isFormula_108 : decode cX7_isFormula 108 = .ok (.iconst 1, 1) := by decide +kernel
theorem dX7_isFormula_109 : decode cX7_isFormula 109 = .ok (.goto 4, 3) := by decide +kernel
theorem dX7_isFormula_112 : decode cX7_isFormula 112 = .ok (.iconst 0, 1) := by decide +kernel
theorem dX7_isFormula_113 : decode cX7_isFormula 113 = .ok (.ireturn, 1) := by decide +kernel
set_option maxRecDepth 20000 in
theorem ggX7_layAll_X7_made : GoodIn wsX7_layAll wsX7_made := goodIn_r _ [11, 1, 12, 6, 4, 2, 13, 14, 15, 10, 16, 17, 18, 19, 20, 21, 22, 23, 24, 25, 26, 27, 28, 29, 30, 31, 32] rfl (by decide +kernel)
set_option maxRecDepth 20000 in
theorem gX7_layAll_X7_made : GoodIn wsX7_layAll (wsV RX7 79 RX7 yX7_made wsX7_made) := goodIn_app (goodIn_of _ (by decide +kernel)) ggX7_layAll_X7_made
theorem dX7_layAll_0 : decode cX7_layAll 0 = .ok (.aload_n 0, 1) := by decide +kernel
theorem dX7_layAll_1 : decode cX7_layAll 1 = .ok (.getfield 7, 3) := by decide +kernel
theorem dX7_layAll_4 : decode cX7_layAll 4 = .ok (.iload_n 1, 1) := by decide +kernel
theorem dX7_layAll_5 : decode cX7_layAll 5 = .ok (.iconst 0, 1) := by decide +kernel
theorem dX7_layAll_6 : decode cX7_layAll 6 = .ok (.iastore, 1) := by decide +kernel
theorem dX7_layAll_7 : decode cX7_layAll 7 = .ok (.aload_n 0, 1) := by decide +kernel
theorem dX7_layAll_8 : decode cX7_layAll 8 = .ok (.iload_n 1, 1) := by decide +kernel
theorem dX7_layAll_9 : decode cX7_layAll 9 = .ok (.iconst 0, 1) := by decide +kernel
theorem dX7_layAll_10 : decode cX7_layAll 10 = .ok (.invokevirtual 79, 3) := by decide +kernel
theorem dX7_layAll_13 : decode cX7_layAll 13 = .ok (.istore_n 2, 1) := by decide +kernel
theorem dX7_layAll_14 : decode cX7_layAll 14 = .ok (.iconst 0, 1) := by decide +kernel
theorem dX7_layAll_15 : decode cX7_layAll 15 = .ok (.istore_n 3, 1) := by decide +kernel
theorem dX7_layAll_16 : decode cX7_layAll 16 = .ok (.iload_n 3, 1) := by decide +kernel
theorem dX7_layAll_17 : decode cX7_layAll 17 = .ok (.sipush 1024, 3) := by decide +kernel
theorem dX7_layAll_20 : decode cX7_layAll 20 = .ok (.if_icmp .ge 24, 3) := by decide +kernel
theorem dX7_layAll_23 : decode cX7_layAll 23 = .ok (.aload_n 0, 1) := by decide +kernel
theorem dX7_layAll_24 : decode cX7_layAll 24 = .ok (.getfield 23, 3) := by decide +kernel
theorem dX7_layAll_27 : decode cX7_layAll 27 = .ok (.sipush 1024, 3) := by decide +kernel
theorem dX7_layAll_30 : decode cX7_layAll 30 = .ok (.iload_n 2, 1) := by decide +kernel
theorem dX7_layAll_31 : decode cX7_layAll 31 = .ok (.imul, 1) := by decide +kernel
theorem dX7_layAll_32 : decode cX7_layAll 32 = .ok (.iload_n 3, 1) := by decide +kernel
theorem dX7_layAll_33 : decode cX7_layAll 33 = .ok (.iadd, 1) := by decide +kernel
theorem dX7_layAll_34 : decode cX7_layAll 34 = .ok (.ldc2_w 52, 3) := by decide +kernel
theorem dX7_layAll_37 : decode cX7_layAll 37 = .ok (.lastore, 1) := by decide +kernel
theorem dX7_layAll_38 : decode cX7_layAll 38 = .ok (.iinc 3 1, 3) := by decide +kernel
theorem dX7_layAll_41 : decode cX7_layAll 41 = .ok (.goto (-25), 3) := by decide +kernel
theorem dX7_layAll_44 : decode cX7_layAll 44 = .ok (.aload_n 0, 1) := by decide +kernel
theorem dX7_layAll_45 : decode cX7_layAll 45 = .ok (.getfield 19, 3) := by decide +kernel
theorem dX7_layAll_48 : decode cX7_layAll 48 = .ok (.iload_n 2, 1) := by decide +kernel
theorem dX7_layAll_49 : decode cX7_layAll 49 = .ok (.ldc 107, 2) := by decide +kernel
theorem dX7_layAll_51 : decode cX7_layAll 51 = .ok (.iastore, 1) := by decide +kernel
theorem dX7_layAll_52 : decode cX7_layAll 52 = .ok (.aload_n 0, 1) := by decide +kernel
theorem dX7_layAll_53 : decode cX7_layAll 53 = .ok (.getfield 16, 3) := by decide +kernel
theorem dX7_layAll_56 : decode cX7_layAll 56 = .ok (.iload_n 2, 1) := by decide +kernel
theorem dX7_layAll_57 : decode cX7_layAll 57 = .ok (.iconst 1, 1) := by decide +kernel
theorem dX7_layAll_58 : decode cX7_layAll 58 = .ok (.iastore, 1) := by decide +kernel
theorem dX7_layAll_59 : decode cX7_layAll 59 = .ok (.return_, 1) := by decide +kernel
set_option maxRecDepth 20000 in
theorem ggX7_formula_X7_isSet : GoodIn wsX7_formula wsX7_isSet := goodIn_r _ [9, 10, 11, 12, 8, 13] rfl (by decide +kernel)
set_option maxRecDepth 20000 in
theorem gX7_formula_X7_isSet : GoodIn wsX7_formula (va_wsS RX7 66 yX7_isSet wsX7_isSet) := goodIn_app (goodIn_of _ (by decide +kernel)) ggX7_formula_X7_isSet
set_option maxRecDepth 20000 in
theorem ggX7_formula_X7_in : GoodIn wsX7_formula wsX7_in := goodIn_r _ [13] rfl (by decide +kernel)
set_option maxRecDepth 20000 in
theorem gX7_formula_X7_in : GoodIn wsX7_formula (va_wsS RX7 46 yX7_in wsX7_in) := goodIn_app (goodIn_of _ (by decide +kernel)) ggX7_formula_X7_in
set_option maxRecDepth 20000 in
theorem ggX7_formula_X7_isFormula : GoodIn wsX7_formula wsX7_isFormula := goodIn_r _ [16, 3, 4, 5, 10, 11, 12, 8, 13] rfl (by decide +kernel)
set_option maxRecDepth 20000 in
theorem gX7_formula_X7_isFormula : GoodIn wsX7_formula (va_wsS RX7 132 yX7_isFormula wsX7_isFormula) := goodIn_app (goodIn_of _ (by decide +kernel)) ggX7_formula_X7_isFormula
set_option maxRecDepth 20000 in
theorem ggX7_formula_X7_make : GoodIn wsX7_formula wsX7_make := goodIn_r _ [20, 21, 22, 23, 24, 25, 26, 8, 27, 28, 29, 30, 31, 32, 33, 34, 35, 36, 37, 38, 39, 40, 41, 42, 43, 44, 45, 46, 47, 48, 49, 50, 51, 52, 53, 54, 55, 56, 57, 70, 71, 72, 73, 74, 75, 76, 77, 78, 79, 80, 81, 82, 83, 84, 85] rfl (by decide +kernel)
set_option maxRecDepth 20000 in
theorem gX7_formula_X7_make : GoodIn wsX7_formula (wsV RX7 114 RX7 yX7_make wsX7_make) := goodIn_app (goodIn_of _ (by decide +kernel)) ggX7_formula_X7_make
set_option maxRecDepth 20000 in
theorem ggX7_formula_X7_copySet : GoodIn wsX7_formula wsX7_copySet := goodIn_r _ [61, 21, 39, 40, 41, 8, 42, 22, 30, 29, 28, 70, 71, 72, 73, 74, 75, 76, 77, 78, 79, 80, 81, 82, 83, 84, 85] rfl (by decide +kernel)
set_option maxRecDepth 20000 in
theorem gX7_formula_X7_copySet : GoodIn wsX7_formula (wsV RX7 118 RX7 yX7_copySet wsX7_copySet) := goodIn_app (goodIn_of _ (by decide +kernel)) ggX7_formula_X7_copySet
set_option maxRecDepth 20000 in
theorem ggX7_formula_X7_layAll : GoodIn wsX7_formula wsX7_layAll := goodIn_r _ [65, 21, 28, 34, 29, 23, 30, 35, 36, 37, 8, 38, 22, 39, 40, 41, 42, 70, 71, 72, 73, 74, 75, 76, 77, 78, 79, 80, 81, 82, 83, 84, 85] rfl (by decide +kernel)
set_option maxRecDepth 20000 in
theorem gX7_formula_X7_layAll : GoodIn wsX7_formula (wsV RX7 136 RX7 yX7_layAll wsX7_layAll) := goodIn_app (goodIn_of _ (by decide +kernel)) ggX7_formula_X7_layAll
set_option maxRecDepth 20000 in
theorem ggX7_formula_X7_all : GoodIn wsX7_formula wsX7_all := goodIn_r _ [69, 21, 29, 70, 71, 72, 73, 74, 75, 76, 77, 78, 79, 80, 81, 82, 83, 84, 85] rfl (by decide +kernel)
set_option maxRecDepth 20000 in
theorem gX7_formula_X7_all : GoodIn wsX7_formula (wsV RX7 88 RX7 yX7_all wsX7_all) := goodIn_app (goodIn_of _ (by decide +kernel)) ggX7_formula_X7_all
theorem dX7_formula_0 : decode cX7_formula 0 = .ok (.iload_n 1, 1) := by decide +kernel
theorem dX7_formula_1 : decode cX7_formula 1 = .ok (.invokestatic 66, 3) := by decide +kernel
theorem dX7_formula_4 : decode cX7_formula 4 = .ok (.ifCond .eq 25, 3) := by decide +kernel
theorem dX7_formula_7 : decode cX7_formula 7 = .ok (.iload 4, 2) := by decide +kernel
theorem dX7_formula_9 : decode cX7_formula 9 = .ok (.i2l, 1) := by decide +kernel
theorem dX7_formula_10 : decode cX7_formula 10 = .ok (.lconst 1, 1) := by decide +kernel
theorem dX7_formula_11 : decode cX7_formula 11 = .ok (.ldc2_w 130, 3) := by decide +kernel
theorem dX7_formula_14 : decode cX7_formula 14 = .ok (.invokestatic 46, 3) := by decide +kernel
theorem dX7_formula_17 : decode cX7_formula 17 = .ok (.ifCond .eq 12, 3) := by decide +kernel
theorem dX7_formula_20 : decode cX7_formula 20 = .ok (.lload_n 2, 1) := by decide +kernel
theorem dX7_formula_21 : decode cX7_formula 21 = .ok (.iload 4, 2) := by decide +kernel
theorem dX7_formula_23 : decode cX7_formula 23 = .ok (.invokestatic 132, 3) := by decide +kernel
theorem dX7_formula_26 : decode cX7_formula 26 = .ok (.ifCond .ne 6, 3) := by decide +kernel
theorem dX7_formula_29 : decode cX7_formula 29 = .ok (.bipush (-2), 2) := by decide +kernel
theorem dX7_formula_31 : decode cX7_formula 31 = .ok (.ireturn, 1) := by decide +kernel
theorem dX7_formula_32 : decode cX7_formula 32 = .ok (.aload_n 0, 1) := by decide +kernel
theorem dX7_formula_33 : decode cX7_formula 33 = .ok (.getfield 27, 3) := by decide +kernel
theorem dX7_formula_36 : decode cX7_formula 36 = .ok (.iload 4, 2) := by decide +kernel
theorem dX7_formula_38 : decode cX7_formula 38 = .ok (.if_icmp .ge 6, 3) := by decide +kernel
theorem dX7_formula_41 : decode cX7_formula 41 = .ok (.bipush (-5), 2) := by decide +kernel
theorem dX7_formula_43 : decode cX7_formula 43 = .ok (.ireturn, 1) := by decide +kernel
theorem dX7_formula_44 : decode cX7_formula 44 = .ok (.aload_n 0, 1) := by decide +kernel
theorem dX7_formula_45 : decode cX7_formula 45 = .ok (.dup, 1) := by decide +kernel
theorem dX7_formula_46 : decode cX7_formula 46 = .ok (.getfield 27, 3) := by decide +kernel
theorem dX7_formula_49 : decode cX7_formula 49 = .ok (.iload 4, 2) := by decide +kernel
theorem dX7_formula_51 : decode cX7_formula 51 = .ok (.isub, 1) := by decide +kernel
theorem dX7_formula_52 : decode cX7_formula 52 = .ok (.putfield 27, 3) := by decide +kernel
theorem dX7_formula_55 : decode cX7_formula 55 = .ok (.bipush 8, 2) := by decide +kernel
theorem dX7_formula_57 : decode cX7_formula 57 = .ok (.istore 5, 2) := by decide +kernel
theorem dX7_formula_59 : decode cX7_formula 59 = .ok (.iconst 0, 1) := by decide +kernel
theorem dX7_formula_60 : decode cX7_formula 60 = .ok (.istore 6, 2) := by decide +kernel
theorem dX7_formula_62 : decode cX7_formula 62 = .ok (.iload 6, 2) := by decide +kernel
theorem dX7_formula_64 : decode cX7_formula 64 = .ok (.iload 4, 2) := by decide +kernel
theorem dX7_formula_66 : decode cX7_formula 66 = .ok (.if_icmp .ge 113, 3) := by decide +kernel
theorem dX7_formula_69 : decode cX7_formula 69 = .ok (.lload_n 2, 1) := by decide +kernel
theorem dX7_formula_70 : decode cX7_formula 70 = .ok (.bipush 8, 2) := by decide +kernel
theorem dX7_formula_72 : decode cX7_formula 72 = .ok (.iload 6, 2) := by decide +kernel
theorem dX7_formula_74 : decode cX7_formula 74 = .ok (.imul, 1) := by decide +kernel
theorem dX7_formula_75 : decode cX7_formula 75 = .ok (.lushr, 1) := by decide +kernel
theorem dX7_formula_76 : decode cX7_formula 76 = .ok (.ldc2_w 124, 3) := by decide +kernel
theorem dX7_formula_79 : decode cX7_formula 79 = .ok (.land, 1) := by decide +kernel
theorem dX7_formula_80 : decode cX7_formula 80 = .ok (.l2i, 1) := by decide +kernel
theorem dX7_formula_81 : decode cX7_formula 81 = .ok (.istore 7, 2) := by decide +kernel
theorem dX7_formula_83 : decode cX7_formula 83 = .ok (.iload 7, 2) := by decide +kernel
theorem dX7_formula_85 : decode cX7_formula 85 = .ok (.i2l, 1) := by decide +kernel
theorem dX7_formula_86 : decode cX7_formula 86 = .ok (.ldc2_w 126, 3) := by decide +kernel
theorem dX7_formula_89 : decode cX7_formula 89 = .ok (.ldc2_w 128, 3) := by decide +kernel
theorem dX7_formula_92 : decode cX7_formula 92 = .ok (.invokestatic 46, 3) := by decide +kernel
theorem dX7_formula_95 : decode cX7_formula 95 = .ok (.ifCond .eq 40, 3) := by decide +kernel
theorem dX7_formula_98 : decode cX7_formula 98 = .ok (.iinc 5 (-1), 3) := by decide +kernel
theorem dX7_formula_101 : decode cX7_formula 101 = .ok (.aload_n 0, 1) := by decide +kernel
theorem dX7_formula_102 : decode cX7_formula 102 = .ok (.iload 7, 2) := by decide +kernel
theorem dX7_formula_104 : decode cX7_formula 104 = .ok (.bipush 16, 2) := by decide +kernel
theorem dX7_formula_106 : decode cX7_formula 106 = .ok (.isub, 1) := by decide +kernel
theorem dX7_formula_107 : decode cX7_formula 107 = .ok (.iload 5, 2) := by decide +kernel
theorem dX7_formula_109 : decode cX7_formula 109 = .ok (.iconst 1, 1) := by decide +kernel
theorem dX7_formula_110 : decode cX7_formula 110 = .ok (.isub, 1) := by decide +kernel
theorem dX7_formula_111 : decode cX7_formula 111 = .ok (.iload 5, 2) := by decide +kernel
theorem dX7_formula_113 : decode cX7_formula 113 = .ok (.invokevirtual 114, 3) := by decide +kernel
theorem dX7_formula_116 : decode cX7_formula 116 = .ok (.ifCond .ne 6, 3) := by decide +kernel
theorem dX7_formula_119 : decode cX7_formula 119 = .ok (.bipush (-3), 2) := by decide +kernel
theorem dX7_formula_121 : decode cX7_formula 121 = .ok (.ireturn, 1) := by decide +kernel
theorem dX7_formula_122 : decode cX7_formula 122 = .ok (.aload_n 0, 1) := by decide +kernel
theorem dX7_formula_123 : decode cX7_formula 123 = .ok (.bipush 16, 2) := by decide +kernel
theorem dX7_formula_125 : decode cX7_formula 125 = .ok (.iload 5, 2) := by decide +kernel
theorem dX7_formula_127 : decode cX7_formula 127 = .ok (.iconst 1, 1) := by decide +kernel
theorem dX7_formula_128 : decode cX7_formula 128 = .ok (.isub, 1) := by decide +kernel
theorem dX7_formula_129 : decode cX7_formula 129 = .ok (.invokevirtual 118, 3) := by decide +kernel
theorem dX7_formula_132 : decode cX7_formula 132 = .ok (.goto 41, 3) := by decide +kernel
theorem dX7_formula_135 : decode cX7_formula 135 = .ok (.iload 7, 2) := by decide +kernel
theorem dX7_formula_137 : decode cX7_formula 137 = .ok (.bipush 20, 2) := by decide +kernel
theorem dX7_formula_139 : decode cX7_formula 139 = .ok (.if_icmp .ne 15, 3) := by decide +kernel
theorem dX7_formula_142 : decode cX7_formula 142 = .ok (.aload_n 0, 1) := by decide +kernel
theorem dX7_formula_143 : decode cX7_formula 143 = .ok (.iload 5, 2) := by decide +kernel
theorem dX7_formula_145 : decode cX7_formula 145 = .ok (.invokevirtual 136, 3) := by decide +kernel
theorem dX7_formula_148 : decode cX7_formula 148 = .ok (.iinc 5 1, 3) := by decide +kernel
theorem dX7_formula_151 : decode cX7_formula 151 = .ok (.goto 22, 3) := by decide +kernel
theorem dX7_formula_154 : decode cX7_formula 154 = .ok (.iload 7, 2) := by decide +kernel
theorem dX7_formula_156 : decode cX7_formula 156 = .ok (.sipush 255, 3) := by decide +kernel
theorem dX7_formula_159 : decode cX7_formula 159 = .ok (.if_icmp .eq 14, 3) := by decide +kernel
theorem dX7_formula_162 : decode cX7_formula 162 = .ok (.aload_n 0, 1) := by decide +kernel
theorem dX7_formula_163 : decode cX7_formula 163 = .ok (.iload 7, 2) := by decide +kernel
theorem dX7_formula_165 : decode cX7_formula 165 = .ok (.iload 5, 2) := by decide +kernel
theorem dX7_formula_167 : decode cX7_formula 167 = .ok (.invokevirtual 118, 3) := by decide +kernel
theorem dX7_formula_170 : decode cX7_formula 170 = .ok (.iinc 5 1, 3) := by decide +kernel
theorem dX7_formula_173 : decode cX7_formula 173 = .ok (.iinc 6 1, 3) := by decide +kernel
theorem dX7_formula_176 : decode cX7_formula 176 = .ok (.goto (-114), 3) := by decide +kernel
theorem dX7_formula_179 : decode cX7_formula 179 = .ok (.aload_n 0, 1) := by decide +kernel
theorem dX7_formula_180 : decode cX7_formula 180 = .ok (.bipush 8, 2) := by decide +kernel
theorem dX7_formula_182 : decode cX7_formula 182 = .ok (.iload_n 1, 1) := by decide +kernel
theorem dX7_formula_183 : decode cX7_formula 183 = .ok (.invokevirtual 118, 3) := by decide +kernel
theorem dX7_formula_186 : decode cX7_formula 186 = .ok (.aload_n 0, 1) := by decide +kernel
theorem dX7_formula_187 : decode cX7_formula 187 = .ok (.iload_n 1, 1) := by decide +kernel
theorem dX7_formula_188 : decode cX7_formula 188 = .ok (.invokevirtual 88, 3) := by decide +kernel
theorem dX7_formula_191 : decode cX7_formula 191 = .ok (.ireturn, 1) := by decide +kernel
set_option maxRecDepth 20000 in
theorem ggX7_has_X7_isSet : GoodIn wsX7_has wsX7_isSet := goodIn_r _ [5, 6, 7, 8, 4, 9] rfl (by decide +kernel)
set_option maxRecDepth 20000 in
theorem gX7_has_X7_isSet : GoodIn wsX7_has (va_wsS RX7 66 yX7_isSet wsX7_isSet) := goodIn_app (goodIn_of _ (by decide +kernel)) ggX7_has_X7_isSet
set_option maxRecDepth 20000 in
theorem ggX7_has_X7_containerOf : GoodIn wsX7_has wsX7_containerOf := goodIn_r _ [13, 14, 15, 21, 22, 23, 24, 25, 26, 27, 28, 29, 30, 31, 32, 33, 34, 35, 36] rfl (by decide +kernel)
set_option maxRecDepth 20000 in
theorem gX7_has_X7_containerOf : GoodIn wsX7_has (wsV RX7 70 RX7 yX7_containerOf wsX7_containerOf) := goodIn_app (goodIn_of _ (by decide +kernel)) ggX7_has_X7_containerOf
set_option maxRecDepth 20000 in
theorem ggX7_has_X7_hasLow : GoodIn wsX7_has wsX7_hasLow := goodIn_r _ [19, 20, 21, 22, 23, 24, 25, 26, 27, 28, 29, 30, 31, 32, 33, 34, 35, 36] rfl (by decide +kernel)
set_option maxRecDepth 20000 in
theorem gX7_has_X7_hasLow : GoodIn wsX7_has (wsV RX7 75 RX7 yX7_hasLow wsX7_hasLow) := goodIn_app (goodIn_of _ (by decide +kernel)) ggX7_has_X7_hasLow
theorem dX7_has_0 : decode cX7_has 0 = .ok (.iload_n 1, 1) := by decide +kernel
theorem dX7_has_1 : decode cX7_has 1 = .ok (.invokestatic 66, 3) := by decide +kernel
theorem dX7_has_4 : decode cX7_has 4 = .ok (.ifCond .ne 6, 3) := by decide +kernel
theorem dX7_has_7 : decode cX7_has 7 = .ok (.bipush (-2), 2) := by decide +kernel
theorem dX7_has_9 : decode cX7_has 9 = .ok (.ireturn, 1) := by decide +kernel
theorem dX7_has_10 : decode cX7_has 10 = .ok (.aload_n 0, 1) := by decide +kernel
theorem dX7_has_11 : decode cX7_has 11 = .ok (.iload_n 1, 1) := by decide +kernel
theorem dX7_has_12 : decode cX7_has 12 = .ok (.iload_n 2, 1) := by decide +kernel
theorem dX7_has_13 : decode cX7_has 13 = .ok (.bipush 16, 2) := by decide +kernel
theorem dX7_has_15 : decode cX7_has 15 = .ok (.iushr, 1) := by decide +kernel
theorem dX7_has_16 : decode cX7_has 16 = .ok (.invokevirtual 70, 3) := by decide +kernel
theorem dX7_has_19 : decode cX7_has 19 = .ok (.istore_n 3, 1) := by decide +kernel
theorem dX7_has_20 : decode cX7_has 20 = .ok (.iload_n 3, 1) := by decide +kernel
theorem dX7_has_21 : decode cX7_has 21 = .ok (.iconst (-1), 1) := by decide +kernel
theorem dX7_has_22 : decode cX7_has 22 = .ok (.if_icmp .eq 19, 3) := by decide +kernel
theorem dX7_has_25 : decode cX7_has 25 = .ok (.aload_n 0, 1) := by decide +kernel
theorem dX7_has_26 : decode cX7_has 26 = .ok (.iload_n 3, 1) := by decide +kernel
theorem dX7_has_27 : decode cX7_has 27 = .ok (.iload_n 2, 1) := by decide +kernel
theorem dX7_has_28 : decode cX7_has 28 = .ok (.ldc 74, 2) := by decide +kernel
theorem dX7_has_30 : decode cX7_has 30 = .ok (.iand, 1) := by decide +kernel
theorem dX7_has_31 : decode cX7_has 31 = .ok (.invokevirtual 75, 3) := by decide +kernel
theorem dX7_has_34 : decode cX7_has 34 = .ok (.ifCond .eq 7, 3) := by decide +kernel
theorem dX7_has_37 : decode cX7_has 37 = .ok (.iconst 1, 1) := by decide +kernel
theorem dX7_has_38 : decode cX7_has 38 = .ok (.goto 4, 3) := by decide +kernel
theorem dX7_has_41 : decode cX7_has 41 = .ok (.iconst 0, 1) := by decide +kernel
theorem dX7_has_42 : decode cX7_has 42 = .ok (.ireturn, 1) := by decide +kernel
set_option maxRecDepth 20000 in
theorem ggX7_rank_X7_isSet : GoodIn wsX7_rank wsX7_isSet := goodIn_r _ [9, 10, 11, 12, 8, 13] rfl (by decide +kernel)
set_option maxRecDepth 20000 in
theorem gX7_rank_X7_isSet : GoodIn wsX7_rank (va_wsS RX7 66 yX7_isSet wsX7_isSet) := goodIn_app (goodIn_of _ (by decide +kernel)) ggX7_rank_X7_isSet
set_option maxRecDepth 20000 in
theorem ggX7_rank_X7_bitsOf : GoodIn wsX7_rank wsX7_bitsOf := goodIn_r _ [16] rfl (by decide +kernel)
set_option maxRecDepth 20000 in
theorem gX7_rank_X7_bitsOf : GoodIn wsX7_rank (va_wsS RX7 54 yX7_bitsOf wsX7_bitsOf) := goodIn_app (goodIn_of _ (by decide +kernel)) ggX7_rank_X7_bitsOf
set_option maxRecDepth 20000 in
theorem ggX7_rank_X7_hasLow : GoodIn wsX7_rank wsX7_hasLow := goodIn_r _ [20, 5, 21, 22, 23, 24, 25, 26, 27, 28, 29, 30, 31, 32, 33, 34, 35, 36] rfl (by decide +kernel)
set_option maxRecDepth 20000 in
theorem gX7_rank_X7_hasLow : GoodIn wsX7_rank (wsV RX7 75 RX7 yX7_hasLow wsX7_hasLow) := goodIn_app (goodIn_of _ (by decide +kernel)) ggX7_rank_X7_hasLow
theorem dX7_rank_0 : decode cX7_rank 0 = .ok (.iload_n 1, 1) := by decide +kernel
theorem dX7_rank_1 : decode cX7_rank 1 = .ok (.invokestatic 66, 3) := by decide +kernel
theorem dX7_rank_4 : decode cX7_rank 4 = .ok (.ifCond .ne 6, 3) := by decide +kernel
theorem dX7_rank_7 : decode cX7_rank 7 = .ok (.bipush (-2), 2) := by decide +kernel
theorem dX7_rank_9 : decode cX7_rank 9 = .ok (.ireturn, 1) := by decide +kernel
theorem dX7_rank_10 : decode cX7_rank 10 = .ok (.iconst 0, 1) := by decide +kernel
theorem dX7_rank_11 : decode cX7_rank 11 = .ok (.istore_n 3, 1) := by decide +kernel
theorem dX7_rank_12 : decode cX7_rank 12 = .ok (.iload_n 2, 1) := by decide +kernel
theorem dX7_rank_13 : decode cX7_rank 13 = .ok (.bipush 16, 2) := by decide +kernel
theorem dX7_rank_15 : decode cX7_rank 15 = .ok (.iushr, 1) := by decide +kernel
theorem dX7_rank_16 : decode cX7_rank 16 = .ok (.istore 4, 2) := by decide +kernel
theorem dX7_rank_18 : decode cX7_rank 18 = .ok (.iload_n 2, 1) := by decide +kernel
theorem dX7_rank_19 : decode cX7_rank 19 = .ok (.ldc 74, 2) := by decide +kernel
theorem dX7_rank_21 : decode cX7_rank 21 = .ok (.iand, 1) := by decide +kernel
theorem dX7_rank_22 : decode cX7_rank 22 = .ok (.istore 5, 2) := by decide +kernel
theorem dX7_rank_24 : decode cX7_rank 24 = .ok (.iconst 0, 1) := by decide +kernel
theorem dX7_rank_25 : decode cX7_rank 25 = .ok (.istore 6, 2) := by decide +kernel
theorem dX7_rank_27 : decode cX7_rank 27 = .ok (.iload 6, 2) := by decide +kernel
theorem dX7_rank_29 : decode cX7_rank 29 = .ok (.aload_n 0, 1) := by decide +kernel
theorem dX7_rank_30 : decode cX7_rank 30 = .ok (.getfield 7, 3) := by decide +kernel
theorem dX7_rank_33 : decode cX7_rank 33 = .ok (.iload_n 1, 1) := by decide +kernel
theorem dX7_rank_34 : decode cX7_rank 34 = .ok (.iaload, 1) := by decide +kernel
theorem dX7_rank_35 : decode cX7_rank 35 = .ok (.if_icmp .ge 136, 3) := by decide +kernel
theorem dX7_rank_38 : decode cX7_rank 38 = .ok (.bipush 6, 2) := by decide +kernel
theorem dX7_rank_40 : decode cX7_rank 40 = .ok (.iload_n 1, 1) := by decide +kernel
theorem dX7_rank_41 : decode cX7_rank 41 = .ok (.imul, 1) := by decide +kernel
theorem dX7_rank_42 : decode cX7_rank 42 = .ok (.iload 6, 2) := by decide +kernel
theorem dX7_rank_44 : decode cX7_rank 44 = .ok (.iadd, 1) := by decide +kernel
theorem dX7_rank_45 : decode cX7_rank 45 = .ok (.istore 7, 2) := by decide +kernel
theorem dX7_rank_47 : decode cX7_rank 47 = .ok (.aload_n 0, 1) := by decide +kernel
theorem dX7_rank_48 : decode cX7_rank 48 = .ok (.getfield 13, 3) := by decide +kernel
theorem dX7_rank_51 : decode cX7_rank 51 = .ok (.iload 7, 2) := by decide +kernel
theorem dX7_rank_53 : decode cX7_rank 53 = .ok (.iaload, 1) := by decide +kernel
theorem dX7_rank_54 : decode cX7_rank 54 = .ok (.iload 4, 2) := by decide +kernel
theorem dX7_rank_56 : decode cX7_rank 56 = .ok (.if_icmp .ge 16, 3) := by decide +kernel
theorem dX7_rank_59 : decode cX7_rank 59 = .ok (.iload_n 3, 1) := by decide +kernel
theorem dX7_rank_60 : decode cX7_rank 60 = .ok (.aload_n 0, 1) := by decide +kernel
theorem dX7_rank_61 : decode cX7_rank 61 = .ok (.getfield 19, 3) := by decide +kernel
theorem dX7_rank_64 : decode cX7_rank 64 = .ok (.iload 7, 2) := by decide +kernel
theorem dX7_rank_66 : decode cX7_rank 66 = .ok (.iaload, 1) := by decide +kernel
theorem dX7_rank_67 : decode cX7_rank 67 = .ok (.iadd, 1) := by decide +kernel
theorem dX7_rank_68 : decode cX7_rank 68 = .ok (.istore_n 3, 1) := by decide +kernel
theorem dX7_rank_69 : decode cX7_rank 69 = .ok (.goto 96, 3) := by decide +kernel
theorem dX7_rank_72 : decode cX7_rank 72 = .ok (.aload_n 0, 1) := by decide +kernel
theorem dX7_rank_73 : decode cX7_rank 73 = .ok (.getfield 13, 3) := by decide +kernel
theorem dX7_rank_76 : decode cX7_rank 76 = .ok (.iload 7, 2) := by decide +kernel
theorem dX7_rank_78 : decode cX7_rank 78 = .ok (.iaload, 1) := by decide +kernel
theorem dX7_rank_79 : decode cX7_rank 79 = .ok (.iload 4, 2) := by decide +kernel
theorem dX7_rank_81 : decode cX7_rank 81 = .ok (.if_icmp .ne 84, 3) := by decide +kernel
theorem dX7_rank_84 : decode cX7_rank 84 = .ok (.iconst 0, 1) := by decide +kernel
theorem dX7_rank_85 : decode cX7_rank 85 = .ok (.istore 8, 2) := by decide +kernel
theorem dX7_rank_87 : decode cX7_rank 87 = .ok (.iload 8, 2) := by decide +kernel
theorem dX7_rank_89 : decode cX7_rank 89 = .ok (.iload 5, 2) := by decide +kernel
theorem dX7_rank_91 : decode cX7_rank 91 = .ok (.bipush 64, 2) := by decide +kernel
theorem dX7_rank_93 : decode cX7_rank 93 = .ok (.idiv, 1) := by decide +kernel
theorem dX7_rank_94 : decode cX7_rank 94 = .ok (.if_icmp .ge 29, 3) := by decide +kernel
theorem dX7_rank_97 : decode cX7_rank 97 = .ok (.iload_n 3, 1) := by decide +kernel
theorem dX7_rank_98 : decode cX7_rank 98 = .ok (.aload_n 0, 1) := by decide +kernel
theorem dX7_rank_99 : decode cX7_rank 99 = .ok (.getfield 23, 3) := by decide +kernel
theorem dX7_rank_102 : decode cX7_rank 102 = .ok (.sipush 1024, 3) := by decide +kernel
theorem dX7_rank_105 : decode cX7_rank 105 = .ok (.iload 7, 2) := by decide +kernel
theorem dX7_rank_107 : decode cX7_rank 107 = .ok (.imul, 1) := by decide +kernel
theorem dX7_rank_108 : decode cX7_rank 108 = .ok (.iload 8, 2) := by decide +kernel
theorem dX7_rank_110 : decode cX7_rank 110 = .ok (.iadd, 1) := by decide +kernel
theorem dX7_rank_111 : decode cX7_rank 111 = .ok (.laload, 1) := by decide +kernel
theorem dX7_rank_112 : decode cX7_rank 112 = .ok (.invokestatic 54, 3) := by decide +kernel
theorem dX7_rank_115 : decode cX7_rank 115 = .ok (.iadd, 1) := by decide +kernel
theorem dX7_rank_116 : decode cX7_rank 116 = .ok (.istore_n 3, 1) := by decide +kernel
theorem dX7_rank_117 : decode cX7_rank 117 = .ok (.iinc 8 1, 3) := by decide +kernel
theorem dX7_rank_120 : decode cX7_rank 120 = .ok (.goto (-33), 3) := by decide +kernel
theorem dX7_rank_123 : decode cX7_rank 123 = .ok (.iload 5, 2) := by decide +kernel
theorem dX7_rank_125 : decode cX7_rank 125 = .ok (.bipush 64, 2) := by decide +kernel
theorem dX7_rank_127 : decode cX7_rank 127 = .ok (.idiv, 1) := by decide +kernel
theorem dX7_rank_128 : decode cX7_rank 128 = .ok (.bipush 64, 2) := by decide +kernel
theorem dX7_rank_130 : decode cX7_rank 130 = .ok (.imul, 1) := by decide +kernel
theorem dX7_rank_131 : decode cX7_rank 131 = .ok (.istore 8, 2) := by decide +kernel
theorem dX7_rank_133 : decode cX7_rank 133 = .ok (.iload 8, 2) := by decide +kernel
theorem dX7_rank_135 : decode cX7_rank 135 = .ok (.iload 5, 2) := by decide +kernel
theorem dX7_rank_137 : decode cX7_rank 137 = .ok (.if_icmp .gt 28, 3) := by decide +kernel
theorem dX7_rank_140 : decode cX7_rank 140 = .ok (.iload_n 3, 1) := by decide +kernel
theorem dX7_rank_141 : decode cX7_rank 141 = .ok (.aload_n 0, 1) := by decide +kernel
theorem dX7_rank_142 : decode cX7_rank 142 = .ok (.iload 7, 2) := by decide +kernel
theorem dX7_rank_144 : decode cX7_rank 144 = .ok (.iload 8, 2) := by decide +kernel
theorem dX7_rank_146 : decode cX7_rank 146 = .ok (.invokevirtual 75, 3) := by decide +kernel
theorem dX7_rank_149 : decode cX7_rank 149 = .ok (.ifCond .eq 7, 3) := by decide +kernel
theorem dX7_rank_152 : decode cX7_rank 152 = .ok (.iconst 1, 1) := by decide +kernel
theorem dX7_rank_153 : decode cX7_rank 153 = .ok (.goto 4, 3) := by decide +kernel
theorem dX7_rank_156 : decode cX7_rank 156 = .ok (.iconst 0, 1) := by decide +kernel
theorem dX7_rank_157 : decode cX7_rank 157 = .ok (.iadd, 1) := by decide +kernel
theorem dX7_rank_158 : decode cX7_rank 158 = .ok (.istore_n 3, 1) := by decide +kernel
theorem dX7_rank_159 : decode cX7_rank 159 = .ok (.iinc 8 1, 3) := by decide +kernel
theorem dX7_rank_162 : decode cX7_rank 162 = .ok (.goto (-29), 3) := by decide +kernel
theorem dX7_rank_165 : decode cX7_rank 165 = .ok (.iinc 6 1, 3) := by decide +kernel
theorem dX7_rank_168 : decode cX7_rank 168 = .ok (.goto (-141), 3) := by decide +kernel
theorem dX7_rank_171 : decode cX7_rank 171 = .ok (.iload_n 3, 1) := by decide +kernel
theorem dX7_rank_172 : decode cX7_rank 172 = .ok (.ireturn, 1) := by decide +kernel
theorem dX7_numberOf_0 : decode cX7_numberOf 0 = .ok (.ldc2_w 140, 3) := by decide +kernel
theorem dX7_numberOf_3 : decode cX7_numberOf 3 = .ok (.aload_n 0, 1) := by decide +kernel
theorem dX7_numberOf_4 : decode cX7_numberOf 4 = .ok (.getfield 13, 3) := by decide +kernel
theorem dX7_numberOf_7 : decode cX7_numberOf 7 = .ok (.iload_n 1, 1) := by decide +kernel
theorem dX7_numberOf_8 : decode cX7_numberOf 8 = .ok (.iaload, 1) := by decide +kernel
theorem dX7_numberOf_9 : decode cX7_numberOf 9 = .ok (.i2l, 1) := by decide +kernel
theorem dX7_numberOf_10 : decode cX7_numberOf 10 = .ok (.lmul, 1) := by decide +kernel
theorem dX7_numberOf_11 : decode cX7_numberOf 11 = .ok (.iload_n 2, 1) := by decide +kernel
theorem dX7_numberOf_12 : decode cX7_numberOf 12 = .ok (.i2l, 1) := by decide +kernel
theorem dX7_numberOf_13 : decode cX7_numberOf 13 = .ok (.ladd, 1) := by decide +kernel
theorem dX7_numberOf_14 : decode cX7_numberOf 14 = .ok (.lreturn, 1) := by decide +kernel
set_option maxRecDepth 20000 in
theorem ggX7_select_X7_isSet : GoodIn wsX7_select wsX7_isSet := goodIn_r _ [9, 10, 11, 12, 8, 13] rfl (by decide +kernel)
set_option maxRecDepth 20000 in
theorem gX7_select_X7_isSet : GoodIn wsX7_select (va_wsS RX7 66 yX7_isSet wsX7_isSet) := goodIn_app (goodIn_of _ (by decide +kernel)) ggX7_select_X7_isSet
set_option maxRecDepth 20000 in
theorem ggX7_select_X7_bitsOf : GoodIn wsX7_select wsX7_bitsOf := goodIn_r _ [16] rfl (by decide +kernel)
set_option maxRecDepth 20000 in
theorem gX7_select_X7_bitsOf : GoodIn wsX7_select (va_wsS RX7 54 yX7_bitsOf wsX7_bitsOf) := goodIn_app (goodIn_of _ (by decide +kernel)) ggX7_select_X7_bitsOf
set_option maxRecDepth 20000 in
theorem ggX7_select_X7_hasLow : GoodIn wsX7_select wsX7_hasLow := goodIn_r _ [20, 5, 27, 28, 29, 30, 31, 32, 33, 34, 35, 36, 37, 38, 39, 40, 41, 42] rfl (by decide +kernel)
set_option maxRecDepth 20000 in
theorem gX7_select_X7_hasLow : GoodIn wsX7_select (wsV RX7 75 RX7 yX7_hasLow wsX7_hasLow) := goodIn_app (goodIn_of _ (by decide +kernel)) ggX7_select_X7_hasLow
set_option maxRecDepth 20000 in
theorem ggX7_select_X7_numberOf : GoodIn wsX7_select wsX7_numberOf := goodIn_r _ [24, 25, 26, 27, 28, 29, 30, 31, 32, 33, 34, 35, 36, 37, 38, 39, 40, 41, 42] rfl (by decide +kernel)
set_option maxRecDepth 20000 in
theorem gX7_select_X7_numberOf : GoodIn wsX7_select (wsV RX7 144 RX7 yX7_numberOf wsX7_numberOf) := goodIn_app (goodIn_of _ (by decide +kernel)) ggX7_select_X7_numberOf
theorem dX7_select_0 : decode cX7_select 0 = .ok (.iload_n 1, 1) := by decide +kernel
theorem dX7_select_1 : decode cX7_select 1 = .ok (.invokestatic 66, 3) := by decide +kernel
theorem dX7_select_4 : decode cX7_select 4 = .ok (.ifCond .ne 7, 3) := by decide +kernel
theorem dX7_select_7 : decode cX7_select 7 = .ok (.ldc2_w 142, 3) := by decide +kernel
theorem dX7_select_10 : decode cX7_select 10 = .ok (.lreturn, 1) := by decide +kernel
theorem dX7_select_11 : decode cX7_select 11 = .ok (.iload_n 2, 1) := by decide +kernel
theorem dX7_select_12 : decode cX7_select 12 = .ok (.ifCond .ge 7, 3) := by decide +kernel
theorem dX7_select_15 : decode cX7_select 15 = .ok (.ldc2_w 52, 3) := by decide +kernel
theorem dX7_select_18 : decode cX7_select 18 = .ok (.lreturn, 1) := by decide +kernel
theorem dX7_select_19 : decode cX7_select 19 = .ok (.iload_n 2, 1) := by decide +kernel
theorem dX7_select_20 : decode cX7_select 20 = .ok (.istore_n 3, 1) := by decide +kernel
theorem dX7_select_21 : decode cX7_select 21 = .ok (.iconst 0, 1) := by decide +kernel
theorem dX7_select_22 : decode cX7_select 22 = .ok (.istore 4, 2) := by decide +kernel
theorem dX7_select_24 : decode cX7_select 24 = .ok (.iload 4, 2) := by decide +kernel
theorem dX7_select_26 : decode cX7_select 26 = .ok (.aload_n 0, 1) := by decide +kernel
theorem dX7_select_27 : decode cX7_select 27 = .ok (.getfield 7, 3) := by decide +kernel
theorem dX7_select_30 : decode cX7_select 30 = .ok (.iload_n 1, 1) := by decide +kernel
theorem dX7_select_31 : decode cX7_select 31 = .ok (.iaload, 1) := by decide +kernel
theorem dX7_select_32 : decode cX7_select 32 = .ok (.if_icmp .ge 145, 3) := by decide +kernel
theorem dX7_select_35 : decode cX7_select 35 = .ok (.bipush 6, 2) := by decide +kernel
theorem dX7_select_37 : decode cX7_select 37 = .ok (.iload_n 1, 1) := by decide +kernel
theorem dX7_select_38 : decode cX7_select 38 = .ok (.imul, 1) := by decide +kernel
theorem dX7_select_39 : decode cX7_select 39 = .ok (.iload 4, 2) := by decide +kernel
theorem dX7_select_41 : decode cX7_select 41 = .ok (.iadd, 1) := by decide +kernel
theorem dX7_select_42 : decode cX7_select 42 = .ok (.istore 5, 2) := by decide +kernel
theorem dX7_select_44 : decode cX7_select 44 = .ok (.iload_n 3, 1) := by decide +kernel
theorem dX7_select_45 : decode cX7_select 45 = .ok (.aload_n 0, 1) := by decide +kernel
theorem dX7_select_46 : decode cX7_select 46 = .ok (.getfield 19, 3) := by decide +kernel
theorem dX7_select_49 : decode cX7_select 49 = .ok (.iload 5, 2) := by decide +kernel
theorem dX7_select_51 : decode cX7_select 51 = .ok (.iaload, 1) := by decide +kernel
theorem dX7_select_52 : decode cX7_select 52 = .ok (.if_icmp .ge 109, 3) := by decide +kernel
theorem dX7_select_55 : decode cX7_select 55 = .ok (.iconst 0, 1) := by decide +kernel
theorem dX7_select_56 : decode cX7_select 56 = .ok (.istore 6, 2) := by decide +kernel
theorem dX7_select_58 : decode cX7_select 58 = .ok (.iload_n 3, 1) := by decide +kernel
theorem dX7_select_59 : decode cX7_select 59 = .ok (.aload_n 0, 1) := by decide +kernel
theorem dX7_select_60 : decode cX7_select 60 = .ok (.getfield 23, 3) := by decide +kernel
theorem dX7_select_63 : decode cX7_select 63 = .ok (.sipush 1024, 3) := by decide +kernel
theorem dX7_select_66 : decode cX7_select 66 = .ok (.iload 5, 2) := by decide +kernel
theorem dX7_select_68 : decode cX7_select 68 = .ok (.imul, 1) := by decide +kernel
theorem dX7_select_69 : decode cX7_select 69 = .ok (.iload 6, 2) := by decide +kernel
theorem dX7_select_71 : decode cX7_select 71 = .ok (.iadd, 1) := by decide +kernel
theorem dX7_select_72 : decode cX7_select 72 = .ok (.laload, 1) := by decide +kernel
theorem dX7_select_73 : decode cX7_select 73 = .ok (.invokestatic 54, 3) := by decide +kernel
theorem dX7_select_76 : decode cX7_select 76 = .ok (.if_icmp .lt 29, 3) := by decide +kernel
theorem dX7_select_79 : decode cX7_select 79 = .ok (.iload_n 3, 1) := by decide +kernel
theorem dX7_select_80 : decode cX7_select 80 = .ok (.aload_n 0, 1) := by decide +kernel
theorem dX7_select_81 : decode cX7_select 81 = .ok (.getfield 23, 3) := by decide +kernel
theorem dX7_select_84 : decode cX7_select 84 = .ok (.sipush 1024, 3) := by decide +kernel
theorem dX7_select_87 : decode cX7_select 87 = .ok (.iload 5, 2) := by decide +kernel
theorem dX7_select_89 : decode cX7_select 89 = .ok (.imul, 1) := by decide +kernel
theorem dX7_select_90 : decode cX7_select 90 = .ok (.iload 6, 2) := by decide +kernel
theorem dX7_select_92 : decode cX7_select 92 = .ok (.iadd, 1) := by decide +kernel
theorem dX7_select_93 : decode cX7_select 93 = .ok (.laload, 1) := by decide +kernel
theorem dX7_select_94 : decode cX7_select 94 = .ok (.invokestatic 54, 3) := by decide +kernel
theorem dX7_select_97 : decode cX7_select 97 = .ok (.isub, 1) := by decide +kernel
theorem dX7_select_98 : decode cX7_select 98 = .ok (.istore_n 3, 1) := by decide +kernel
theorem dX7_select_99 : decode cX7_select 99 = .ok (.iinc 6 1, 3) := by decide +kernel
theorem dX7_select_102 : decode cX7_select 102 = .ok (.goto (-44), 3) := by decide +kernel
theorem dX7_select_105 : decode cX7_select 105 = .ok (.bipush 64, 2) := by decide +kernel
theorem dX7_select_107 : decode cX7_select 107 = .ok (.iload 6, 2) := by decide +kernel
theorem dX7_select_109 : decode cX7_select 109 = .ok (.imul, 1) := by decide +kernel
theorem dX7_select_110 : decode cX7_select 110 = .ok (.istore 7, 2) := by decide +kernel
theorem dX7_select_112 : decode cX7_select 112 = .ok (.iload_n 3, 1) := by decide +kernel
theorem dX7_select_113 : decode cX7_select 113 = .ok (.ifCond .gt 14, 3) := by decide +kernel
theorem dX7_select_116 : decode cX7_select 116 = .ok (.aload_n 0, 1) := by decide +kernel
theorem dX7_select_117 : decode cX7_select 117 = .ok (.iload 5, 2) := by decide +kernel
theorem dX7_select_119 : decode cX7_select 119 = .ok (.iload 7, 2) := by decide +kernel
