theorem dX9_init_0 : decode cX9_init 0 = .ok (.aload_n 0, 1) := by decide +kernel
theorem dX9_init_1 : decode cX9_init 1 = .ok (.invokespecial 1, 3) := by decide +kernel
theorem dX9_init_4 : decode cX9_init 4 = .ok (.aload_n 0, 1) := by decide +kernel
theorem dX9_init_5 : decode cX9_init 5 = .ok (.bipush 48, 2) := by decide +kernel
theorem dX9_init_7 : decode cX9_init 7 = .ok (.newarray .int, 2) := by decide +kernel
theorem dX9_init_9 : decode cX9_init 9 = .ok (.putfield 7, 3) := by decide +kernel
theorem dX9_init_12 : decode cX9_init 12 = .ok (.aload_n 0, 1) := by decide +kernel
theorem dX9_init_13 : decode cX9_init 13 = .ok (.bipush 6, 2) := by decide +kernel
theorem dX9_init_15 : decode cX9_init 15 = .ok (.newarray .int, 2) := by decide +kernel
theorem dX9_init_17 : decode cX9_init 17 = .ok (.putfield 13, 3) := by decide +kernel
theorem dX9_init_20 : decode cX9_init 20 = .ok (.aload_n 0, 1) := by decide +kernel
theorem dX9_init_21 : decode cX9_init 21 = .ok (.bipush 6, 2) := by decide +kernel
theorem dX9_init_23 : decode cX9_init 23 = .ok (.newarray .int, 2) := by decide +kernel
theorem dX9_init_25 : decode cX9_init 25 = .ok (.putfield 16, 3) := by decide +kernel
theorem dX9_init_28 : decode cX9_init 28 = .ok (.aload_n 0, 1) := by decide +kernel
theorem dX9_init_29 : decode cX9_init 29 = .ok (.bipush 6, 2) := by decide +kernel
theorem dX9_init_31 : decode cX9_init 31 = .ok (.newarray .int, 2) := by decide +kernel
theorem dX9_init_33 : decode cX9_init 33 = .ok (.putfield 19, 3) := by decide +kernel
theorem dX9_init_36 : decode cX9_init 36 = .ok (.aload_n 0, 1) := by decide +kernel
theorem dX9_init_37 : decode cX9_init 37 = .ok (.bipush 6, 2) := by decide +kernel
theorem dX9_init_39 : decode cX9_init 39 = .ok (.newarray .int, 2) := by decide +kernel
theorem dX9_init_41 : decode cX9_init 41 = .ok (.putfield 22, 3) := by decide +kernel
theorem dX9_init_44 : decode cX9_init 44 = .ok (.aload_n 0, 1) := by decide +kernel
theorem dX9_init_45 : decode cX9_init 45 = .ok (.bipush 6, 2) := by decide +kernel
theorem dX9_init_47 : decode cX9_init 47 = .ok (.newarray .int, 2) := by decide +kernel
theorem dX9_init_49 : decode cX9_init 49 = .ok (.putfield 25, 3) := by decide +kernel
theorem dX9_init_52 : decode cX9_init 52 = .ok (.aload_n 0, 1) := by decide +kernel
theorem dX9_init_53 : decode cX9_init 53 = .ok (.bipush 6, 2) := by decide +kernel
theorem dX9_init_55 : decode cX9_init 55 = .ok (.newarray .int, 2) := by decide +kernel
theorem dX9_init_57 : decode cX9_init 57 = .ok (.putfield 28, 3) := by decide +kernel
theorem dX9_init_60 : decode cX9_init 60 = .ok (.aload_n 0, 1) := by decide +kernel
theorem dX9_init_61 : decode cX9_init 61 = .ok (.bipush 6, 2) := by decide +kernel
theorem dX9_init_63 : decode cX9_init 63 = .ok (.newarray .boolean, 2) := by decide +kernel
theorem dX9_init_65 : decode cX9_init 65 = .ok (.putfield 31, 3) := by decide +kernel
theorem dX9_init_68 : decode cX9_init 68 = .ok (.aload_n 0, 1) := by decide +kernel
theorem dX9_init_69 : decode cX9_init 69 = .ok (.bipush 6, 2) := by decide +kernel
theorem dX9_init_71 : decode cX9_init 71 = .ok (.newarray .int, 2) := by decide +kernel
theorem dX9_init_73 : decode cX9_init 73 = .ok (.putfield 35, 3) := by decide +kernel
theorem dX9_init_76 : decode cX9_init 76 = .ok (.aload_n 0, 1) := by decide +kernel
theorem dX9_init_77 : decode cX9_init 77 = .ok (.sipush 500, 3) := by decide +kernel
theorem dX9_init_80 : decode cX9_init 80 = .ok (.newarray .int, 2) := by decide +kernel
theorem dX9_init_82 : decode cX9_init 82 = .ok (.putfield 38, 3) := by decide +kernel
theorem dX9_init_85 : decode cX9_init 85 = .ok (.aload_n 0, 1) := by decide +kernel
theorem dX9_init_86 : decode cX9_init 86 = .ok (.iconst (-1), 1) := by decide +kernel
theorem dX9_init_87 : decode cX9_init 87 = .ok (.putfield 41, 3) := by decide +kernel
theorem dX9_init_90 : decode cX9_init 90 = .ok (.aload_n 0, 1) := by decide +kernel
theorem dX9_init_91 : decode cX9_init 91 = .ok (.bipush 48, 2) := by decide +kernel
theorem dX9_init_93 : decode cX9_init 93 = .ok (.newarray .int, 2) := by decide +kernel
theorem dX9_init_95 : decode cX9_init 95 = .ok (.putfield 45, 3) := by decide +kernel
theorem dX9_init_98 : decode cX9_init 98 = .ok (.aload_n 0, 1) := by decide +kernel
theorem dX9_init_99 : decode cX9_init 99 = .ok (.bipush 6, 2) := by decide +kernel
theorem dX9_init_101 : decode cX9_init 101 = .ok (.newarray .int, 2) := by decide +kernel
theorem dX9_init_103 : decode cX9_init 103 = .ok (.putfield 48, 3) := by decide +kernel
theorem dX9_init_106 : decode cX9_init 106 = .ok (.aload_n 0, 1) := by decide +kernel
theorem dX9_init_107 : decode cX9_init 107 = .ok (.bipush 6, 2) := by decide +kernel
theorem dX9_init_109 : decode cX9_init 109 = .ok (.newarray .int, 2) := by decide +kernel
theorem dX9_init_111 : decode cX9_init 111 = .ok (.putfield 51, 3) := by decide +kernel
theorem dX9_init_114 : decode cX9_init 114 = .ok (.aload_n 0, 1) := by decide +kernel
theorem dX9_init_115 : decode cX9_init 115 = .ok (.bipush 6, 2) := by decide +kernel
theorem dX9_init_117 : decode cX9_init 117 = .ok (.newarray .int, 2) := by decide +kernel
theorem dX9_init_119 : decode cX9_init 119 = .ok (.putfield 54, 3) := by decide +kernel
theorem dX9_init_122 : decode cX9_init 122 = .ok (.aload_n 0, 1) := by decide +kernel
theorem dX9_init_123 : decode cX9_init 123 = .ok (.bipush 6, 2) := by decide +kernel
theorem dX9_init_125 : decode cX9_init 125 = .ok (.newarray .int, 2) := by decide +kernel
theorem dX9_init_127 : decode cX9_init 127 = .ok (.putfield 57, 3) := by decide +kernel
theorem dX9_init_130 : decode cX9_init 130 = .ok (.aload_n 0, 1) := by decide +kernel
theorem dX9_init_131 : decode cX9_init 131 = .ok (.bipush 6, 2) := by decide +kernel
theorem dX9_init_133 : decode cX9_init 133 = .ok (.newarray .int, 2) := by decide +kernel
theorem dX9_init_135 : decode cX9_init 135 = .ok (.putfield 60, 3) := by decide +kernel
theorem dX9_init_138 : decode cX9_init 138 = .ok (.aload_n 0, 1) := by decide +kernel
theorem dX9_init_139 : decode cX9_init 139 = .ok (.bipush 6, 2) := by decide +kernel
theorem dX9_init_141 : decode cX9_init 141 = .ok (.newarray .int, 2) := by decide +kernel
theorem dX9_init_143 : decode cX9_init 143 = .ok (.putfield 63, 3) := by decide +kernel
theorem dX9_init_146 : decode cX9_init 146 = .ok (.aload_n 0, 1) := by decide +kernel
theorem dX9_init_147 : decode cX9_init 147 = .ok (.iconst (-1), 1) := by decide +kernel
theorem dX9_init_148 : decode cX9_init 148 = .ok (.putfield 66, 3) := by decide +kernel
theorem dX9_init_151 : decode cX9_init 151 = .ok (.aload_n 0, 1) := by decide +kernel
theorem dX9_init_152 : decode cX9_init 152 = .ok (.iconst (-1), 1) := by decide +kernel
theorem dX9_init_153 : decode cX9_init 153 = .ok (.putfield 69, 3) := by decide +kernel
theorem dX9_init_156 : decode cX9_init 156 = .ok (.aload_n 0, 1) := by decide +kernel
theorem dX9_init_157 : decode cX9_init 157 = .ok (.bipush 6, 2) := by decide +kernel
theorem dX9_init_159 : decode cX9_init 159 = .ok (.newarray .int, 2) := by decide +kernel
theorem dX9_init_161 : decode cX9_init 161 = .ok (.putfield 72, 3) := by decide +kernel
theorem dX9_init_164 : decode cX9_init 164 = .ok (.aload_n 0, 1) := by decide +kernel
theorem dX9_init_165 : decode cX9_init 165 = .ok (.bipush 10, 2) := by decide +kernel
theorem dX9_init_167 : decode cX9_init 167 = .ok (.newarray .int, 2) := by decide +kernel
theorem dX9_init_169 : decode cX9_init 169 = .ok (.putfield 75, 3) := by decide +kernel
theorem dX9_init_172 : decode cX9_init 172 = .ok (.aload_n 0, 1) := by decide +kernel
theorem dX9_init_173 : decode cX9_init 173 = .ok (.bipush 10, 2) := by decide +kernel
theorem dX9_init_175 : decode cX9_init 175 = .ok (.newarray .int, 2) := by decide +kernel
theorem dX9_init_177 : decode cX9_init 177 = .ok (.putfield 78, 3) := by decide +kernel
theorem dX9_init_180 : decode cX9_init 180 = .ok (.aload_n 0, 1) := by decide +kernel
theorem dX9_init_181 : decode cX9_init 181 = .ok (.bipush 10, 2) := by decide +kernel
theorem dX9_init_183 : decode cX9_init 183 = .ok (.newarray .int, 2) := by decide +kernel
theorem dX9_init_185 : decode cX9_init 185 = .ok (.putfield 81, 3) := by decide +kernel
theorem dX9_init_188 : decode cX9_init 188 = .ok (.aload_n 0, 1) := by decide +kernel
theorem dX9_init_189 : decode cX9_init 189 = .ok (.sipush 288, 3) := by decide +kernel
theorem dX9_init_192 : decode cX9_init 192 = .ok (.newarray .int, 2) := by decide +kernel
theorem dX9_init_194 : decode cX9_init 194 = .ok (.putfield 84, 3) := by decide +kernel
theorem dX9_init_197 : decode cX9_init 197 = .ok (.aload_n 0, 1) := by decide +kernel
theorem dX9_init_198 : decode cX9_init 198 = .ok (.sipush 336, 3) := by decide +kernel
theorem dX9_init_201 : decode cX9_init 201 = .ok (.newarray .int, 2) := by decide +kernel
theorem dX9_init_203 : decode cX9_init 203 = .ok (.putfield 87, 3) := by decide +kernel
theorem dX9_init_206 : decode cX9_init 206 = .ok (.aload_n 0, 1) := by decide +kernel
theorem dX9_init_207 : decode cX9_init 207 = .ok (.bipush 36, 2) := by decide +kernel
theorem dX9_init_209 : decode cX9_init 209 = .ok (.newarray .int, 2) := by decide +kernel
theorem dX9_init_211 : decode cX9_init 211 = .ok (.putfield 90, 3) := by decide +kernel
theorem dX9_init_214 : decode cX9_init 214 = .ok (.aload_n 0, 1) := by decide +kernel
theorem dX9_init_215 : decode cX9_init 215 = .ok (.bipush 6, 2) := by decide +kernel
theorem dX9_init_217 : decode cX9_init 217 = .ok (.newarray .int, 2) := by decide +kernel
theorem dX9_init_219 : decode cX9_init 219 = .ok (.putfield 93, 3) := by decide +kernel
theorem dX9_init_222 : decode cX9_init 222 = .ok (.aload_n 0, 1) := by decide +kernel
theorem dX9_init_223 : decode cX9_init 223 = .ok (.bipush 6, 2) := by decide +kernel
theorem dX9_init_225 : decode cX9_init 225 = .ok (.newarray .int, 2) := by decide +kernel
theorem dX9_init_227 : decode cX9_init 227 = .ok (.putfield 96, 3) := by decide +kernel
theorem dX9_init_230 : decode cX9_init 230 = .ok (.aload_n 0, 1) := by decide +kernel
theorem dX9_init_231 : decode cX9_init 231 = .ok (.bipush 10, 2) := by decide +kernel
theorem dX9_init_233 : decode cX9_init 233 = .ok (.newarray .int, 2) := by decide +kernel
theorem dX9_init_235 : decode cX9_init 235 = .ok (.putfield 99, 3) := by decide +kernel
theorem dX9_init_238 : decode cX9_init 238 = .ok (.aload_n 0, 1) := by decide +kernel
theorem dX9_init_239 : decode cX9_init 239 = .ok (.bipush 10, 2) := by decide +kernel
theorem dX9_init_241 : decode cX9_init 241 = .ok (.newarray .int, 2) := by decide +kernel
theorem dX9_init_243 : decode cX9_init 243 = .ok (.putfield 102, 3) := by decide +kernel
theorem dX9_init_246 : decode cX9_init 246 = .ok (.aload_n 0, 1) := by decide +kernel
theorem dX9_init_247 : decode cX9_init 247 = .ok (.bipush 30, 2) := by decide +kernel
theorem dX9_init_249 : decode cX9_init 249 = .ok (.newarray .int, 2) := by decide +kernel
theorem dX9_init_251 : decode cX9_init 251 = .ok (.putfield 105, 3) := by decide +kernel
theorem dX9_init_254 : decode cX9_init 254 = .ok (.aload_n 0, 1) := by decide +kernel
theorem dX9_init_255 : decode cX9_init 255 = .ok (.bipush 30, 2) := by decide +kernel
theorem dX9_init_257 : decode cX9_init 257 = .ok (.newarray .int, 2) := by decide +kernel
theorem dX9_init_259 : decode cX9_init 259 = .ok (.putfield 108, 3) := by decide +kernel
theorem dX9_init_262 : decode cX9_init 262 = .ok (.aload_n 0, 1) := by decide +kernel
theorem dX9_init_263 : decode cX9_init 263 = .ok (.bipush 30, 2) := by decide +kernel
theorem dX9_init_265 : decode cX9_init 265 = .ok (.newarray .int, 2) := by decide +kernel
theorem dX9_init_267 : decode cX9_init 267 = .ok (.putfield 111, 3) := by decide +kernel
theorem dX9_init_270 : decode cX9_init 270 = .ok (.aload_n 0, 1) := by decide +kernel
theorem dX9_init_271 : decode cX9_init 271 = .ok (.sipush 140, 3) := by decide +kernel
theorem dX9_init_274 : decode cX9_init 274 = .ok (.newarray .int, 2) := by decide +kernel
theorem dX9_init_276 : decode cX9_init 276 = .ok (.putfield 114, 3) := by decide +kernel
theorem dX9_init_279 : decode cX9_init 279 = .ok (.aload_n 0, 1) := by decide +kernel
theorem dX9_init_280 : decode cX9_init 280 = .ok (.iconst 2, 1) := by decide +kernel
theorem dX9_init_281 : decode cX9_init 281 = .ok (.newarray .boolean, 2) := by decide +kernel
theorem dX9_init_283 : decode cX9_init 283 = .ok (.putfield 117, 3) := by decide +kernel
theorem dX9_init_286 : decode cX9_init 286 = .ok (.aload_n 0, 1) := by decide +kernel
theorem dX9_init_287 : decode cX9_init 287 = .ok (.iconst 0, 1) := by decide +kernel
theorem dX9_init_288 : decode cX9_init 288 = .ok (.putfield 120, 3) := by decide +kernel
theorem dX9_init_291 : decode cX9_init 291 = .ok (.return_, 1) := by decide +kernel
theorem dX9_in_0 : decode cX9_in 0 = .ok (.lload_n 0, 1) := by decide +kernel
theorem dX9_in_1 : decode cX9_in 1 = .ok (.lload_n 2, 1) := by decide +kernel
theorem dX9_in_2 : decode cX9_in 2 = .ok (.lcmp, 1) := by decide +kernel
theorem dX9_in_3 : decode cX9_in 3 = .ok (.ifCond .lt 14, 3) := by decide +kernel
theorem dX9_in_6 : decode cX9_in 6 = .ok (.lload_n 0, 1) := by decide +kernel
theorem dX9_in_7 : decode cX9_in 7 = .ok (.lload 4, 2) := by decide +kernel
theorem dX9_in_9 : decode cX9_in 9 = .ok (.lcmp, 1) := by decide +kernel
theorem dX9_in_10 : decode cX9_in 10 = .ok (.ifCond .gt 7, 3) := by decide +kernel
theorem dX9_in_13 : decode cX9_in 13 = .ok (.iconst 1, 1) := by decide +kernel
theorem dX9_in_14 : decode cX9_in 14 = .ok (.goto 4, 3) := by decide +kernel
theorem dX9_in_17 : decode cX9_in 17 = .ok (.iconst 0, 1) := by decide +kernel
theorem dX9_in_18 : decode cX9_in 18 = .ok (.ireturn, 1) := by decide +kernel
theorem dX9_has_0 : decode cX9_has 0 = .ok (.lload_n 0, 1) := by decide +kernel
theorem dX9_has_1 : decode cX9_has 1 = .ok (.iload_n 2, 1) := by decide +kernel
theorem dX9_has_2 : decode cX9_has 2 = .ok (.lshr, 1) := by decide +kernel
theorem dX9_has_3 : decode cX9_has 3 = .ok (.lconst 1, 1) := by decide +kernel
theorem dX9_has_4 : decode cX9_has 4 = .ok (.land, 1) := by decide +kernel
theorem dX9_has_5 : decode cX9_has 5 = .ok (.lconst 1, 1) := by decide +kernel
theorem dX9_has_6 : decode cX9_has 6 = .ok (.lcmp, 1) := by decide +kernel
theorem dX9_has_7 : decode cX9_has 7 = .ok (.ifCond .ne 7, 3) := by decide +kernel
theorem dX9_has_10 : decode cX9_has 10 = .ok (.iconst 1, 1) := by decide +kernel
theorem dX9_has_11 : decode cX9_has 11 = .ok (.goto 4, 3) := by decide +kernel
theorem dX9_has_14 : decode cX9_has 14 = .ok (.iconst 0, 1) := by decide +kernel
theorem dX9_has_15 : decode cX9_has 15 = .ok (.ireturn, 1) := by decide +kernel
theorem dX9_bits_0 : decode cX9_bits 0 = .ok (.iconst 0, 1) := by decide +kernel
theorem dX9_bits_1 : decode cX9_bits 1 = .ok (.istore_n 2, 1) := by decide +kernel
theorem dX9_bits_2 : decode cX9_bits 2 = .ok (.iconst 0, 1) := by decide +kernel
theorem dX9_bits_3 : decode cX9_bits 3 = .ok (.istore_n 3, 1) := by decide +kernel
theorem dX9_bits_4 : decode cX9_bits 4 = .ok (.iload_n 3, 1) := by decide +kernel
theorem dX9_bits_5 : decode cX9_bits 5 = .ok (.bipush 48, 2) := by decide +kernel
theorem dX9_bits_7 : decode cX9_bits 7 = .ok (.if_icmp .ge 18, 3) := by decide +kernel
theorem dX9_bits_10 : decode cX9_bits 10 = .ok (.iload_n 2, 1) := by decide +kernel
theorem dX9_bits_11 : decode cX9_bits 11 = .ok (.lload_n 0, 1) := by decide +kernel
theorem dX9_bits_12 : decode cX9_bits 12 = .ok (.iload_n 3, 1) := by decide +kernel
theorem dX9_bits_13 : decode cX9_bits 13 = .ok (.lshr, 1) := by decide +kernel
theorem dX9_bits_14 : decode cX9_bits 14 = .ok (.lconst 1, 1) := by decide +kernel
theorem dX9_bits_15 : decode cX9_bits 15 = .ok (.land, 1) := by decide +kernel
theorem dX9_bits_16 : decode cX9_bits 16 = .ok (.l2i, 1) := by decide +kernel
theorem dX9_bits_17 : decode cX9_bits 17 = .ok (.iadd, 1) := by decide +kernel
theorem dX9_bits_18 : decode cX9_bits 18 = .ok (.istore_n 2, 1) := by decide +kernel
theorem dX9_bits_19 : decode cX9_bits 19 = .ok (.iinc 3 1, 3) := by decide +kernel
theorem dX9_bits_22 : decode cX9_bits 22 = .ok (.goto (-18), 3) := by decide +kernel
theorem dX9_bits_25 : decode cX9_bits 25 = .ok (.iload_n 2, 1) := by decide +kernel
theorem dX9_bits_26 : decode cX9_bits 26 = .ok (.ireturn, 1) := by decide +kernel
theorem dX9_isCell_0 : decode cX9_isCell 0 = .ok (.iload_n 1, 1) := by decide +kernel
theorem dX9_isCell_1 : decode cX9_isCell 1 = .ok (.i2l, 1) := by decide +kernel
theorem dX9_isCell_2 : decode cX9_isCell 2 = .ok (.lconst 0, 1) := by decide +kernel
theorem dX9_isCell_3 : decode cX9_isCell 3 = .ok (.aload_n 0, 1) := by decide +kernel
theorem dX9_isCell_4 : decode cX9_isCell 4 = .ok (.getfield 120, 3) := by decide +kernel
theorem dX9_isCell_7 : decode cX9_isCell 7 = .ok (.iconst 1, 1) := by decide +kernel
theorem dX9_isCell_8 : decode cX9_isCell 8 = .ok (.isub, 1) := by decide +kernel
theorem dX9_isCell_9 : decode cX9_isCell 9 = .ok (.i2l, 1) := by decide +kernel
theorem dX9_isCell_10 : decode cX9_isCell 10 = .ok (.invokestatic 123, 3) := by decide +kernel
theorem dX9_isCell_13 : decode cX9_isCell 13 = .ok (.ifCond .eq 23, 3) := by decide +kernel
theorem dX9_isCell_16 : decode cX9_isCell 16 = .ok (.iload_n 2, 1) := by decide +kernel
theorem dX9_isCell_17 : decode cX9_isCell 17 = .ok (.i2l, 1) := by decide +kernel
theorem dX9_isCell_18 : decode cX9_isCell 18 = .ok (.lconst 0, 1) := by decide +kernel
theorem dX9_isCell_19 : decode cX9_isCell 19 = .ok (.aload_n 0, 1) := by decide +kernel
theorem dX9_isCell_20 : decode cX9_isCell 20 = .ok (.getfield 127, 3) := by decide +kernel
theorem dX9_isCell_23 : decode cX9_isCell 23 = .ok (.iconst 1, 1) := by decide +kernel
theorem dX9_isCell_24 : decode cX9_isCell 24 = .ok (.isub, 1) := by decide +kernel
theorem dX9_isCell_25 : decode cX9_isCell 25 = .ok (.i2l, 1) := by decide +kernel
theorem dX9_isCell_26 : decode cX9_isCell 26 = .ok (.invokestatic 123, 3) := by decide +kernel
theorem dX9_isCell_29 : decode cX9_isCell 29 = .ok (.ifCond .eq 7, 3) := by decide +kernel
theorem dX9_isCell_32 : decode cX9_isCell 32 = .ok (.iconst 1, 1) := by decide +kernel
theorem dX9_isCell_33 : decode cX9_isCell 33 = .ok (.goto 4, 3) := by decide +kernel
theorem dX9_isCell_36 : decode cX9_isCell 36 = .ok (.iconst 0, 1) := by decide +kernel
theorem dX9_isCell_37 : decode cX9_isCell 37 = .ok (.ireturn, 1) := by decide +kernel
theorem dX9_isPerson_0 : decode cX9_isPerson 0 = .ok (.iload_n 1, 1) := by decide +kernel
theorem dX9_isPerson_1 : decode cX9_isPerson 1 = .ok (.i2l, 1) := by decide +kernel
theorem dX9_isPerson_2 : decode cX9_isPerson 2 = .ok (.lconst 0, 1) := by decide +kernel
theorem dX9_isPerson_3 : decode cX9_isPerson 3 = .ok (.aload_n 0, 1) := by decide +kernel
theorem dX9_isPerson_4 : decode cX9_isPerson 4 = .ok (.getfield 130, 3) := by decide +kernel
theorem dX9_isPerson_7 : decode cX9_isPerson 7 = .ok (.iconst 1, 1) := by decide +kernel
theorem dX9_isPerson_8 : decode cX9_isPerson 8 = .ok (.isub, 1) := by decide +kernel
theorem dX9_isPerson_9 : decode cX9_isPerson 9 = .ok (.i2l, 1) := by decide +kernel
theorem dX9_isPerson_10 : decode cX9_isPerson 10 = .ok (.invokestatic 123, 3) := by decide +kernel
theorem dX9_isPerson_13 : decode cX9_isPerson 13 = .ok (.ireturn, 1) := by decide +kernel
theorem dX9_isHour_0 : decode cX9_isHour 0 = .ok (.iload_n 1, 1) := by decide +kernel
theorem dX9_isHour_1 : decode cX9_isHour 1 = .ok (.i2l, 1) := by decide +kernel
theorem dX9_isHour_2 : decode cX9_isHour 2 = .ok (.lconst 0, 1) := by decide +kernel
theorem dX9_isHour_3 : decode cX9_isHour 3 = .ok (.aload_n 0, 1) := by decide +kernel
theorem dX9_isHour_4 : decode cX9_isHour 4 = .ok (.getfield 133, 3) := by decide +kernel
theorem dX9_isHour_7 : decode cX9_isHour 7 = .ok (.iconst 1, 1) := by decide +kernel
theorem dX9_isHour_8 : decode cX9_isHour 8 = .ok (.isub, 1) := by decide +kernel
theorem dX9_isHour_9 : decode cX9_isHour 9 = .ok (.i2l, 1) := by decide +kernel
theorem dX9_isHour_10 : decode cX9_isHour 10 = .ok (.invokestatic 123, 3) := by decide +kernel
theorem dX9_isHour_13 : decode cX9_isHour 13 = .ok (.ireturn, 1) := by decide +kernel
theorem dX9_cells_0 : decode cX9_cells 0 = .ok (.aload_n 0, 1) := by decide +kernel
theorem dX9_cells_1 : decode cX9_cells 1 = .ok (.getfield 120, 3) := by decide +kernel
theorem dX9_cells_4 : decode cX9_cells 4 = .ok (.aload_n 0, 1) := by decide +kernel
theorem dX9_cells_5 : decode cX9_cells 5 = .ok (.getfield 127, 3) := by decide +kernel
theorem dX9_cells_8 : decode cX9_cells 8 = .ok (.imul, 1) := by decide +kernel
theorem dX9_cells_9 : decode cX9_cells 9 = .ok (.ireturn, 1) := by decide +kernel
theorem dX9_told10_0 : decode cX9_told10 0 = .ok (.bipush 10, 2) := by decide +kernel
theorem dX9_told10_2 : decode cX9_told10 2 = .ok (.iload_n 1, 1) := by decide +kernel
theorem dX9_told10_3 : decode cX9_told10 3 = .ok (.aload_n 0, 1) := by decide +kernel
theorem dX9_told10_4 : decode cX9_told10 4 = .ok (.getfield 120, 3) := by decide +kernel
theorem dX9_told10_7 : decode cX9_told10 7 = .ok (.irem, 1) := by decide +kernel
theorem dX9_told10_8 : decode cX9_told10 8 = .ok (.imul, 1) := by decide +kernel
theorem dX9_told10_9 : decode cX9_told10 9 = .ok (.iload_n 1, 1) := by decide +kernel
theorem dX9_told10_10 : decode cX9_told10 10 = .ok (.aload_n 0, 1) := by decide +kernel
theorem dX9_told10_11 : decode cX9_told10 11 = .ok (.getfield 120, 3) := by decide +kernel
theorem dX9_told10_14 : decode cX9_told10 14 = .ok (.idiv, 1) := by decide +kernel
theorem dX9_told10_15 : decode cX9_told10 15 = .ok (.iadd, 1) := by decide +kernel
theorem dX9_told10_16 : decode cX9_told10 16 = .ok (.ireturn, 1) := by decide +kernel
theorem dX9_feed_0 : decode cX9_feed 0 = .ok (.iload_n 1, 1) := by decide +kernel
theorem dX9_feed_1 : decode cX9_feed 1 = .ok (.i2l, 1) := by decide +kernel
theorem dX9_feed_2 : decode cX9_feed 2 = .ok (.lconst 1, 1) := by decide +kernel
theorem dX9_feed_3 : decode cX9_feed 3 = .ok (.ldc2_w 136, 3) := by decide +kernel
theorem dX9_feed_6 : decode cX9_feed 6 = .ok (.invokestatic 123, 3) := by decide +kernel
theorem dX9_feed_9 : decode cX9_feed 9 = .ok (.ifCond .ne 6, 3) := by decide +kernel
theorem dX9_feed_12 : decode cX9_feed 12 = .ok (.ldc 138, 2) := by decide +kernel
theorem dX9_feed_14 : decode cX9_feed 14 = .ok (.ireturn, 1) := by decide +kernel
theorem dX9_feed_15 : decode cX9_feed 15 = .ok (.aload_n 0, 1) := by decide +kernel
theorem dX9_feed_16 : decode cX9_feed 16 = .ok (.getfield 139, 3) := by decide +kernel
theorem dX9_feed_19 : decode cX9_feed 19 = .ok (.iload_n 1, 1) := by decide +kernel
theorem dX9_feed_20 : decode cX9_feed 20 = .ok (.iadd, 1) := by decide +kernel
theorem dX9_feed_21 : decode cX9_feed 21 = .ok (.sipush 500, 3) := by decide +kernel
theorem dX9_feed_24 : decode cX9_feed 24 = .ok (.if_icmp .le 6, 3) := by decide +kernel
theorem dX9_feed_27 : decode cX9_feed 27 = .ok (.ldc 142, 2) := by decide +kernel
theorem dX9_feed_29 : decode cX9_feed 29 = .ok (.ireturn, 1) := by decide +kernel
theorem dX9_feed_30 : decode cX9_feed 30 = .ok (.iload_n 1, 1) := by decide +kernel
theorem dX9_feed_31 : decode cX9_feed 31 = .ok (.iconst 1, 1) := by decide +kernel
theorem dX9_feed_32 : decode cX9_feed 32 = .ok (.isub, 1) := by decide +kernel
theorem dX9_feed_33 : decode cX9_feed 33 = .ok (.istore 4, 2) := by decide +kernel
theorem dX9_feed_35 : decode cX9_feed 35 = .ok (.iload 4, 2) := by decide +kernel
theorem dX9_feed_37 : decode cX9_feed 37 = .ok (.ifCond .lt 40, 3) := by decide +kernel
theorem dX9_feed_40 : decode cX9_feed 40 = .ok (.aload_n 0, 1) := by decide +kernel
theorem dX9_feed_41 : decode cX9_feed 41 = .ok (.getfield 38, 3) := by decide +kernel
theorem dX9_feed_44 : decode cX9_feed 44 = .ok (.aload_n 0, 1) := by decide +kernel
theorem dX9_feed_45 : decode cX9_feed 45 = .ok (.getfield 139, 3) := by decide +kernel
theorem dX9_feed_48 : decode cX9_feed 48 = .ok (.lload_n 2, 1) := by decide +kernel
theorem dX9_feed_49 : decode cX9_feed 49 = .ok (.bipush 8, 2) := by decide +kernel
theorem dX9_feed_51 : decode cX9_feed 51 = .ok (.iload 4, 2) := by decide +kernel
theorem dX9_feed_53 : decode cX9_feed 53 = .ok (.imul, 1) := by decide +kernel
theorem dX9_feed_54 : decode cX9_feed 54 = .ok (.lshr, 1) := by decide +kernel
theorem dX9_feed_55 : decode cX9_feed 55 = .ok (.ldc2_w 143, 3) := by decide +kernel
theorem dX9_feed_58 : decode cX9_feed 58 = .ok (.land, 1) := by decide +kernel
theorem dX9_feed_59 : decode cX9_feed 59 = .ok (.l2i, 1) := by decide +kernel
theorem dX9_feed_60 : decode cX9_feed 60 = .ok (.iastore, 1) := by decide +kernel
theorem dX9_feed_61 : decode cX9_feed 61 = .ok (.aload_n 0, 1) := by decide +kernel
theorem dX9_feed_62 : decode cX9_feed 62 = .ok (.dup, 1) := by decide +kernel
theorem dX9_feed_63 : decode cX9_feed 63 = .ok (.getfield 139, 3) := by decide +kernel
theorem dX9_feed_66 : decode cX9_feed 66 = .ok (.iconst 1, 1) := by decide +kernel
theorem dX9_feed_67 : decode cX9_feed 67 = .ok (.iadd, 1) := by decide +kernel
theorem dX9_feed_68 : decode cX9_feed 68 = .ok (.putfield 139, 3) := by decide +kernel
theorem dX9_feed_71 : decode cX9_feed 71 = .ok (.iinc 4 (-1), 3) := by decide +kernel
theorem dX9_feed_74 : decode cX9_feed 74 = .ok (.goto (-39), 3) := by decide +kernel
theorem dX9_feed_77 : decode cX9_feed 77 = .ok (.aload_n 0, 1) := by decide +kernel
theorem dX9_feed_78 : decode cX9_feed 78 = .ok (.getfield 139, 3) := by decide +kernel
theorem dX9_feed_81 : decode cX9_feed 81 = .ok (.ireturn, 1) := by decide +kernel
theorem dX9_here_0 : decode cX9_here 0 = .ok (.aload_n 0, 1) := by decide +kernel
theorem dX9_here_1 : decode cX9_here 1 = .ok (.getfield 145, 3) := by decide +kernel
theorem dX9_here_4 : decode cX9_here 4 = .ok (.aload_n 0, 1) := by decide +kernel
theorem dX9_here_5 : decode cX9_here 5 = .ok (.getfield 139, 3) := by decide +kernel
theorem dX9_here_8 : decode cX9_here 8 = .ok (.if_icmp .ge 30, 3) := by decide +kernel
theorem dX9_here_11 : decode cX9_here 11 = .ok (.aload_n 0, 1) := by decide +kernel
theorem dX9_here_12 : decode cX9_here 12 = .ok (.getfield 38, 3) := by decide +kernel
theorem dX9_here_15 : decode cX9_here 15 = .ok (.aload_n 0, 1) := by decide +kernel
theorem dX9_here_16 : decode cX9_here 16 = .ok (.getfield 145, 3) := by decide +kernel
theorem dX9_here_19 : decode cX9_here 19 = .ok (.iaload, 1) := by decide +kernel
theorem dX9_here_20 : decode cX9_here 20 = .ok (.bipush 32, 2) := by decide +kernel
theorem dX9_here_22 : decode cX9_here 22 = .ok (.if_icmp .ne 16, 3) := by decide +kernel
theorem dX9_here_25 : decode cX9_here 25 = .ok (.aload_n 0, 1) := by decide +kernel
theorem dX9_here_26 : decode cX9_here 26 = .ok (.dup, 1) := by decide +kernel
theorem dX9_here_27 : decode cX9_here 27 = .ok (.getfield 145, 3) := by decide +kernel
theorem dX9_here_30 : decode cX9_here 30 = .ok (.iconst 1, 1) := by decide +kernel
theorem dX9_here_31 : decode cX9_here 31 = .ok (.iadd, 1) := by decide +kernel
theorem dX9_here_32 : decode cX9_here 32 = .ok (.putfield 145, 3) := by decide +kernel
theorem dX9_here_35 : decode cX9_here 35 = .ok (.goto (-35), 3) := by decide +kernel
theorem dX9_here_38 : decode cX9_here 38 = .ok (.aload_n 0, 1) := by decide +kernel
theorem dX9_here_39 : decode cX9_here 39 = .ok (.getfield 145, 3) := by decide +kernel
theorem dX9_here_42 : decode cX9_here 42 = .ok (.aload_n 0, 1) := by decide +kernel
theorem dX9_here_43 : decode cX9_here 43 = .ok (.getfield 139, 3) := by decide +kernel
theorem dX9_here_46 : decode cX9_here 46 = .ok (.if_icmp .ge 15, 3) := by decide +kernel
theorem dX9_here_49 : decode cX9_here 49 = .ok (.aload_n 0, 1) := by decide +kernel
theorem dX9_here_50 : decode cX9_here 50 = .ok (.getfield 38, 3) := by decide +kernel
theorem dX9_here_53 : decode cX9_here 53 = .ok (.aload_n 0, 1) := by decide +kernel
theorem dX9_here_54 : decode cX9_here 54 = .ok (.getfield 145, 3) := by decide +kernel
theorem dX9_here_57 : decode cX9_here 57 = .ok (.iaload, 1) := by decide +kernel
theorem dX9_here_58 : decode cX9_here 58 = .ok (.goto 4, 3) := by decide +kernel
theorem dX9_here_61 : decode cX9_here 61 = .ok (.iconst (-1), 1) := by decide +kernel
theorem dX9_here_62 : decode cX9_here 62 = .ok (.ireturn, 1) := by decide +kernel
theorem dX9_fails_0 : decode cX9_fails 0 = .ok (.aload_n 0, 1) := by decide +kernel
theorem dX9_fails_1 : decode cX9_fails 1 = .ok (.iload_n 2, 1) := by decide +kernel
theorem dX9_fails_2 : decode cX9_fails 2 = .ok (.putfield 41, 3) := by decide +kernel
theorem dX9_fails_5 : decode cX9_fails 5 = .ok (.iload_n 1, 1) := by decide +kernel
theorem dX9_fails_6 : decode cX9_fails 6 = .ok (.ireturn, 1) := by decide +kernel
theorem dX9_readWord_0 : decode cX9_readWord 0 = .ok (.aload_n 0, 1) := by decide +kernel
theorem dX9_readWord_1 : decode cX9_readWord 1 = .ok (.invokevirtual 148, 3) := by decide +kernel
theorem dX9_readWord_4 : decode cX9_readWord 4 = .ok (.istore_n 1, 1) := by decide +kernel
theorem dX9_readWord_5 : decode cX9_readWord 5 = .ok (.aload_n 0, 1) := by decide +kernel
theorem dX9_readWord_6 : decode cX9_readWord 6 = .ok (.lconst 0, 1) := by decide +kernel
theorem dX9_readWord_7 : decode cX9_readWord 7 = .ok (.putfield 152, 3) := by decide +kernel
theorem dX9_readWord_10 : decode cX9_readWord 10 = .ok (.aload_n 0, 1) := by decide +kernel
theorem dX9_readWord_11 : decode cX9_readWord 11 = .ok (.aload_n 0, 1) := by decide +kernel
theorem dX9_readWord_12 : decode cX9_readWord 12 = .ok (.getfield 145, 3) := by decide +kernel
theorem dX9_readWord_15 : decode cX9_readWord 15 = .ok (.putfield 156, 3) := by decide +kernel
theorem dX9_readWord_18 : decode cX9_readWord 18 = .ok (.aload_n 0, 1) := by decide +kernel
theorem dX9_readWord_19 : decode cX9_readWord 19 = .ok (.getfield 156, 3) := by decide +kernel
theorem dX9_readWord_22 : decode cX9_readWord 22 = .ok (.aload_n 0, 1) := by decide +kernel
theorem dX9_readWord_23 : decode cX9_readWord 23 = .ok (.getfield 139, 3) := by decide +kernel
theorem dX9_readWord_26 : decode cX9_readWord 26 = .ok (.if_icmp .ge 82, 3) := by decide +kernel
theorem dX9_readWord_29 : decode cX9_readWord 29 = .ok (.aload_n 0, 1) := by decide +kernel
theorem dX9_readWord_30 : decode cX9_readWord 30 = .ok (.getfield 38, 3) := by decide +kernel
theorem dX9_readWord_33 : decode cX9_readWord 33 = .ok (.aload_n 0, 1) := by decide +kernel
theorem dX9_readWord_34 : decode cX9_readWord 34 = .ok (.getfield 156, 3) := by decide +kernel
theorem dX9_readWord_37 : decode cX9_readWord 37 = .ok (.iaload, 1) := by decide +kernel
theorem dX9_readWord_38 : decode cX9_readWord 38 = .ok (.i2l, 1) := by decide +kernel
theorem dX9_readWord_39 : decode cX9_readWord 39 = .ok (.ldc2_w 159, 3) := by decide +kernel
theorem dX9_readWord_42 : decode cX9_readWord 42 = .ok (.ldc2_w 161, 3) := by decide +kernel
theorem dX9_readWord_45 : decode cX9_readWord 45 = .ok (.invokestatic 123, 3) := by decide +kernel
theorem dX9_readWord_48 : decode cX9_readWord 48 = .ok (.ifCond .eq 60, 3) := by decide +kernel
theorem dX9_readWord_51 : decode cX9_readWord 51 = .ok (.aload_n 0, 1) := by decide +kernel
theorem dX9_readWord_52 : decode cX9_readWord 52 = .ok (.aload_n 0, 1) := by decide +kernel
theorem dX9_readWord_53 : decode cX9_readWord 53 = .ok (.getfield 152, 3) := by decide +kernel
theorem dX9_readWord_56 : decode cX9_readWord 56 = .ok (.ldc2_w 163, 3) := by decide +kernel
theorem dX9_readWord_59 : decode cX9_readWord 59 = .ok (.lcmp, 1) := by decide +kernel
theorem dX9_readWord_60 : decode cX9_readWord 60 = .ok (.ifCond .le 9, 3) := by decide +kernel
theorem dX9_readWord_63 : decode cX9_readWord 63 = .ok (.ldc2_w 165, 3) := by decide +kernel
theorem dX9_readWord_66 : decode cX9_readWord 66 = .ok (.goto 26, 3) := by decide +kernel
theorem dX9_readWord_69 : decode cX9_readWord 69 = .ok (.ldc2_w 167, 3) := by decide +kernel
theorem dX9_readWord_72 : decode cX9_readWord 72 = .ok (.aload_n 0, 1) := by decide +kernel
theorem dX9_readWord_73 : decode cX9_readWord 73 = .ok (.getfield 152, 3) := by decide +kernel
theorem dX9_readWord_76 : decode cX9_readWord 76 = .ok (.lmul, 1) := by decide +kernel
theorem dX9_readWord_77 : decode cX9_readWord 77 = .ok (.aload_n 0, 1) := by decide +kernel
theorem dX9_readWord_78 : decode cX9_readWord 78 = .ok (.getfield 38, 3) := by decide +kernel
theorem dX9_readWord_81 : decode cX9_readWord 81 = .ok (.aload_n 0, 1) := by decide +kernel
theorem dX9_readWord_82 : decode cX9_readWord 82 = .ok (.getfield 156, 3) := by decide +kernel
theorem dX9_readWord_85 : decode cX9_readWord 85 = .ok (.iaload, 1) := by decide +kernel
theorem dX9_readWord_86 : decode cX9_readWord 86 = .ok (.i2l, 1) := by decide +kernel
theorem dX9_readWord_87 : decode cX9_readWord 87 = .ok (.ladd, 1) := by decide +kernel
theorem dX9_readWord_88 : decode cX9_readWord 88 = .ok (.ldc2_w 169, 3) := by decide +kernel
theorem dX9_readWord_91 : decode cX9_readWord 91 = .ok (.lsub, 1) := by decide +kernel
theorem dX9_readWord_92 : decode cX9_readWord 92 = .ok (.putfield 152, 3) := by decide +kernel
theorem dX9_readWord_95 : decode cX9_readWord 95 = .ok (.aload_n 0, 1) := by decide +kernel
theorem dX9_readWord_96 : decode cX9_readWord 96 = .ok (.dup, 1) := by decide +kernel
theorem dX9_readWord_97 : decode cX9_readWord 97 = .ok (.getfield 156, 3) := by decide +kernel
theorem dX9_readWord_100 : decode cX9_readWord 100 = .ok (.iconst 1, 1) := by decide +kernel
theorem dX9_readWord_101 : decode cX9_readWord 101 = .ok (.iadd, 1) := by decide +kernel
theorem dX9_readWord_102 : decode cX9_readWord 102 = .ok (.putfield 156, 3) := by decide +kernel
theorem dX9_readWord_105 : decode cX9_readWord 105 = .ok (.goto (-87), 3) := by decide +kernel
theorem dX9_readWord_108 : decode cX9_readWord 108 = .ok (.return_, 1) := by decide +kernel
theorem dX9_code_0 : decode cX9_code 0 = .ok (.ldc2_w 167, 3) := by decide +kernel
theorem dX9_code_3 : decode cX9_code 3 = .ok (.ldc2_w 167, 3) := by decide +kernel
theorem dX9_code_6 : decode cX9_code 6 = .ok (.iload_n 0, 1) := by decide +kernel
theorem dX9_code_7 : decode cX9_code 7 = .ok (.i2l, 1) := by decide +kernel
theorem dX9_code_8 : decode cX9_code 8 = .ok (.ldc2_w 169, 3) := by decide +kernel
theorem dX9_code_11 : decode cX9_code 11 = .ok (.lsub, 1) := by decide +kernel
theorem dX9_code_12 : decode cX9_code 12 = .ok (.lmul, 1) := by decide +kernel
theorem dX9_code_13 : decode cX9_code 13 = .ok (.iload_n 1, 1) := by decide +kernel
theorem dX9_code_14 : decode cX9_code 14 = .ok (.i2l, 1) := by decide +kernel
theorem dX9_code_15 : decode cX9_code 15 = .ok (.ladd, 1) := by decide +kernel
theorem dX9_code_16 : decode cX9_code 16 = .ok (.ldc2_w 169, 3) := by decide +kernel
theorem dX9_code_19 : decode cX9_code 19 = .ok (.lsub, 1) := by decide +kernel
theorem dX9_code_20 : decode cX9_code 20 = .ok (.lmul, 1) := by decide +kernel
theorem dX9_code_21 : decode cX9_code 21 = .ok (.iload_n 2, 1) := by decide +kernel
theorem dX9_code_22 : decode cX9_code 22 = .ok (.i2l, 1) := by decide +kernel
theorem dX9_code_23 : decode cX9_code 23 = .ok (.ladd, 1) := by decide +kernel
theorem dX9_code_24 : decode cX9_code 24 = .ok (.ldc2_w 169, 3) := by decide +kernel
theorem dX9_code_27 : decode cX9_code 27 = .ok (.lsub, 1) := by decide +kernel
theorem dX9_code_28 : decode cX9_code 28 = .ok (.lreturn, 1) := by decide +kernel
theorem dX9_longer_0 : decode cX9_longer 0 = .ok (.iload_n 3, 1) := by decide +kernel
theorem dX9_longer_1 : decode cX9_longer 1 = .ok (.ifCond .ne 18, 3) := by decide +kernel
theorem dX9_longer_4 : decode cX9_longer 4 = .ok (.ldc2_w 167, 3) := by decide +kernel
theorem dX9_longer_7 : decode cX9_longer 7 = .ok (.lload_n 0, 1) := by decide +kernel
theorem dX9_longer_8 : decode cX9_longer 8 = .ok (.lmul, 1) := by decide +kernel
theorem dX9_longer_9 : decode cX9_longer 9 = .ok (.iload_n 2, 1) := by decide +kernel
theorem dX9_longer_10 : decode cX9_longer 10 = .ok (.i2l, 1) := by decide +kernel
theorem dX9_longer_11 : decode cX9_longer 11 = .ok (.ladd, 1) := by decide +kernel
theorem dX9_longer_12 : decode cX9_longer 12 = .ok (.ldc2_w 169, 3) := by decide +kernel
theorem dX9_longer_15 : decode cX9_longer 15 = .ok (.lsub, 1) := by decide +kernel
theorem dX9_longer_16 : decode cX9_longer 16 = .ok (.goto 26, 3) := by decide +kernel
theorem dX9_longer_19 : decode cX9_longer 19 = .ok (.ldc2_w 167, 3) := by decide +kernel
theorem dX9_longer_22 : decode cX9_longer 22 = .ok (.ldc2_w 167, 3) := by decide +kernel
theorem dX9_longer_25 : decode cX9_longer 25 = .ok (.lload_n 0, 1) := by decide +kernel
theorem dX9_longer_26 : decode cX9_longer 26 = .ok (.lmul, 1) := by decide +kernel
theorem dX9_longer_27 : decode cX9_longer 27 = .ok (.iload_n 2, 1) := by decide +kernel
theorem dX9_longer_28 : decode cX9_longer 28 = .ok (.i2l, 1) := by decide +kernel
theorem dX9_longer_29 : decode cX9_longer 29 = .ok (.ladd, 1) := by decide +kernel
theorem dX9_longer_30 : decode cX9_longer 30 = .ok (.ldc2_w 169, 3) := by decide +kernel
theorem dX9_longer_33 : decode cX9_longer 33 = .ok (.lsub, 1) := by decide +kernel
theorem dX9_longer_34 : decode cX9_longer 34 = .ok (.lmul, 1) := by decide +kernel
theorem dX9_longer_35 : decode cX9_longer 35 = .ok (.iload_n 3, 1) := by decide +kernel
theorem dX9_longer_36 : decode cX9_longer 36 = .ok (.i2l, 1) := by decide +kernel
theorem dX9_longer_37 : decode cX9_longer 37 = .ok (.ladd, 1) := by decide +kernel
theorem dX9_longer_38 : decode cX9_longer 38 = .ok (.ldc2_w 169, 3) := by decide +kernel
theorem dX9_longer_41 : decode cX9_longer 41 = .ok (.lsub, 1) := by decide +kernel
theorem dX9_longer_42 : decode cX9_longer 42 = .ok (.lreturn, 1) := by decide +kernel
theorem dX9_takeNumber_0 : decode cX9_takeNumber 0 = .ok (.aload_n 0, 1) := by decide +kernel
theorem dX9_takeNumber_1 : decode cX9_takeNumber 1 = .ok (.invokevirtual 148, 3) := by decide +kernel
theorem dX9_takeNumber_4 : decode cX9_takeNumber 4 = .ok (.istore_n 3, 1) := by decide +kernel
theorem dX9_takeNumber_5 : decode cX9_takeNumber 5 = .ok (.iload_n 3, 1) := by decide +kernel
theorem dX9_takeNumber_6 : decode cX9_takeNumber 6 = .ok (.i2l, 1) := by decide +kernel
theorem dX9_takeNumber_7 : decode cX9_takeNumber 7 = .ok (.ldc2_w 171, 3) := by decide +kernel
theorem dX9_takeNumber_10 : decode cX9_takeNumber 10 = .ok (.ldc2_w 173, 3) := by decide +kernel
theorem dX9_takeNumber_13 : decode cX9_takeNumber 13 = .ok (.invokestatic 123, 3) := by decide +kernel
theorem dX9_takeNumber_16 : decode cX9_takeNumber 16 = .ok (.ifCond .ne 13, 3) := by decide +kernel
theorem dX9_takeNumber_19 : decode cX9_takeNumber 19 = .ok (.aload_n 0, 1) := by decide +kernel
theorem dX9_takeNumber_20 : decode cX9_takeNumber 20 = .ok (.iconst 1, 1) := by decide +kernel
theorem dX9_takeNumber_21 : decode cX9_takeNumber 21 = .ok (.aload_n 0, 1) := by decide +kernel
theorem dX9_takeNumber_22 : decode cX9_takeNumber 22 = .ok (.getfield 145, 3) := by decide +kernel
theorem dX9_takeNumber_25 : decode cX9_takeNumber 25 = .ok (.invokevirtual 175, 3) := by decide +kernel
theorem dX9_takeNumber_28 : decode cX9_takeNumber 28 = .ok (.ireturn, 1) := by decide +kernel
theorem dX9_takeNumber_29 : decode cX9_takeNumber 29 = .ok (.aload_n 0, 1) := by decide +kernel
theorem dX9_takeNumber_30 : decode cX9_takeNumber 30 = .ok (.aload_n 0, 1) := by decide +kernel
theorem dX9_takeNumber_31 : decode cX9_takeNumber 31 = .ok (.getfield 145, 3) := by decide +kernel
theorem dX9_takeNumber_34 : decode cX9_takeNumber 34 = .ok (.putfield 179, 3) := by decide +kernel
theorem dX9_takeNumber_37 : decode cX9_takeNumber 37 = .ok (.aload_n 0, 1) := by decide +kernel
theorem dX9_takeNumber_38 : decode cX9_takeNumber 38 = .ok (.iconst 0, 1) := by decide +kernel
theorem dX9_takeNumber_39 : decode cX9_takeNumber 39 = .ok (.putfield 182, 3) := by decide +kernel
theorem dX9_takeNumber_42 : decode cX9_takeNumber 42 = .ok (.aload_n 0, 1) := by decide +kernel
theorem dX9_takeNumber_43 : decode cX9_takeNumber 43 = .ok (.getfield 145, 3) := by decide +kernel
theorem dX9_takeNumber_46 : decode cX9_takeNumber 46 = .ok (.aload_n 0, 1) := by decide +kernel
theorem dX9_takeNumber_47 : decode cX9_takeNumber 47 = .ok (.getfield 139, 3) := by decide +kernel
theorem dX9_takeNumber_50 : decode cX9_takeNumber 50 = .ok (.if_icmp .ge 79, 3) := by decide +kernel
theorem dX9_takeNumber_53 : decode cX9_takeNumber 53 = .ok (.aload_n 0, 1) := by decide +kernel
theorem dX9_takeNumber_54 : decode cX9_takeNumber 54 = .ok (.getfield 38, 3) := by decide +kernel
theorem dX9_takeNumber_57 : decode cX9_takeNumber 57 = .ok (.aload_n 0, 1) := by decide +kernel
theorem dX9_takeNumber_58 : decode cX9_takeNumber 58 = .ok (.getfield 145, 3) := by decide +kernel
theorem dX9_takeNumber_61 : decode cX9_takeNumber 61 = .ok (.iaload, 1) := by decide +kernel
theorem dX9_takeNumber_62 : decode cX9_takeNumber 62 = .ok (.i2l, 1) := by decide +kernel
theorem dX9_takeNumber_63 : decode cX9_takeNumber 63 = .ok (.ldc2_w 171, 3) := by decide +kernel
theorem dX9_takeNumber_66 : decode cX9_takeNumber 66 = .ok (.ldc2_w 173, 3) := by decide +kernel
theorem dX9_takeNumber_69 : decode cX9_takeNumber 69 = .ok (.invokestatic 123, 3) := by decide +kernel
theorem dX9_takeNumber_72 : decode cX9_takeNumber 72 = .ok (.ifCond .eq 57, 3) := by decide +kernel
theorem dX9_takeNumber_75 : decode cX9_takeNumber 75 = .ok (.aload_n 0, 1) := by decide +kernel
theorem dX9_takeNumber_76 : decode cX9_takeNumber 76 = .ok (.aload_n 0, 1) := by decide +kernel
theorem dX9_takeNumber_77 : decode cX9_takeNumber 77 = .ok (.getfield 182, 3) := by decide +kernel
theorem dX9_takeNumber_80 : decode cX9_takeNumber 80 = .ok (.sipush 10000, 3) := by decide +kernel
theorem dX9_takeNumber_83 : decode cX9_takeNumber 83 = .ok (.if_icmp .le 10, 3) := by decide +kernel
theorem dX9_takeNumber_86 : decode cX9_takeNumber 86 = .ok (.aload_n 0, 1) := by decide +kernel
theorem dX9_takeNumber_87 : decode cX9_takeNumber 87 = .ok (.getfield 182, 3) := by decide +kernel
theorem dX9_takeNumber_90 : decode cX9_takeNumber 90 = .ok (.goto 23, 3) := by decide +kernel
theorem dX9_takeNumber_93 : decode cX9_takeNumber 93 = .ok (.bipush 10, 2) := by decide +kernel
theorem dX9_takeNumber_95 : decode cX9_takeNumber 95 = .ok (.aload_n 0, 1) := by decide +kernel
theorem dX9_takeNumber_96 : decode cX9_takeNumber 96 = .ok (.getfield 182, 3) := by decide +kernel
theorem dX9_takeNumber_99 : decode cX9_takeNumber 99 = .ok (.imul, 1) := by decide +kernel
theorem dX9_takeNumber_100 : decode cX9_takeNumber 100 = .ok (.aload_n 0, 1) := by decide +kernel
theorem dX9_takeNumber_101 : decode cX9_takeNumber 101 = .ok (.getfield 38, 3) := by decide +kernel
theorem dX9_takeNumber_104 : decode cX9_takeNumber 104 = .ok (.aload_n 0, 1) := by decide +kernel
theorem dX9_takeNumber_105 : decode cX9_takeNumber 105 = .ok (.getfield 145, 3) := by decide +kernel
theorem dX9_takeNumber_108 : decode cX9_takeNumber 108 = .ok (.iaload, 1) := by decide +kernel
theorem dX9_takeNumber_109 : decode cX9_takeNumber 109 = .ok (.iadd, 1) := by decide +kernel
theorem dX9_takeNumber_110 : decode cX9_takeNumber 110 = .ok (.bipush 48, 2) := by decide +kernel
theorem dX9_takeNumber_112 : decode cX9_takeNumber 112 = .ok (.isub, 1) := by decide +kernel
theorem dX9_takeNumber_113 : decode cX9_takeNumber 113 = .ok (.putfield 182, 3) := by decide +kernel
theorem dX9_takeNumber_116 : decode cX9_takeNumber 116 = .ok (.aload_n 0, 1) := by decide +kernel
theorem dX9_takeNumber_117 : decode cX9_takeNumber 117 = .ok (.dup, 1) := by decide +kernel
theorem dX9_takeNumber_118 : decode cX9_takeNumber 118 = .ok (.getfield 145, 3) := by decide +kernel
theorem dX9_takeNumber_121 : decode cX9_takeNumber 121 = .ok (.iconst 1, 1) := by decide +kernel
theorem dX9_takeNumber_122 : decode cX9_takeNumber 122 = .ok (.iadd, 1) := by decide +kernel
theorem dX9_takeNumber_123 : decode cX9_takeNumber 123 = .ok (.putfield 145, 3) := by decide +kernel
theorem dX9_takeNumber_126 : decode cX9_takeNumber 126 = .ok (.goto (-84), 3) := by decide +kernel
theorem dX9_takeNumber_129 : decode cX9_takeNumber 129 = .ok (.aload_n 0, 1) := by decide +kernel
theorem dX9_takeNumber_130 : decode cX9_takeNumber 130 = .ok (.getfield 145, 3) := by decide +kernel
theorem dX9_takeNumber_133 : decode cX9_takeNumber 133 = .ok (.aload_n 0, 1) := by decide +kernel
theorem dX9_takeNumber_134 : decode cX9_takeNumber 134 = .ok (.getfield 179, 3) := by decide +kernel
theorem dX9_takeNumber_137 : decode cX9_takeNumber 137 = .ok (.isub, 1) := by decide +kernel
theorem dX9_takeNumber_138 : decode cX9_takeNumber 138 = .ok (.iconst 3, 1) := by decide +kernel
theorem dX9_takeNumber_139 : decode cX9_takeNumber 139 = .ok (.if_icmp .gt 18, 3) := by decide +kernel
theorem dX9_takeNumber_142 : decode cX9_takeNumber 142 = .ok (.aload_n 0, 1) := by decide +kernel
theorem dX9_takeNumber_143 : decode cX9_takeNumber 143 = .ok (.getfield 182, 3) := by decide +kernel
theorem dX9_takeNumber_146 : decode cX9_takeNumber 146 = .ok (.i2l, 1) := by decide +kernel
theorem dX9_takeNumber_147 : decode cX9_takeNumber 147 = .ok (.iload_n 1, 1) := by decide +kernel
theorem dX9_takeNumber_148 : decode cX9_takeNumber 148 = .ok (.i2l, 1) := by decide +kernel
theorem dX9_takeNumber_149 : decode cX9_takeNumber 149 = .ok (.iload_n 2, 1) := by decide +kernel
theorem dX9_takeNumber_150 : decode cX9_takeNumber 150 = .ok (.i2l, 1) := by decide +kernel
theorem dX9_takeNumber_151 : decode cX9_takeNumber 151 = .ok (.invokestatic 123, 3) := by decide +kernel
theorem dX9_takeNumber_154 : decode cX9_takeNumber 154 = .ok (.ifCond .ne 15, 3) := by decide +kernel
theorem dX9_takeNumber_157 : decode cX9_takeNumber 157 = .ok (.aload_n 0, 1) := by decide +kernel
theorem dX9_takeNumber_158 : decode cX9_takeNumber 158 = .ok (.iconst 2, 1) := by decide +kernel
theorem dX9_takeNumber_159 : decode cX9_takeNumber 159 = .ok (.aload_n 0, 1) := by decide +kernel
theorem dX9_takeNumber_160 : decode cX9_takeNumber 160 = .ok (.getfield 179, 3) := by decide +kernel
theorem dX9_takeNumber_163 : decode cX9_takeNumber 163 = .ok (.invokevirtual 175, 3) := by decide +kernel
theorem dX9_takeNumber_166 : decode cX9_takeNumber 166 = .ok (.goto 4, 3) := by decide +kernel
theorem dX9_takeNumber_169 : decode cX9_takeNumber 169 = .ok (.iconst 0, 1) := by decide +kernel
theorem dX9_takeNumber_170 : decode cX9_takeNumber 170 = .ok (.ireturn, 1) := by decide +kernel
theorem dX9_into_0 : decode cX9_into 0 = .ok (.aload_n 0, 1) := by decide +kernel
theorem dX9_into_1 : decode cX9_into 1 = .ok (.iload_n 3, 1) := by decide +kernel
theorem dX9_into_2 : decode cX9_into 2 = .ok (.iload 4, 2) := by decide +kernel
theorem dX9_into_4 : decode cX9_into 4 = .ok (.invokevirtual 185, 3) := by decide +kernel
theorem dX9_into_7 : decode cX9_into 7 = .ok (.istore 5, 2) := by decide +kernel
theorem dX9_into_9 : decode cX9_into 9 = .ok (.aload_n 1, 1) := by decide +kernel
theorem dX9_into_10 : decode cX9_into 10 = .ok (.iload_n 2, 1) := by decide +kernel
theorem dX9_into_11 : decode cX9_into 11 = .ok (.aload_n 0, 1) := by decide +kernel
theorem dX9_into_12 : decode cX9_into 12 = .ok (.getfield 182, 3) := by decide +kernel
theorem dX9_into_15 : decode cX9_into 15 = .ok (.iastore, 1) := by decide +kernel
theorem dX9_into_16 : decode cX9_into 16 = .ok (.iload 5, 2) := by decide +kernel
theorem dX9_into_18 : decode cX9_into 18 = .ok (.ireturn, 1) := by decide +kernel
theorem dX9_takeGround_0 : decode cX9_takeGround 0 = .ok (.aload_n 0, 1) := by decide +kernel
theorem dX9_takeGround_1 : decode cX9_takeGround 1 = .ok (.iconst 1, 1) := by decide +kernel
theorem dX9_takeGround_2 : decode cX9_takeGround 2 = .ok (.bipush 9, 2) := by decide +kernel
theorem dX9_takeGround_4 : decode cX9_takeGround 4 = .ok (.invokevirtual 185, 3) := by decide +kernel
theorem dX9_takeGround_7 : decode cX9_takeGround 7 = .ok (.istore_n 1, 1) := by decide +kernel
theorem dX9_takeGround_8 : decode cX9_takeGround 8 = .ok (.aload_n 0, 1) := by decide +kernel
theorem dX9_takeGround_9 : decode cX9_takeGround 9 = .ok (.getfield 182, 3) := by decide +kernel
theorem dX9_takeGround_12 : decode cX9_takeGround 12 = .ok (.istore_n 2, 1) := by decide +kernel
theorem dX9_takeGround_13 : decode cX9_takeGround 13 = .ok (.iload_n 1, 1) := by decide +kernel
theorem dX9_takeGround_14 : decode cX9_takeGround 14 = .ok (.ifCond .le 7, 3) := by decide +kernel
theorem dX9_takeGround_17 : decode cX9_takeGround 17 = .ok (.iload_n 1, 1) := by decide +kernel
theorem dX9_takeGround_18 : decode cX9_takeGround 18 = .ok (.goto 10, 3) := by decide +kernel
theorem dX9_takeGround_21 : decode cX9_takeGround 21 = .ok (.aload_n 0, 1) := by decide +kernel
theorem dX9_takeGround_22 : decode cX9_takeGround 22 = .ok (.iconst 1, 1) := by decide +kernel
theorem dX9_takeGround_23 : decode cX9_takeGround 23 = .ok (.bipush 9, 2) := by decide +kernel
theorem dX9_takeGround_25 : decode cX9_takeGround 25 = .ok (.invokevirtual 185, 3) := by decide +kernel
theorem dX9_takeGround_28 : decode cX9_takeGround 28 = .ok (.istore_n 1, 1) := by decide +kernel
theorem dX9_takeGround_29 : decode cX9_takeGround 29 = .ok (.iload_n 1, 1) := by decide +kernel
theorem dX9_takeGround_30 : decode cX9_takeGround 30 = .ok (.ifCond .le 5, 3) := by decide +kernel
theorem dX9_takeGround_33 : decode cX9_takeGround 33 = .ok (.iload_n 1, 1) := by decide +kernel
theorem dX9_takeGround_34 : decode cX9_takeGround 34 = .ok (.ireturn, 1) := by decide +kernel
theorem dX9_takeGround_35 : decode cX9_takeGround 35 = .ok (.iload_n 2, 1) := by decide +kernel
theorem dX9_takeGround_36 : decode cX9_takeGround 36 = .ok (.aload_n 0, 1) := by decide +kernel
theorem dX9_takeGround_37 : decode cX9_takeGround 37 = .ok (.getfield 182, 3) := by decide +kernel
theorem dX9_takeGround_40 : decode cX9_takeGround 40 = .ok (.imul, 1) := by decide +kernel
theorem dX9_takeGround_41 : decode cX9_takeGround 41 = .ok (.bipush 48, 2) := by decide +kernel
theorem dX9_takeGround_43 : decode cX9_takeGround 43 = .ok (.if_icmp .le 13, 3) := by decide +kernel
theorem dX9_takeGround_46 : decode cX9_takeGround 46 = .ok (.aload_n 0, 1) := by decide +kernel
theorem dX9_takeGround_47 : decode cX9_takeGround 47 = .ok (.iconst 2, 1) := by decide +kernel
theorem dX9_takeGround_48 : decode cX9_takeGround 48 = .ok (.aload_n 0, 1) := by decide +kernel
theorem dX9_takeGround_49 : decode cX9_takeGround 49 = .ok (.getfield 179, 3) := by decide +kernel
theorem dX9_takeGround_52 : decode cX9_takeGround 52 = .ok (.invokevirtual 175, 3) := by decide +kernel
theorem dX9_takeGround_55 : decode cX9_takeGround 55 = .ok (.ireturn, 1) := by decide +kernel
theorem dX9_takeGround_56 : decode cX9_takeGround 56 = .ok (.aload_n 0, 1) := by decide +kernel
theorem dX9_takeGround_57 : decode cX9_takeGround 57 = .ok (.iload_n 2, 1) := by decide +kernel
theorem dX9_takeGround_58 : decode cX9_takeGround 58 = .ok (.putfield 188, 3) := by decide +kernel
theorem dX9_takeGround_61 : decode cX9_takeGround 61 = .ok (.aload_n 0, 1) := by decide +kernel
theorem dX9_takeGround_62 : decode cX9_takeGround 62 = .ok (.aload_n 0, 1) := by decide +kernel
theorem dX9_takeGround_63 : decode cX9_takeGround 63 = .ok (.getfield 182, 3) := by decide +kernel
theorem dX9_takeGround_66 : decode cX9_takeGround 66 = .ok (.putfield 191, 3) := by decide +kernel
theorem dX9_takeGround_69 : decode cX9_takeGround 69 = .ok (.iconst 0, 1) := by decide +kernel
theorem dX9_takeGround_70 : decode cX9_takeGround 70 = .ok (.ireturn, 1) := by decide +kernel
theorem dX9_takeCell_0 : decode cX9_takeCell 0 = .ok (.aload_n 0, 1) := by decide +kernel
theorem dX9_takeCell_1 : decode cX9_takeCell 1 = .ok (.iconst 0, 1) := by decide +kernel
theorem dX9_takeCell_2 : decode cX9_takeCell 2 = .ok (.aload_n 0, 1) := by decide +kernel
theorem dX9_takeCell_3 : decode cX9_takeCell 3 = .ok (.getfield 188, 3) := by decide +kernel
theorem dX9_takeCell_6 : decode cX9_takeCell 6 = .ok (.iconst 1, 1) := by decide +kernel
theorem dX9_takeCell_7 : decode cX9_takeCell 7 = .ok (.isub, 1) := by decide +kernel
theorem dX9_takeCell_8 : decode cX9_takeCell 8 = .ok (.invokevirtual 185, 3) := by decide +kernel
theorem dX9_takeCell_11 : decode cX9_takeCell 11 = .ok (.istore_n 1, 1) := by decide +kernel
theorem dX9_takeCell_12 : decode cX9_takeCell 12 = .ok (.aload_n 0, 1) := by decide +kernel
theorem dX9_takeCell_13 : decode cX9_takeCell 13 = .ok (.getfield 182, 3) := by decide +kernel
theorem dX9_takeCell_16 : decode cX9_takeCell 16 = .ok (.istore_n 2, 1) := by decide +kernel
theorem dX9_takeCell_17 : decode cX9_takeCell 17 = .ok (.iload_n 1, 1) := by decide +kernel
theorem dX9_takeCell_18 : decode cX9_takeCell 18 = .ok (.ifCond .le 7, 3) := by decide +kernel
theorem dX9_takeCell_21 : decode cX9_takeCell 21 = .ok (.iload_n 1, 1) := by decide +kernel
theorem dX9_takeCell_22 : decode cX9_takeCell 22 = .ok (.goto 14, 3) := by decide +kernel
theorem dX9_takeCell_25 : decode cX9_takeCell 25 = .ok (.aload_n 0, 1) := by decide +kernel
theorem dX9_takeCell_26 : decode cX9_takeCell 26 = .ok (.iconst 0, 1) := by decide +kernel
theorem dX9_takeCell_27 : decode cX9_takeCell 27 = .ok (.aload_n 0, 1) := by decide +kernel
theorem dX9_takeCell_28 : decode cX9_takeCell 28 = .ok (.getfield 191, 3) := by decide +kernel
theorem dX9_takeCell_31 : decode cX9_takeCell 31 = .ok (.iconst 1, 1) := by decide +kernel
theorem dX9_takeCell_32 : decode cX9_takeCell 32 = .ok (.isub, 1) := by decide +kernel
theorem dX9_takeCell_33 : decode cX9_takeCell 33 = .ok (.invokevirtual 185, 3) := by decide +kernel
theorem dX9_takeCell_36 : decode cX9_takeCell 36 = .ok (.istore_n 1, 1) := by decide +kernel
theorem dX9_takeCell_37 : decode cX9_takeCell 37 = .ok (.aload_n 0, 1) := by decide +kernel
theorem dX9_takeCell_38 : decode cX9_takeCell 38 = .ok (.aload_n 0, 1) := by decide +kernel
theorem dX9_takeCell_39 : decode cX9_takeCell 39 = .ok (.getfield 188, 3) := by decide +kernel
theorem dX9_takeCell_42 : decode cX9_takeCell 42 = .ok (.aload_n 0, 1) := by decide +kernel
theorem dX9_takeCell_43 : decode cX9_takeCell 43 = .ok (.getfield 182, 3) := by decide +kernel
theorem dX9_takeCell_46 : decode cX9_takeCell 46 = .ok (.imul, 1) := by decide +kernel
theorem dX9_takeCell_47 : decode cX9_takeCell 47 = .ok (.iload_n 2, 1) := by decide +kernel
theorem dX9_takeCell_48 : decode cX9_takeCell 48 = .ok (.iadd, 1) := by decide +kernel
theorem dX9_takeCell_49 : decode cX9_takeCell 49 = .ok (.putfield 194, 3) := by decide +kernel
theorem dX9_takeCell_52 : decode cX9_takeCell 52 = .ok (.iload_n 1, 1) := by decide +kernel
theorem dX9_takeCell_53 : decode cX9_takeCell 53 = .ok (.ireturn, 1) := by decide +kernel
theorem dX9_isReadPerson_0 : decode cX9_isReadPerson 0 = .ok (.iconst 0, 1) := by decide +kernel
theorem dX9_isReadPerson_1 : decode cX9_isReadPerson 1 = .ok (.istore_n 2, 1) := by decide +kernel
theorem dX9_isReadPerson_2 : decode cX9_isReadPerson 2 = .ok (.iconst 0, 1) := by decide +kernel
theorem dX9_isReadPerson_3 : decode cX9_isReadPerson 3 = .ok (.istore_n 3, 1) := by decide +kernel
theorem dX9_isReadPerson_4 : decode cX9_isReadPerson 4 = .ok (.iload_n 3, 1) := by decide +kernel
theorem dX9_isReadPerson_5 : decode cX9_isReadPerson 5 = .ok (.aload_n 0, 1) := by decide +kernel
theorem dX9_isReadPerson_6 : decode cX9_isReadPerson 6 = .ok (.getfield 197, 3) := by decide +kernel
theorem dX9_isReadPerson_9 : decode cX9_isReadPerson 9 = .ok (.if_icmp .ge 29, 3) := by decide +kernel
theorem dX9_isReadPerson_12 : decode cX9_isReadPerson 12 = .ok (.iload_n 2, 1) := by decide +kernel
theorem dX9_isReadPerson_13 : decode cX9_isReadPerson 13 = .ok (.ifCond .ne 13, 3) := by decide +kernel
theorem dX9_isReadPerson_16 : decode cX9_isReadPerson 16 = .ok (.aload_n 0, 1) := by decide +kernel
theorem dX9_isReadPerson_17 : decode cX9_isReadPerson 17 = .ok (.getfield 60, 3) := by decide +kernel
theorem dX9_isReadPerson_20 : decode cX9_isReadPerson 20 = .ok (.iload_n 3, 1) := by decide +kernel
theorem dX9_isReadPerson_21 : decode cX9_isReadPerson 21 = .ok (.iaload, 1) := by decide +kernel
theorem dX9_isReadPerson_22 : decode cX9_isReadPerson 22 = .ok (.iload_n 1, 1) := by decide +kernel
theorem dX9_isReadPerson_23 : decode cX9_isReadPerson 23 = .ok (.if_icmp .ne 7, 3) := by decide +kernel
theorem dX9_isReadPerson_26 : decode cX9_isReadPerson 26 = .ok (.iconst 1, 1) := by decide +kernel
theorem dX9_isReadPerson_27 : decode cX9_isReadPerson 27 = .ok (.goto 4, 3) := by decide +kernel
theorem dX9_isReadPerson_30 : decode cX9_isReadPerson 30 = .ok (.iconst 0, 1) := by decide +kernel
theorem dX9_isReadPerson_31 : decode cX9_isReadPerson 31 = .ok (.istore_n 2, 1) := by decide +kernel
theorem dX9_isReadPerson_32 : decode cX9_isReadPerson 32 = .ok (.iinc 3 1, 3) := by decide +kernel
theorem dX9_isReadPerson_35 : decode cX9_isReadPerson 35 = .ok (.goto (-31), 3) := by decide +kernel
theorem dX9_isReadPerson_38 : decode cX9_isReadPerson 38 = .ok (.iload_n 2, 1) := by decide +kernel
theorem dX9_isReadPerson_39 : decode cX9_isReadPerson 39 = .ok (.ireturn, 1) := by decide +kernel
theorem dX9_takeHouse_0 : decode cX9_takeHouse 0 = .ok (.aload_n 0, 1) := by decide +kernel
theorem dX9_takeHouse_1 : decode cX9_takeHouse 1 = .ok (.dup, 1) := by decide +kernel
theorem dX9_takeHouse_2 : decode cX9_takeHouse 2 = .ok (.getfield 200, 3) := by decide +kernel
theorem dX9_takeHouse_5 : decode cX9_takeHouse 5 = .ok (.iconst 1, 1) := by decide +kernel
theorem dX9_takeHouse_6 : decode cX9_takeHouse 6 = .ok (.iadd, 1) := by decide +kernel
theorem dX9_takeHouse_7 : decode cX9_takeHouse 7 = .ok (.putfield 200, 3) := by decide +kernel
theorem dX9_takeHouse_10 : decode cX9_takeHouse 10 = .ok (.aload_n 0, 1) := by decide +kernel
theorem dX9_takeHouse_11 : decode cX9_takeHouse 11 = .ok (.invokevirtual 203, 3) := by decide +kernel
theorem dX9_takeHouse_14 : decode cX9_takeHouse 14 = .ok (.istore_n 1, 1) := by decide +kernel
theorem dX9_takeHouse_15 : decode cX9_takeHouse 15 = .ok (.iload_n 1, 1) := by decide +kernel
theorem dX9_takeHouse_16 : decode cX9_takeHouse 16 = .ok (.ifCond .le 5, 3) := by decide +kernel
theorem dX9_takeHouse_19 : decode cX9_takeHouse 19 = .ok (.iload_n 1, 1) := by decide +kernel
theorem dX9_takeHouse_20 : decode cX9_takeHouse 20 = .ok (.ireturn, 1) := by decide +kernel
theorem dX9_takeHouse_21 : decode cX9_takeHouse 21 = .ok (.aload_n 0, 1) := by decide +kernel
theorem dX9_takeHouse_22 : decode cX9_takeHouse 22 = .ok (.getfield 45, 3) := by decide +kernel
theorem dX9_takeHouse_25 : decode cX9_takeHouse 25 = .ok (.aload_n 0, 1) := by decide +kernel
theorem dX9_takeHouse_26 : decode cX9_takeHouse 26 = .ok (.getfield 194, 3) := by decide +kernel
theorem dX9_takeHouse_29 : decode cX9_takeHouse 29 = .ok (.iaload, 1) := by decide +kernel
theorem dX9_takeHouse_30 : decode cX9_takeHouse 30 = .ok (.ifCond .gt 14, 3) := by decide +kernel
theorem dX9_takeHouse_33 : decode cX9_takeHouse 33 = .ok (.aload_n 0, 1) := by decide +kernel
theorem dX9_takeHouse_34 : decode cX9_takeHouse 34 = .ok (.aload_n 0, 1) := by decide +kernel
theorem dX9_takeHouse_35 : decode cX9_takeHouse 35 = .ok (.getfield 194, 3) := by decide +kernel
theorem dX9_takeHouse_38 : decode cX9_takeHouse 38 = .ok (.invokevirtual 206, 3) := by decide +kernel
theorem dX9_takeHouse_41 : decode cX9_takeHouse 41 = .ok (.ifCond .eq 13, 3) := by decide +kernel
theorem dX9_takeHouse_44 : decode cX9_takeHouse 44 = .ok (.aload_n 0, 1) := by decide +kernel
theorem dX9_takeHouse_45 : decode cX9_takeHouse 45 = .ok (.iconst 4, 1) := by decide +kernel
theorem dX9_takeHouse_46 : decode cX9_takeHouse 46 = .ok (.aload_n 0, 1) := by decide +kernel
theorem dX9_takeHouse_47 : decode cX9_takeHouse 47 = .ok (.getfield 179, 3) := by decide +kernel
theorem dX9_takeHouse_50 : decode cX9_takeHouse 50 = .ok (.invokevirtual 175, 3) := by decide +kernel
theorem dX9_takeHouse_53 : decode cX9_takeHouse 53 = .ok (.ireturn, 1) := by decide +kernel
theorem dX9_takeHouse_54 : decode cX9_takeHouse 54 = .ok (.aload_n 0, 1) := by decide +kernel
theorem dX9_takeHouse_55 : decode cX9_takeHouse 55 = .ok (.aload_n 0, 1) := by decide +kernel
theorem dX9_takeHouse_56 : decode cX9_takeHouse 56 = .ok (.getfield 45, 3) := by decide +kernel
theorem dX9_takeHouse_59 : decode cX9_takeHouse 59 = .ok (.aload_n 0, 1) := by decide +kernel
theorem dX9_takeHouse_60 : decode cX9_takeHouse 60 = .ok (.getfield 194, 3) := by decide +kernel
theorem dX9_takeHouse_63 : decode cX9_takeHouse 63 = .ok (.iconst 1, 1) := by decide +kernel
theorem dX9_takeHouse_64 : decode cX9_takeHouse 64 = .ok (.bipush 9, 2) := by decide +kernel
theorem dX9_takeHouse_66 : decode cX9_takeHouse 66 = .ok (.invokevirtual 210, 3) := by decide +kernel
theorem dX9_takeHouse_69 : decode cX9_takeHouse 69 = .ok (.ireturn, 1) := by decide +kernel
theorem dX9_takeSun_0 : decode cX9_takeSun 0 = .ok (.aload_n 0, 1) := by decide +kernel
theorem dX9_takeSun_1 : decode cX9_takeSun 1 = .ok (.getfield 214, 3) := by decide +kernel
theorem dX9_takeSun_4 : decode cX9_takeSun 4 = .ok (.istore_n 1, 1) := by decide +kernel
theorem dX9_takeSun_5 : decode cX9_takeSun 5 = .ok (.aload_n 0, 1) := by decide +kernel
theorem dX9_takeSun_6 : decode cX9_takeSun 6 = .ok (.dup, 1) := by decide +kernel
theorem dX9_takeSun_7 : decode cX9_takeSun 7 = .ok (.getfield 214, 3) := by decide +kernel
theorem dX9_takeSun_10 : decode cX9_takeSun 10 = .ok (.iconst 1, 1) := by decide +kernel
theorem dX9_takeSun_11 : decode cX9_takeSun 11 = .ok (.iadd, 1) := by decide +kernel
theorem dX9_takeSun_12 : decode cX9_takeSun 12 = .ok (.putfield 214, 3) := by decide +kernel
theorem dX9_takeSun_15 : decode cX9_takeSun 15 = .ok (.aload_n 0, 1) := by decide +kernel
theorem dX9_takeSun_16 : decode cX9_takeSun 16 = .ok (.aload_n 0, 1) := by decide +kernel
theorem dX9_takeSun_17 : decode cX9_takeSun 17 = .ok (.getfield 48, 3) := by decide +kernel
theorem dX9_takeSun_20 : decode cX9_takeSun 20 = .ok (.iload_n 1, 1) := by decide +kernel
theorem dX9_takeSun_21 : decode cX9_takeSun 21 = .ok (.iconst 0, 1) := by decide +kernel
theorem dX9_takeSun_22 : decode cX9_takeSun 22 = .ok (.iconst 2, 1) := by decide +kernel
theorem dX9_takeSun_23 : decode cX9_takeSun 23 = .ok (.invokevirtual 210, 3) := by decide +kernel
theorem dX9_takeSun_26 : decode cX9_takeSun 26 = .ok (.istore_n 2, 1) := by decide +kernel
theorem dX9_takeSun_27 : decode cX9_takeSun 27 = .ok (.iload_n 2, 1) := by decide +kernel
theorem dX9_takeSun_28 : decode cX9_takeSun 28 = .ok (.ifCond .le 7, 3) := by decide +kernel
theorem dX9_takeSun_31 : decode cX9_takeSun 31 = .ok (.iload_n 2, 1) := by decide +kernel
theorem dX9_takeSun_32 : decode cX9_takeSun 32 = .ok (.goto 14, 3) := by decide +kernel
theorem dX9_takeSun_35 : decode cX9_takeSun 35 = .ok (.aload_n 0, 1) := by decide +kernel
theorem dX9_takeSun_36 : decode cX9_takeSun 36 = .ok (.aload_n 0, 1) := by decide +kernel
theorem dX9_takeSun_37 : decode cX9_takeSun 37 = .ok (.getfield 51, 3) := by decide +kernel
theorem dX9_takeSun_40 : decode cX9_takeSun 40 = .ok (.iload_n 1, 1) := by decide +kernel
theorem dX9_takeSun_41 : decode cX9_takeSun 41 = .ok (.iconst 0, 1) := by decide +kernel
theorem dX9_takeSun_42 : decode cX9_takeSun 42 = .ok (.iconst 2, 1) := by decide +kernel
theorem dX9_takeSun_43 : decode cX9_takeSun 43 = .ok (.invokevirtual 210, 3) := by decide +kernel
theorem dX9_takeSun_46 : decode cX9_takeSun 46 = .ok (.istore_n 2, 1) := by decide +kernel
theorem dX9_takeSun_47 : decode cX9_takeSun 47 = .ok (.iload_n 2, 1) := by decide +kernel
theorem dX9_takeSun_48 : decode cX9_takeSun 48 = .ok (.ifCond .le 5, 3) := by decide +kernel
theorem dX9_takeSun_51 : decode cX9_takeSun 51 = .ok (.iload_n 2, 1) := by decide +kernel
theorem dX9_takeSun_52 : decode cX9_takeSun 52 = .ok (.ireturn, 1) := by decide +kernel
theorem dX9_takeSun_53 : decode cX9_takeSun 53 = .ok (.aload_n 0, 1) := by decide +kernel
theorem dX9_takeSun_54 : decode cX9_takeSun 54 = .ok (.getfield 48, 3) := by decide +kernel
theorem dX9_takeSun_57 : decode cX9_takeSun 57 = .ok (.iload_n 1, 1) := by decide +kernel
theorem dX9_takeSun_58 : decode cX9_takeSun 58 = .ok (.iaload, 1) := by decide +kernel
theorem dX9_takeSun_59 : decode cX9_takeSun 59 = .ok (.iconst 1, 1) := by decide +kernel
theorem dX9_takeSun_60 : decode cX9_takeSun 60 = .ok (.if_icmp .ne 23, 3) := by decide +kernel
theorem dX9_takeSun_63 : decode cX9_takeSun 63 = .ok (.aload_n 0, 1) := by decide +kernel
theorem dX9_takeSun_64 : decode cX9_takeSun 64 = .ok (.getfield 51, 3) := by decide +kernel
theorem dX9_takeSun_67 : decode cX9_takeSun 67 = .ok (.iload_n 1, 1) := by decide +kernel
theorem dX9_takeSun_68 : decode cX9_takeSun 68 = .ok (.iaload, 1) := by decide +kernel
theorem dX9_takeSun_69 : decode cX9_takeSun 69 = .ok (.iconst 1, 1) := by decide +kernel
theorem dX9_takeSun_70 : decode cX9_takeSun 70 = .ok (.if_icmp .ne 13, 3) := by decide +kernel
theorem dX9_takeSun_73 : decode cX9_takeSun 73 = .ok (.aload_n 0, 1) := by decide +kernel
theorem dX9_takeSun_74 : decode cX9_takeSun 74 = .ok (.iconst 4, 1) := by decide +kernel
theorem dX9_takeSun_75 : decode cX9_takeSun 75 = .ok (.aload_n 0, 1) := by decide +kernel
theorem dX9_takeSun_76 : decode cX9_takeSun 76 = .ok (.getfield 179, 3) := by decide +kernel
theorem dX9_takeSun_79 : decode cX9_takeSun 79 = .ok (.invokevirtual 175, 3) := by decide +kernel
theorem dX9_takeSun_82 : decode cX9_takeSun 82 = .ok (.ireturn, 1) := by decide +kernel
theorem dX9_takeSun_83 : decode cX9_takeSun 83 = .ok (.aload_n 0, 1) := by decide +kernel
theorem dX9_takeSun_84 : decode cX9_takeSun 84 = .ok (.aload_n 0, 1) := by decide +kernel
theorem dX9_takeSun_85 : decode cX9_takeSun 85 = .ok (.getfield 54, 3) := by decide +kernel
theorem dX9_takeSun_88 : decode cX9_takeSun 88 = .ok (.iload_n 1, 1) := by decide +kernel
theorem dX9_takeSun_89 : decode cX9_takeSun 89 = .ok (.iconst 0, 1) := by decide +kernel
theorem dX9_takeSun_90 : decode cX9_takeSun 90 = .ok (.iconst 3, 1) := by decide +kernel
theorem dX9_takeSun_91 : decode cX9_takeSun 91 = .ok (.invokevirtual 210, 3) := by decide +kernel
theorem dX9_takeSun_94 : decode cX9_takeSun 94 = .ok (.istore_n 2, 1) := by decide +kernel
theorem dX9_takeSun_95 : decode cX9_takeSun 95 = .ok (.iload_n 2, 1) := by decide +kernel
theorem dX9_takeSun_96 : decode cX9_takeSun 96 = .ok (.ifCond .le 7, 3) := by decide +kernel
theorem dX9_takeSun_99 : decode cX9_takeSun 99 = .ok (.iload_n 2, 1) := by decide +kernel
theorem dX9_takeSun_100 : decode cX9_takeSun 100 = .ok (.goto 15, 3) := by decide +kernel
theorem dX9_takeSun_103 : decode cX9_takeSun 103 = .ok (.aload_n 0, 1) := by decide +kernel
theorem dX9_takeSun_104 : decode cX9_takeSun 104 = .ok (.aload_n 0, 1) := by decide +kernel
theorem dX9_takeSun_105 : decode cX9_takeSun 105 = .ok (.getfield 57, 3) := by decide +kernel
theorem dX9_takeSun_108 : decode cX9_takeSun 108 = .ok (.iload_n 1, 1) := by decide +kernel
theorem dX9_takeSun_109 : decode cX9_takeSun 109 = .ok (.iconst 0, 1) := by decide +kernel
theorem dX9_takeSun_110 : decode cX9_takeSun 110 = .ok (.bipush 20, 2) := by decide +kernel
theorem dX9_takeSun_112 : decode cX9_takeSun 112 = .ok (.invokevirtual 210, 3) := by decide +kernel
theorem dX9_takeSun_115 : decode cX9_takeSun 115 = .ok (.ireturn, 1) := by decide +kernel
theorem dX9_takePerson_0 : decode cX9_takePerson 0 = .ok (.aload_n 0, 1) := by decide +kernel
theorem dX9_takePerson_1 : decode cX9_takePerson 1 = .ok (.invokevirtual 203, 3) := by decide +kernel
theorem dX9_takePerson_4 : decode cX9_takePerson 4 = .ok (.istore_n 1, 1) := by decide +kernel
theorem dX9_takePerson_5 : decode cX9_takePerson 5 = .ok (.iload_n 1, 1) := by decide +kernel
theorem dX9_takePerson_6 : decode cX9_takePerson 6 = .ok (.ifCond .le 5, 3) := by decide +kernel
theorem dX9_takePerson_9 : decode cX9_takePerson 9 = .ok (.iload_n 1, 1) := by decide +kernel
theorem dX9_takePerson_10 : decode cX9_takePerson 10 = .ok (.ireturn, 1) := by decide +kernel
theorem dX9_takePerson_11 : decode cX9_takePerson 11 = .ok (.aload_n 0, 1) := by decide +kernel
theorem dX9_takePerson_12 : decode cX9_takePerson 12 = .ok (.getfield 45, 3) := by decide +kernel
theorem dX9_takePerson_15 : decode cX9_takePerson 15 = .ok (.aload_n 0, 1) := by decide +kernel
theorem dX9_takePerson_16 : decode cX9_takePerson 16 = .ok (.getfield 194, 3) := by decide +kernel
theorem dX9_takePerson_19 : decode cX9_takePerson 19 = .ok (.iaload, 1) := by decide +kernel
theorem dX9_takePerson_20 : decode cX9_takePerson 20 = .ok (.ifCond .le 13, 3) := by decide +kernel
theorem dX9_takePerson_23 : decode cX9_takePerson 23 = .ok (.aload_n 0, 1) := by decide +kernel
theorem dX9_takePerson_24 : decode cX9_takePerson 24 = .ok (.iconst 4, 1) := by decide +kernel
theorem dX9_takePerson_25 : decode cX9_takePerson 25 = .ok (.aload_n 0, 1) := by decide +kernel
theorem dX9_takePerson_26 : decode cX9_takePerson 26 = .ok (.getfield 179, 3) := by decide +kernel
theorem dX9_takePerson_29 : decode cX9_takePerson 29 = .ok (.invokevirtual 175, 3) := by decide +kernel
theorem dX9_takePerson_32 : decode cX9_takePerson 32 = .ok (.ireturn, 1) := by decide +kernel
theorem dX9_takePerson_33 : decode cX9_takePerson 33 = .ok (.aload_n 0, 1) := by decide +kernel
theorem dX9_takePerson_34 : decode cX9_takePerson 34 = .ok (.getfield 60, 3) := by decide +kernel
theorem dX9_takePerson_37 : decode cX9_takePerson 37 = .ok (.aload_n 0, 1) := by decide +kernel
theorem dX9_takePerson_38 : decode cX9_takePerson 38 = .ok (.getfield 197, 3) := by decide +kernel
theorem dX9_takePerson_41 : decode cX9_takePerson 41 = .ok (.aload_n 0, 1) := by decide +kernel
theorem dX9_takePerson_42 : decode cX9_takePerson 42 = .ok (.getfield 194, 3) := by decide +kernel
theorem dX9_takePerson_45 : decode cX9_takePerson 45 = .ok (.iastore, 1) := by decide +kernel
theorem dX9_takePerson_46 : decode cX9_takePerson 46 = .ok (.aload_n 0, 1) := by decide +kernel
theorem dX9_takePerson_47 : decode cX9_takePerson 47 = .ok (.dup, 1) := by decide +kernel
theorem dX9_takePerson_48 : decode cX9_takePerson 48 = .ok (.getfield 197, 3) := by decide +kernel
theorem dX9_takePerson_51 : decode cX9_takePerson 51 = .ok (.iconst 1, 1) := by decide +kernel
theorem dX9_takePerson_52 : decode cX9_takePerson 52 = .ok (.iadd, 1) := by decide +kernel
theorem dX9_takePerson_53 : decode cX9_takePerson 53 = .ok (.putfield 197, 3) := by decide +kernel
theorem dX9_takePerson_56 : decode cX9_takePerson 56 = .ok (.aload_n 0, 1) := by decide +kernel
theorem dX9_takePerson_57 : decode cX9_takePerson 57 = .ok (.aload_n 0, 1) := by decide +kernel
theorem dX9_takePerson_58 : decode cX9_takePerson 58 = .ok (.getfield 63, 3) := by decide +kernel
theorem dX9_takePerson_61 : decode cX9_takePerson 61 = .ok (.aload_n 0, 1) := by decide +kernel
theorem dX9_takePerson_62 : decode cX9_takePerson 62 = .ok (.getfield 197, 3) := by decide +kernel
theorem dX9_takePerson_65 : decode cX9_takePerson 65 = .ok (.iconst 1, 1) := by decide +kernel
theorem dX9_takePerson_66 : decode cX9_takePerson 66 = .ok (.isub, 1) := by decide +kernel
theorem dX9_takePerson_67 : decode cX9_takePerson 67 = .ok (.iconst 1, 1) := by decide +kernel
theorem dX9_takePerson_68 : decode cX9_takePerson 68 = .ok (.bipush 9, 2) := by decide +kernel
theorem dX9_takePerson_70 : decode cX9_takePerson 70 = .ok (.invokevirtual 210, 3) := by decide +kernel
theorem dX9_takePerson_73 : decode cX9_takePerson 73 = .ok (.ireturn, 1) := by decide +kernel
theorem dX9_takeGrey_0 : decode cX9_takeGrey 0 = .ok (.aload_n 0, 1) := by decide +kernel
theorem dX9_takeGrey_1 : decode cX9_takeGrey 1 = .ok (.iconst 0, 1) := by decide +kernel
theorem dX9_takeGrey_2 : decode cX9_takeGrey 2 = .ok (.bipush 100, 2) := by decide +kernel
theorem dX9_takeGrey_4 : decode cX9_takeGrey 4 = .ok (.invokevirtual 185, 3) := by decide +kernel
theorem dX9_takeGrey_7 : decode cX9_takeGrey 7 = .ok (.istore_n 1, 1) := by decide +kernel
theorem dX9_takeGrey_8 : decode cX9_takeGrey 8 = .ok (.aload_n 0, 1) := by decide +kernel
theorem dX9_takeGrey_9 : decode cX9_takeGrey 9 = .ok (.aload_n 0, 1) := by decide +kernel
theorem dX9_takeGrey_10 : decode cX9_takeGrey 10 = .ok (.getfield 182, 3) := by decide +kernel
theorem dX9_takeGrey_13 : decode cX9_takeGrey 13 = .ok (.putfield 217, 3) := by decide +kernel
theorem dX9_takeGrey_16 : decode cX9_takeGrey 16 = .ok (.iload_n 1, 1) := by decide +kernel
theorem dX9_takeGrey_17 : decode cX9_takeGrey 17 = .ok (.ireturn, 1) := by decide +kernel
theorem dX9_takeClause_0 : decode cX9_takeClause 0 = .ok (.aload_n 0, 1) := by decide +kernel
theorem dX9_takeClause_1 : decode cX9_takeClause 1 = .ok (.invokevirtual 220, 3) := by decide +kernel
theorem dX9_takeClause_4 : decode cX9_takeClause 4 = .ok (.aload_n 0, 1) := by decide +kernel
theorem dX9_takeClause_5 : decode cX9_takeClause 5 = .ok (.getfield 152, 3) := by decide +kernel
theorem dX9_takeClause_8 : decode cX9_takeClause 8 = .ok (.bipush 103, 2) := by decide +kernel
theorem dX9_takeClause_10 : decode cX9_takeClause 10 = .ok (.bipush 114, 2) := by decide +kernel
theorem dX9_takeClause_12 : decode cX9_takeClause 12 = .ok (.bipush 111, 2) := by decide +kernel
theorem dX9_takeClause_14 : decode cX9_takeClause 14 = .ok (.invokestatic 223, 3) := by decide +kernel
theorem dX9_takeClause_17 : decode cX9_takeClause 17 = .ok (.bipush 117, 2) := by decide +kernel
theorem dX9_takeClause_19 : decode cX9_takeClause 19 = .ok (.bipush 110, 2) := by decide +kernel
theorem dX9_takeClause_21 : decode cX9_takeClause 21 = .ok (.invokestatic 227, 3) := by decide +kernel
theorem dX9_takeClause_24 : decode cX9_takeClause 24 = .ok (.bipush 100, 2) := by decide +kernel
theorem dX9_takeClause_26 : decode cX9_takeClause 26 = .ok (.iconst 0, 1) := by decide +kernel
theorem dX9_takeClause_27 : decode cX9_takeClause 27 = .ok (.invokestatic 227, 3) := by decide +kernel
theorem dX9_takeClause_30 : decode cX9_takeClause 30 = .ok (.lcmp, 1) := by decide +kernel
theorem dX9_takeClause_31 : decode cX9_takeClause 31 = .ok (.ifCond .ne 7, 3) := by decide +kernel
theorem dX9_takeClause_34 : decode cX9_takeClause 34 = .ok (.iconst 0, 1) := by decide +kernel
theorem dX9_takeClause_35 : decode cX9_takeClause 35 = .ok (.goto 53, 3) := by decide +kernel
theorem dX9_takeClause_38 : decode cX9_takeClause 38 = .ok (.aload_n 0, 1) := by decide +kernel
theorem dX9_takeClause_39 : decode cX9_takeClause 39 = .ok (.getfield 152, 3) := by decide +kernel
theorem dX9_takeClause_42 : decode cX9_takeClause 42 = .ok (.bipush 104, 2) := by decide +kernel
theorem dX9_takeClause_44 : decode cX9_takeClause 44 = .ok (.bipush 111, 2) := by decide +kernel
theorem dX9_takeClause_46 : decode cX9_takeClause 46 = .ok (.bipush 117, 2) := by decide +kernel
theorem dX9_takeClause_48 : decode cX9_takeClause 48 = .ok (.invokestatic 223, 3) := by decide +kernel
theorem dX9_takeClause_51 : decode cX9_takeClause 51 = .ok (.bipush 115, 2) := by decide +kernel
theorem dX9_takeClause_53 : decode cX9_takeClause 53 = .ok (.bipush 101, 2) := by decide +kernel
theorem dX9_takeClause_55 : decode cX9_takeClause 55 = .ok (.invokestatic 227, 3) := by decide +kernel
theorem dX9_takeClause_58 : decode cX9_takeClause 58 = .ok (.lcmp, 1) := by decide +kernel
theorem dX9_takeClause_59 : decode cX9_takeClause 59 = .ok (.ifCond .ne 7, 3) := by decide +kernel
theorem dX9_takeClause_62 : decode cX9_takeClause 62 = .ok (.iconst 1, 1) := by decide +kernel
theorem dX9_takeClause_63 : decode cX9_takeClause 63 = .ok (.goto 25, 3) := by decide +kernel
theorem dX9_takeClause_66 : decode cX9_takeClause 66 = .ok (.aload_n 0, 1) := by decide +kernel
theorem dX9_takeClause_67 : decode cX9_takeClause 67 = .ok (.getfield 152, 3) := by decide +kernel
theorem dX9_takeClause_70 : decode cX9_takeClause 70 = .ok (.bipush 115, 2) := by decide +kernel
theorem dX9_takeClause_72 : decode cX9_takeClause 72 = .ok (.bipush 117, 2) := by decide +kernel
theorem dX9_takeClause_74 : decode cX9_takeClause 74 = .ok (.bipush 110, 2) := by decide +kernel
theorem dX9_takeClause_76 : decode cX9_takeClause 76 = .ok (.invokestatic 223, 3) := by decide +kernel
theorem dX9_takeClause_79 : decode cX9_takeClause 79 = .ok (.lcmp, 1) := by decide +kernel
theorem dX9_takeClause_80 : decode cX9_takeClause 80 = .ok (.ifCond .ne 7, 3) := by decide +kernel
theorem dX9_takeClause_83 : decode cX9_takeClause 83 = .ok (.iconst 2, 1) := by decide +kernel
theorem dX9_takeClause_84 : decode cX9_takeClause 84 = .ok (.goto 4, 3) := by decide +kernel
theorem dX9_takeClause_87 : decode cX9_takeClause 87 = .ok (.iconst (-1), 1) := by decide +kernel
theorem dX9_takeClause_88 : decode cX9_takeClause 88 = .ok (.istore_n 1, 1) := by decide +kernel
theorem dX9_takeClause_89 : decode cX9_takeClause 89 = .ok (.iload_n 1, 1) := by decide +kernel
theorem dX9_takeClause_90 : decode cX9_takeClause 90 = .ok (.ifCond .lt 7, 3) := by decide +kernel
theorem dX9_takeClause_93 : decode cX9_takeClause 93 = .ok (.iload_n 1, 1) := by decide +kernel
theorem dX9_takeClause_94 : decode cX9_takeClause 94 = .ok (.goto 65, 3) := by decide +kernel
theorem dX9_takeClause_97 : decode cX9_takeClause 97 = .ok (.aload_n 0, 1) := by decide +kernel
theorem dX9_takeClause_98 : decode cX9_takeClause 98 = .ok (.getfield 152, 3) := by decide +kernel
theorem dX9_takeClause_101 : decode cX9_takeClause 101 = .ok (.bipush 112, 2) := by decide +kernel
theorem dX9_takeClause_103 : decode cX9_takeClause 103 = .ok (.bipush 101, 2) := by decide +kernel
theorem dX9_takeClause_105 : decode cX9_takeClause 105 = .ok (.bipush 114, 2) := by decide +kernel
theorem dX9_takeClause_107 : decode cX9_takeClause 107 = .ok (.invokestatic 223, 3) := by decide +kernel
theorem dX9_takeClause_110 : decode cX9_takeClause 110 = .ok (.bipush 115, 2) := by decide +kernel
theorem dX9_takeClause_112 : decode cX9_takeClause 112 = .ok (.bipush 111, 2) := by decide +kernel
theorem dX9_takeClause_114 : decode cX9_takeClause 114 = .ok (.invokestatic 227, 3) := by decide +kernel
theorem dX9_takeClause_117 : decode cX9_takeClause 117 = .ok (.bipush 110, 2) := by decide +kernel
theorem dX9_takeClause_119 : decode cX9_takeClause 119 = .ok (.iconst 0, 1) := by decide +kernel
theorem dX9_takeClause_120 : decode cX9_takeClause 120 = .ok (.invokestatic 227, 3) := by decide +kernel
theorem dX9_takeClause_123 : decode cX9_takeClause 123 = .ok (.lcmp, 1) := by decide +kernel
theorem dX9_takeClause_124 : decode cX9_takeClause 124 = .ok (.ifCond .ne 7, 3) := by decide +kernel
theorem dX9_takeClause_127 : decode cX9_takeClause 127 = .ok (.iconst 3, 1) := by decide +kernel
theorem dX9_takeClause_128 : decode cX9_takeClause 128 = .ok (.goto 31, 3) := by decide +kernel
theorem dX9_takeClause_131 : decode cX9_takeClause 131 = .ok (.aload_n 0, 1) := by decide +kernel
theorem dX9_takeClause_132 : decode cX9_takeClause 132 = .ok (.getfield 152, 3) := by decide +kernel
theorem dX9_takeClause_135 : decode cX9_takeClause 135 = .ok (.bipush 103, 2) := by decide +kernel
theorem dX9_takeClause_137 : decode cX9_takeClause 137 = .ok (.bipush 114, 2) := by decide +kernel
theorem dX9_takeClause_139 : decode cX9_takeClause 139 = .ok (.bipush 101, 2) := by decide +kernel
theorem dX9_takeClause_141 : decode cX9_takeClause 141 = .ok (.invokestatic 223, 3) := by decide +kernel
theorem dX9_takeClause_144 : decode cX9_takeClause 144 = .ok (.bipush 121, 2) := by decide +kernel
theorem dX9_takeClause_146 : decode cX9_takeClause 146 = .ok (.iconst 0, 1) := by decide +kernel
theorem dX9_takeClause_147 : decode cX9_takeClause 147 = .ok (.invokestatic 227, 3) := by decide +kernel
theorem dX9_takeClause_150 : decode cX9_takeClause 150 = .ok (.lcmp, 1) := by decide +kernel
theorem dX9_takeClause_151 : decode cX9_takeClause 151 = .ok (.ifCond .ne 7, 3) := by decide +kernel
theorem dX9_takeClause_154 : decode cX9_takeClause 154 = .ok (.iconst 4, 1) := by decide +kernel
theorem dX9_takeClause_155 : decode cX9_takeClause 155 = .ok (.goto 4, 3) := by decide +kernel
theorem dX9_takeClause_158 : decode cX9_takeClause 158 = .ok (.iconst (-1), 1) := by decide +kernel
theorem dX9_takeClause_159 : decode cX9_takeClause 159 = .ok (.istore_n 2, 1) := by decide +kernel
theorem dX9_takeClause_160 : decode cX9_takeClause 160 = .ok (.iload_n 2, 1) := by decide +kernel
theorem dX9_takeClause_161 : decode cX9_takeClause 161 = .ok (.ifCond .lt 14, 3) := by decide +kernel
theorem dX9_takeClause_164 : decode cX9_takeClause 164 = .ok (.iload_n 2, 1) := by decide +kernel
theorem dX9_takeClause_165 : decode cX9_takeClause 165 = .ok (.ifCond .le 20, 3) := by decide +kernel
theorem dX9_takeClause_168 : decode cX9_takeClause 168 = .ok (.aload_n 0, 1) := by decide +kernel
theorem dX9_takeClause_169 : decode cX9_takeClause 169 = .ok (.getfield 188, 3) := by decide +kernel
theorem dX9_takeClause_172 : decode cX9_takeClause 172 = .ok (.ifCond .ne 13, 3) := by decide +kernel
theorem dX9_takeClause_175 : decode cX9_takeClause 175 = .ok (.aload_n 0, 1) := by decide +kernel
theorem dX9_takeClause_176 : decode cX9_takeClause 176 = .ok (.iconst 1, 1) := by decide +kernel
theorem dX9_takeClause_177 : decode cX9_takeClause 177 = .ok (.aload_n 0, 1) := by decide +kernel
theorem dX9_takeClause_178 : decode cX9_takeClause 178 = .ok (.getfield 145, 3) := by decide +kernel
theorem dX9_takeClause_181 : decode cX9_takeClause 181 = .ok (.invokevirtual 175, 3) := by decide +kernel
theorem dX9_takeClause_184 : decode cX9_takeClause 184 = .ok (.ireturn, 1) := by decide +kernel
theorem dX9_takeClause_185 : decode cX9_takeClause 185 = .ok (.iload_n 2, 1) := by decide +kernel
theorem dX9_takeClause_186 : decode cX9_takeClause 186 = .ok (.ifCond .ne 18, 3) := by decide +kernel
theorem dX9_takeClause_189 : decode cX9_takeClause 189 = .ok (.aload_n 0, 1) := by decide +kernel
theorem dX9_takeClause_190 : decode cX9_takeClause 190 = .ok (.getfield 188, 3) := by decide +kernel
theorem dX9_takeClause_193 : decode cX9_takeClause 193 = .ok (.ifCond .le 7, 3) := by decide +kernel
theorem dX9_takeClause_196 : decode cX9_takeClause 196 = .ok (.iconst 1, 1) := by decide +kernel
theorem dX9_takeClause_197 : decode cX9_takeClause 197 = .ok (.goto 85, 3) := by decide +kernel
theorem dX9_takeClause_200 : decode cX9_takeClause 200 = .ok (.iconst 0, 1) := by decide +kernel
theorem dX9_takeClause_201 : decode cX9_takeClause 201 = .ok (.goto 81, 3) := by decide +kernel
theorem dX9_takeClause_204 : decode cX9_takeClause 204 = .ok (.iload_n 2, 1) := by decide +kernel
theorem dX9_takeClause_205 : decode cX9_takeClause 205 = .ok (.iconst 1, 1) := by decide +kernel
theorem dX9_takeClause_206 : decode cX9_takeClause 206 = .ok (.if_icmp .ne 20, 3) := by decide +kernel
theorem dX9_takeClause_209 : decode cX9_takeClause 209 = .ok (.aload_n 0, 1) := by decide +kernel
theorem dX9_takeClause_210 : decode cX9_takeClause 210 = .ok (.getfield 200, 3) := by decide +kernel
theorem dX9_takeClause_213 : decode cX9_takeClause 213 = .ok (.bipush 15, 2) := by decide +kernel
theorem dX9_takeClause_215 : decode cX9_takeClause 215 = .ok (.if_icmp .ne 7, 3) := by decide +kernel
theorem dX9_takeClause_218 : decode cX9_takeClause 218 = .ok (.iconst 1, 1) := by decide +kernel
theorem dX9_takeClause_219 : decode cX9_takeClause 219 = .ok (.goto 63, 3) := by decide +kernel
theorem dX9_takeClause_222 : decode cX9_takeClause 222 = .ok (.iconst 0, 1) := by decide +kernel
theorem dX9_takeClause_223 : decode cX9_takeClause 223 = .ok (.goto 59, 3) := by decide +kernel
theorem dX9_takeClause_226 : decode cX9_takeClause 226 = .ok (.iload_n 2, 1) := by decide +kernel
theorem dX9_takeClause_227 : decode cX9_takeClause 227 = .ok (.iconst 2, 1) := by decide +kernel
theorem dX9_takeClause_228 : decode cX9_takeClause 228 = .ok (.if_icmp .ne 20, 3) := by decide +kernel
theorem dX9_takeClause_231 : decode cX9_takeClause 231 = .ok (.aload_n 0, 1) := by decide +kernel
theorem dX9_takeClause_232 : decode cX9_takeClause 232 = .ok (.getfield 214, 3) := by decide +kernel
theorem dX9_takeClause_235 : decode cX9_takeClause 235 = .ok (.bipush 6, 2) := by decide +kernel
theorem dX9_takeClause_237 : decode cX9_takeClause 237 = .ok (.if_icmp .ne 7, 3) := by decide +kernel
theorem dX9_takeClause_240 : decode cX9_takeClause 240 = .ok (.iconst 1, 1) := by decide +kernel
theorem dX9_takeClause_241 : decode cX9_takeClause 241 = .ok (.goto 41, 3) := by decide +kernel
theorem dX9_takeClause_244 : decode cX9_takeClause 244 = .ok (.iconst 0, 1) := by decide +kernel
theorem dX9_takeClause_245 : decode cX9_takeClause 245 = .ok (.goto 37, 3) := by decide +kernel
theorem dX9_takeClause_248 : decode cX9_takeClause 248 = .ok (.iload_n 2, 1) := by decide +kernel
theorem dX9_takeClause_249 : decode cX9_takeClause 249 = .ok (.iconst 3, 1) := by decide +kernel
theorem dX9_takeClause_250 : decode cX9_takeClause 250 = .ok (.if_icmp .ne 20, 3) := by decide +kernel
theorem dX9_takeClause_253 : decode cX9_takeClause 253 = .ok (.aload_n 0, 1) := by decide +kernel
theorem dX9_takeClause_254 : decode cX9_takeClause 254 = .ok (.getfield 197, 3) := by decide +kernel
theorem dX9_takeClause_257 : decode cX9_takeClause 257 = .ok (.bipush 6, 2) := by decide +kernel
theorem dX9_takeClause_259 : decode cX9_takeClause 259 = .ok (.if_icmp .ne 7, 3) := by decide +kernel
theorem dX9_takeClause_262 : decode cX9_takeClause 262 = .ok (.iconst 1, 1) := by decide +kernel
theorem dX9_takeClause_263 : decode cX9_takeClause 263 = .ok (.goto 19, 3) := by decide +kernel
theorem dX9_takeClause_266 : decode cX9_takeClause 266 = .ok (.iconst 0, 1) := by decide +kernel
theorem dX9_takeClause_267 : decode cX9_takeClause 267 = .ok (.goto 15, 3) := by decide +kernel
theorem dX9_takeClause_270 : decode cX9_takeClause 270 = .ok (.aload_n 0, 1) := by decide +kernel
theorem dX9_takeClause_271 : decode cX9_takeClause 271 = .ok (.getfield 217, 3) := by decide +kernel
theorem dX9_takeClause_274 : decode cX9_takeClause 274 = .ok (.ifCond .lt 7, 3) := by decide +kernel
theorem dX9_takeClause_277 : decode cX9_takeClause 277 = .ok (.iconst 1, 1) := by decide +kernel
theorem dX9_takeClause_278 : decode cX9_takeClause 278 = .ok (.goto 4, 3) := by decide +kernel
theorem dX9_takeClause_281 : decode cX9_takeClause 281 = .ok (.iconst 0, 1) := by decide +kernel
theorem dX9_takeClause_282 : decode cX9_takeClause 282 = .ok (.istore_n 3, 1) := by decide +kernel
theorem dX9_takeClause_283 : decode cX9_takeClause 283 = .ok (.iload_n 3, 1) := by decide +kernel
theorem dX9_takeClause_284 : decode cX9_takeClause 284 = .ok (.ifCond .eq 13, 3) := by decide +kernel
theorem dX9_takeClause_287 : decode cX9_takeClause 287 = .ok (.aload_n 0, 1) := by decide +kernel
theorem dX9_takeClause_288 : decode cX9_takeClause 288 = .ok (.iconst 3, 1) := by decide +kernel
theorem dX9_takeClause_289 : decode cX9_takeClause 289 = .ok (.aload_n 0, 1) := by decide +kernel
theorem dX9_takeClause_290 : decode cX9_takeClause 290 = .ok (.getfield 145, 3) := by decide +kernel
theorem dX9_takeClause_293 : decode cX9_takeClause 293 = .ok (.invokevirtual 175, 3) := by decide +kernel
theorem dX9_takeClause_296 : decode cX9_takeClause 296 = .ok (.ireturn, 1) := by decide +kernel
theorem dX9_takeClause_297 : decode cX9_takeClause 297 = .ok (.aload_n 0, 1) := by decide +kernel
theorem dX9_takeClause_298 : decode cX9_takeClause 298 = .ok (.aload_n 0, 1) := by decide +kernel
theorem dX9_takeClause_299 : decode cX9_takeClause 299 = .ok (.getfield 156, 3) := by decide +kernel
theorem dX9_takeClause_302 : decode cX9_takeClause 302 = .ok (.putfield 145, 3) := by decide +kernel
theorem dX9_takeClause_305 : decode cX9_takeClause 305 = .ok (.iload_n 2, 1) := by decide +kernel
theorem dX9_takeClause_306 : decode cX9_takeClause 306 = .ok (.ifCond .ne 10, 3) := by decide +kernel
theorem dX9_takeClause_309 : decode cX9_takeClause 309 = .ok (.aload_n 0, 1) := by decide +kernel
theorem dX9_takeClause_310 : decode cX9_takeClause 310 = .ok (.invokevirtual 231, 3) := by decide +kernel
theorem dX9_takeClause_313 : decode cX9_takeClause 313 = .ok (.goto 43, 3) := by decide +kernel
theorem dX9_takeClause_316 : decode cX9_takeClause 316 = .ok (.iload_n 2, 1) := by decide +kernel
theorem dX9_takeClause_317 : decode cX9_takeClause 317 = .ok (.iconst 1, 1) := by decide +kernel
theorem dX9_takeClause_318 : decode cX9_takeClause 318 = .ok (.if_icmp .ne 10, 3) := by decide +kernel
theorem dX9_takeClause_321 : decode cX9_takeClause 321 = .ok (.aload_n 0, 1) := by decide +kernel
theorem dX9_takeClause_322 : decode cX9_takeClause 322 = .ok (.invokevirtual 234, 3) := by decide +kernel
theorem dX9_takeClause_325 : decode cX9_takeClause 325 = .ok (.goto 31, 3) := by decide +kernel
theorem dX9_takeClause_328 : decode cX9_takeClause 328 = .ok (.iload_n 2, 1) := by decide +kernel
theorem dX9_takeClause_329 : decode cX9_takeClause 329 = .ok (.iconst 2, 1) := by decide +kernel
theorem dX9_takeClause_330 : decode cX9_takeClause 330 = .ok (.if_icmp .ne 10, 3) := by decide +kernel
theorem dX9_takeClause_333 : decode cX9_takeClause 333 = .ok (.aload_n 0, 1) := by decide +kernel
theorem dX9_takeClause_334 : decode cX9_takeClause 334 = .ok (.invokevirtual 237, 3) := by decide +kernel
theorem dX9_takeClause_337 : decode cX9_takeClause 337 = .ok (.goto 19, 3) := by decide +kernel
theorem dX9_takeClause_340 : decode cX9_takeClause 340 = .ok (.iload_n 2, 1) := by decide +kernel
theorem dX9_takeClause_341 : decode cX9_takeClause 341 = .ok (.iconst 3, 1) := by decide +kernel
theorem dX9_takeClause_342 : decode cX9_takeClause 342 = .ok (.if_icmp .ne 10, 3) := by decide +kernel
theorem dX9_takeClause_345 : decode cX9_takeClause 345 = .ok (.aload_n 0, 1) := by decide +kernel
theorem dX9_takeClause_346 : decode cX9_takeClause 346 = .ok (.invokevirtual 240, 3) := by decide +kernel
theorem dX9_takeClause_349 : decode cX9_takeClause 349 = .ok (.goto 7, 3) := by decide +kernel
theorem dX9_takeClause_352 : decode cX9_takeClause 352 = .ok (.aload_n 0, 1) := by decide +kernel
theorem dX9_takeClause_353 : decode cX9_takeClause 353 = .ok (.invokevirtual 243, 3) := by decide +kernel
theorem dX9_takeClause_356 : decode cX9_takeClause 356 = .ok (.istore 4, 2) := by decide +kernel
theorem dX9_takeClause_358 : decode cX9_takeClause 358 = .ok (.iload 4, 2) := by decide +kernel
theorem dX9_takeClause_360 : decode cX9_takeClause 360 = .ok (.ifCond .ne 22, 3) := by decide +kernel
theorem dX9_takeClause_363 : decode cX9_takeClause 363 = .ok (.aload_n 0, 1) := by decide +kernel
theorem dX9_takeClause_364 : decode cX9_takeClause 364 = .ok (.invokevirtual 148, 3) := by decide +kernel
theorem dX9_takeClause_367 : decode cX9_takeClause 367 = .ok (.bipush 59, 2) := by decide +kernel
theorem dX9_takeClause_369 : decode cX9_takeClause 369 = .ok (.if_icmp .eq 13, 3) := by decide +kernel
theorem dX9_takeClause_372 : decode cX9_takeClause 372 = .ok (.aload_n 0, 1) := by decide +kernel
theorem dX9_takeClause_373 : decode cX9_takeClause 373 = .ok (.iconst 1, 1) := by decide +kernel
theorem dX9_takeClause_374 : decode cX9_takeClause 374 = .ok (.aload_n 0, 1) := by decide +kernel
theorem dX9_takeClause_375 : decode cX9_takeClause 375 = .ok (.getfield 145, 3) := by decide +kernel
theorem dX9_takeClause_378 : decode cX9_takeClause 378 = .ok (.invokevirtual 175, 3) := by decide +kernel
theorem dX9_takeClause_381 : decode cX9_takeClause 381 = .ok (.ireturn, 1) := by decide +kernel
theorem dX9_takeClause_382 : decode cX9_takeClause 382 = .ok (.aload_n 0, 1) := by decide +kernel
theorem dX9_takeClause_383 : decode cX9_takeClause 383 = .ok (.dup, 1) := by decide +kernel
theorem dX9_takeClause_384 : decode cX9_takeClause 384 = .ok (.getfield 145, 3) := by decide +kernel
theorem dX9_takeClause_387 : decode cX9_takeClause 387 = .ok (.iconst 1, 1) := by decide +kernel
theorem dX9_takeClause_388 : decode cX9_takeClause 388 = .ok (.iadd, 1) := by decide +kernel
theorem dX9_takeClause_389 : decode cX9_takeClause 389 = .ok (.putfield 145, 3) := by decide +kernel
theorem dX9_takeClause_392 : decode cX9_takeClause 392 = .ok (.iload 4, 2) := by decide +kernel
theorem dX9_takeClause_394 : decode cX9_takeClause 394 = .ok (.ireturn, 1) := by decide +kernel
theorem dX9_ground_0 : decode cX9_ground 0 = .ok (.aload_n 0, 1) := by decide +kernel
theorem dX9_ground_1 : decode cX9_ground 1 = .ok (.iconst (-1), 1) := by decide +kernel
theorem dX9_ground_2 : decode cX9_ground 2 = .ok (.putfield 41, 3) := by decide +kernel
theorem dX9_ground_5 : decode cX9_ground 5 = .ok (.aload_n 0, 1) := by decide +kernel
theorem dX9_ground_6 : decode cX9_ground 6 = .ok (.iconst 0, 1) := by decide +kernel
theorem dX9_ground_7 : decode cX9_ground 7 = .ok (.putfield 145, 3) := by decide +kernel
theorem dX9_ground_10 : decode cX9_ground 10 = .ok (.aload_n 0, 1) := by decide +kernel
theorem dX9_ground_11 : decode cX9_ground 11 = .ok (.iconst 0, 1) := by decide +kernel
theorem dX9_ground_12 : decode cX9_ground 12 = .ok (.putfield 188, 3) := by decide +kernel
theorem dX9_ground_15 : decode cX9_ground 15 = .ok (.aload_n 0, 1) := by decide +kernel
theorem dX9_ground_16 : decode cX9_ground 16 = .ok (.iconst 0, 1) := by decide +kernel
theorem dX9_ground_17 : decode cX9_ground 17 = .ok (.putfield 191, 3) := by decide +kernel
theorem dX9_ground_20 : decode cX9_ground 20 = .ok (.aload_n 0, 1) := by decide +kernel
theorem dX9_ground_21 : decode cX9_ground 21 = .ok (.iconst 0, 1) := by decide +kernel
theorem dX9_ground_22 : decode cX9_ground 22 = .ok (.putfield 200, 3) := by decide +kernel
theorem dX9_ground_25 : decode cX9_ground 25 = .ok (.aload_n 0, 1) := by decide +kernel
theorem dX9_ground_26 : decode cX9_ground 26 = .ok (.iconst 0, 1) := by decide +kernel
theorem dX9_ground_27 : decode cX9_ground 27 = .ok (.putfield 214, 3) := by decide +kernel
theorem dX9_ground_30 : decode cX9_ground 30 = .ok (.aload_n 0, 1) := by decide +kernel
theorem dX9_ground_31 : decode cX9_ground 31 = .ok (.iconst 0, 1) := by decide +kernel
theorem dX9_ground_32 : decode cX9_ground 32 = .ok (.putfield 197, 3) := by decide +kernel
theorem dX9_ground_35 : decode cX9_ground 35 = .ok (.aload_n 0, 1) := by decide +kernel
theorem dX9_ground_36 : decode cX9_ground 36 = .ok (.iconst (-1), 1) := by decide +kernel
theorem dX9_ground_37 : decode cX9_ground 37 = .ok (.putfield 217, 3) := by decide +kernel
theorem dX9_ground_40 : decode cX9_ground 40 = .ok (.iconst 0, 1) := by decide +kernel
theorem dX9_ground_41 : decode cX9_ground 41 = .ok (.istore_n 1, 1) := by decide +kernel
theorem dX9_ground_42 : decode cX9_ground 42 = .ok (.iload_n 1, 1) := by decide +kernel
theorem dX9_ground_43 : decode cX9_ground 43 = .ok (.bipush 48, 2) := by decide +kernel
theorem dX9_ground_45 : decode cX9_ground 45 = .ok (.if_icmp .ge 16, 3) := by decide +kernel
theorem dX9_ground_48 : decode cX9_ground 48 = .ok (.aload_n 0, 1) := by decide +kernel
theorem dX9_ground_49 : decode cX9_ground 49 = .ok (.getfield 45, 3) := by decide +kernel
theorem dX9_ground_52 : decode cX9_ground 52 = .ok (.iload_n 1, 1) := by decide +kernel
theorem dX9_ground_53 : decode cX9_ground 53 = .ok (.iconst 0, 1) := by decide +kernel
theorem dX9_ground_54 : decode cX9_ground 54 = .ok (.iastore, 1) := by decide +kernel
theorem dX9_ground_55 : decode cX9_ground 55 = .ok (.iinc 1 1, 3) := by decide +kernel
theorem dX9_ground_58 : decode cX9_ground 58 = .ok (.goto (-16), 3) := by decide +kernel
theorem dX9_ground_61 : decode cX9_ground 61 = .ok (.iconst 0, 1) := by decide +kernel
theorem dX9_ground_62 : decode cX9_ground 62 = .ok (.istore_n 1, 1) := by decide +kernel
theorem dX9_ground_63 : decode cX9_ground 63 = .ok (.iload_n 1, 1) := by decide +kernel
theorem dX9_ground_64 : decode cX9_ground 64 = .ok (.ifCond .ne 18, 3) := by decide +kernel
theorem dX9_ground_67 : decode cX9_ground 67 = .ok (.aload_n 0, 1) := by decide +kernel
theorem dX9_ground_68 : decode cX9_ground 68 = .ok (.invokevirtual 148, 3) := by decide +kernel
theorem dX9_ground_71 : decode cX9_ground 71 = .ok (.ifCond .lt 11, 3) := by decide +kernel
theorem dX9_ground_74 : decode cX9_ground 74 = .ok (.aload_n 0, 1) := by decide +kernel
theorem dX9_ground_75 : decode cX9_ground 75 = .ok (.invokevirtual 246, 3) := by decide +kernel
theorem dX9_ground_78 : decode cX9_ground 78 = .ok (.istore_n 1, 1) := by decide +kernel
theorem dX9_ground_79 : decode cX9_ground 79 = .ok (.goto (-16), 3) := by decide +kernel
theorem dX9_ground_82 : decode cX9_ground 82 = .ok (.aload_n 0, 1) := by decide +kernel
theorem dX9_ground_83 : decode cX9_ground 83 = .ok (.iconst 0, 1) := by decide +kernel
theorem dX9_ground_84 : decode cX9_ground 84 = .ok (.putfield 139, 3) := by decide +kernel
theorem dX9_ground_87 : decode cX9_ground 87 = .ok (.iload_n 1, 1) := by decide +kernel
theorem dX9_ground_88 : decode cX9_ground 88 = .ok (.ifCond .le 8, 3) := by decide +kernel
theorem dX9_ground_91 : decode cX9_ground 91 = .ok (.bipush (-10), 2) := by decide +kernel
theorem dX9_ground_93 : decode cX9_ground 93 = .ok (.iload_n 1, 1) := by decide +kernel
theorem dX9_ground_94 : decode cX9_ground 94 = .ok (.isub, 1) := by decide +kernel
theorem dX9_ground_95 : decode cX9_ground 95 = .ok (.ireturn, 1) := by decide +kernel
theorem dX9_ground_96 : decode cX9_ground 96 = .ok (.aload_n 0, 1) := by decide +kernel
theorem dX9_ground_97 : decode cX9_ground 97 = .ok (.aload_n 0, 1) := by decide +kernel
theorem dX9_ground_98 : decode cX9_ground 98 = .ok (.getfield 188, 3) := by decide +kernel
theorem dX9_ground_101 : decode cX9_ground 101 = .ok (.putfield 120, 3) := by decide +kernel
theorem dX9_ground_104 : decode cX9_ground 104 = .ok (.aload_n 0, 1) := by decide +kernel
theorem dX9_ground_105 : decode cX9_ground 105 = .ok (.aload_n 0, 1) := by decide +kernel
theorem dX9_ground_106 : decode cX9_ground 106 = .ok (.getfield 191, 3) := by decide +kernel
theorem dX9_ground_109 : decode cX9_ground 109 = .ok (.putfield 127, 3) := by decide +kernel
theorem dX9_ground_112 : decode cX9_ground 112 = .ok (.aload_n 0, 1) := by decide +kernel
theorem dX9_ground_113 : decode cX9_ground 113 = .ok (.aload_n 0, 1) := by decide +kernel
theorem dX9_ground_114 : decode cX9_ground 114 = .ok (.getfield 214, 3) := by decide +kernel
theorem dX9_ground_117 : decode cX9_ground 117 = .ok (.putfield 133, 3) := by decide +kernel
theorem dX9_ground_120 : decode cX9_ground 120 = .ok (.aload_n 0, 1) := by decide +kernel
theorem dX9_ground_121 : decode cX9_ground 121 = .ok (.aload_n 0, 1) := by decide +kernel
theorem dX9_ground_122 : decode cX9_ground 122 = .ok (.getfield 197, 3) := by decide +kernel
theorem dX9_ground_125 : decode cX9_ground 125 = .ok (.putfield 130, 3) := by decide +kernel
theorem dX9_ground_128 : decode cX9_ground 128 = .ok (.aload_n 0, 1) := by decide +kernel
theorem dX9_ground_129 : decode cX9_ground 129 = .ok (.aload_n 0, 1) := by decide +kernel
theorem dX9_ground_130 : decode cX9_ground 130 = .ok (.getfield 217, 3) := by decide +kernel
theorem dX9_ground_133 : decode cX9_ground 133 = .ok (.ifCond .ge 7, 3) := by decide +kernel
theorem dX9_ground_136 : decode cX9_ground 136 = .ok (.iconst 0, 1) := by decide +kernel
theorem dX9_ground_137 : decode cX9_ground 137 = .ok (.goto 7, 3) := by decide +kernel
theorem dX9_ground_140 : decode cX9_ground 140 = .ok (.aload_n 0, 1) := by decide +kernel
theorem dX9_ground_141 : decode cX9_ground 141 = .ok (.getfield 217, 3) := by decide +kernel
theorem dX9_ground_144 : decode cX9_ground 144 = .ok (.putfield 249, 3) := by decide +kernel
theorem dX9_ground_147 : decode cX9_ground 147 = .ok (.iconst 0, 1) := by decide +kernel
theorem dX9_ground_148 : decode cX9_ground 148 = .ok (.istore_n 2, 1) := by decide +kernel
theorem dX9_ground_149 : decode cX9_ground 149 = .ok (.iload_n 2, 1) := by decide +kernel
theorem dX9_ground_150 : decode cX9_ground 150 = .ok (.bipush 48, 2) := by decide +kernel
theorem dX9_ground_152 : decode cX9_ground 152 = .ok (.if_icmp .ge 21, 3) := by decide +kernel
theorem dX9_ground_155 : decode cX9_ground 155 = .ok (.aload_n 0, 1) := by decide +kernel
theorem dX9_ground_156 : decode cX9_ground 156 = .ok (.getfield 7, 3) := by decide +kernel
theorem dX9_ground_159 : decode cX9_ground 159 = .ok (.iload_n 2, 1) := by decide +kernel
theorem dX9_ground_160 : decode cX9_ground 160 = .ok (.aload_n 0, 1) := by decide +kernel
theorem dX9_ground_161 : decode cX9_ground 161 = .ok (.getfield 45, 3) := by decide +kernel
theorem dX9_ground_164 : decode cX9_ground 164 = .ok (.iload_n 2, 1) := by decide +kernel
theorem dX9_ground_165 : decode cX9_ground 165 = .ok (.iaload, 1) := by decide +kernel
theorem dX9_ground_166 : decode cX9_ground 166 = .ok (.iastore, 1) := by decide +kernel
theorem dX9_ground_167 : decode cX9_ground 167 = .ok (.iinc 2 1, 3) := by decide +kernel
theorem dX9_ground_170 : decode cX9_ground 170 = .ok (.goto (-21), 3) := by decide +kernel
theorem dX9_ground_173 : decode cX9_ground 173 = .ok (.iconst 0, 1) := by decide +kernel
theorem dX9_ground_174 : decode cX9_ground 174 = .ok (.istore_n 2, 1) := by decide +kernel
theorem dX9_ground_175 : decode cX9_ground 175 = .ok (.iload_n 2, 1) := by decide +kernel
theorem dX9_ground_176 : decode cX9_ground 176 = .ok (.bipush 6, 2) := by decide +kernel
theorem dX9_ground_178 : decode cX9_ground 178 = .ok (.if_icmp .ge 99, 3) := by decide +kernel
theorem dX9_ground_181 : decode cX9_ground 181 = .ok (.aload_n 0, 1) := by decide +kernel
theorem dX9_ground_182 : decode cX9_ground 182 = .ok (.getfield 13, 3) := by decide +kernel
theorem dX9_ground_185 : decode cX9_ground 185 = .ok (.iload_n 2, 1) := by decide +kernel
theorem dX9_ground_186 : decode cX9_ground 186 = .ok (.aload_n 0, 1) := by decide +kernel
theorem dX9_ground_187 : decode cX9_ground 187 = .ok (.getfield 48, 3) := by decide +kernel
theorem dX9_ground_190 : decode cX9_ground 190 = .ok (.iload_n 2, 1) := by decide +kernel
theorem dX9_ground_191 : decode cX9_ground 191 = .ok (.iaload, 1) := by decide +kernel
theorem dX9_ground_192 : decode cX9_ground 192 = .ok (.iconst 1, 1) := by decide +kernel
theorem dX9_ground_193 : decode cX9_ground 193 = .ok (.isub, 1) := by decide +kernel
theorem dX9_ground_194 : decode cX9_ground 194 = .ok (.iastore, 1) := by decide +kernel
theorem dX9_ground_195 : decode cX9_ground 195 = .ok (.aload_n 0, 1) := by decide +kernel
theorem dX9_ground_196 : decode cX9_ground 196 = .ok (.getfield 16, 3) := by decide +kernel
theorem dX9_ground_199 : decode cX9_ground 199 = .ok (.iload_n 2, 1) := by decide +kernel
theorem dX9_ground_200 : decode cX9_ground 200 = .ok (.aload_n 0, 1) := by decide +kernel
theorem dX9_ground_201 : decode cX9_ground 201 = .ok (.getfield 51, 3) := by decide +kernel
theorem dX9_ground_204 : decode cX9_ground 204 = .ok (.iload_n 2, 1) := by decide +kernel
theorem dX9_ground_205 : decode cX9_ground 205 = .ok (.iaload, 1) := by decide +kernel
theorem dX9_ground_206 : decode cX9_ground 206 = .ok (.iconst 1, 1) := by decide +kernel
theorem dX9_ground_207 : decode cX9_ground 207 = .ok (.isub, 1) := by decide +kernel
theorem dX9_ground_208 : decode cX9_ground 208 = .ok (.iastore, 1) := by decide +kernel
theorem dX9_ground_209 : decode cX9_ground 209 = .ok (.aload_n 0, 1) := by decide +kernel
theorem dX9_ground_210 : decode cX9_ground 210 = .ok (.getfield 19, 3) := by decide +kernel
theorem dX9_ground_213 : decode cX9_ground 213 = .ok (.iload_n 2, 1) := by decide +kernel
theorem dX9_ground_214 : decode cX9_ground 214 = .ok (.aload_n 0, 1) := by decide +kernel
theorem dX9_ground_215 : decode cX9_ground 215 = .ok (.getfield 54, 3) := by decide +kernel
theorem dX9_ground_218 : decode cX9_ground 218 = .ok (.iload_n 2, 1) := by decide +kernel
theorem dX9_ground_219 : decode cX9_ground 219 = .ok (.iaload, 1) := by decide +kernel
theorem dX9_ground_220 : decode cX9_ground 220 = .ok (.iastore, 1) := by decide +kernel
theorem dX9_ground_221 : decode cX9_ground 221 = .ok (.aload_n 0, 1) := by decide +kernel
theorem dX9_ground_222 : decode cX9_ground 222 = .ok (.getfield 22, 3) := by decide +kernel
theorem dX9_ground_225 : decode cX9_ground 225 = .ok (.iload_n 2, 1) := by decide +kernel
theorem dX9_ground_226 : decode cX9_ground 226 = .ok (.aload_n 0, 1) := by decide +kernel
theorem dX9_ground_227 : decode cX9_ground 227 = .ok (.getfield 57, 3) := by decide +kernel
theorem dX9_ground_230 : decode cX9_ground 230 = .ok (.iload_n 2, 1) := by decide +kernel
theorem dX9_ground_231 : decode cX9_ground 231 = .ok (.iaload, 1) := by decide +kernel
theorem dX9_ground_232 : decode cX9_ground 232 = .ok (.iastore, 1) := by decide +kernel
theorem dX9_ground_233 : decode cX9_ground 233 = .ok (.aload_n 0, 1) := by decide +kernel
theorem dX9_ground_234 : decode cX9_ground 234 = .ok (.getfield 25, 3) := by decide +kernel
theorem dX9_ground_237 : decode cX9_ground 237 = .ok (.iload_n 2, 1) := by decide +kernel
theorem dX9_ground_238 : decode cX9_ground 238 = .ok (.aload_n 0, 1) := by decide +kernel
theorem dX9_ground_239 : decode cX9_ground 239 = .ok (.getfield 60, 3) := by decide +kernel
theorem dX9_ground_242 : decode cX9_ground 242 = .ok (.iload_n 2, 1) := by decide +kernel
theorem dX9_ground_243 : decode cX9_ground 243 = .ok (.iaload, 1) := by decide +kernel
theorem dX9_ground_244 : decode cX9_ground 244 = .ok (.iastore, 1) := by decide +kernel
theorem dX9_ground_245 : decode cX9_ground 245 = .ok (.aload_n 0, 1) := by decide +kernel
theorem dX9_ground_246 : decode cX9_ground 246 = .ok (.getfield 28, 3) := by decide +kernel
theorem dX9_ground_249 : decode cX9_ground 249 = .ok (.iload_n 2, 1) := by decide +kernel
theorem dX9_ground_250 : decode cX9_ground 250 = .ok (.aload_n 0, 1) := by decide +kernel
theorem dX9_ground_251 : decode cX9_ground 251 = .ok (.getfield 63, 3) := by decide +kernel
theorem dX9_ground_254 : decode cX9_ground 254 = .ok (.iload_n 2, 1) := by decide +kernel
theorem dX9_ground_255 : decode cX9_ground 255 = .ok (.iaload, 1) := by decide +kernel
theorem dX9_ground_256 : decode cX9_ground 256 = .ok (.iastore, 1) := by decide +kernel
theorem dX9_ground_257 : decode cX9_ground 257 = .ok (.aload_n 0, 1) := by decide +kernel
theorem dX9_ground_258 : decode cX9_ground 258 = .ok (.getfield 31, 3) := by decide +kernel
theorem dX9_ground_261 : decode cX9_ground 261 = .ok (.iload_n 2, 1) := by decide +kernel
theorem dX9_ground_262 : decode cX9_ground 262 = .ok (.iconst 0, 1) := by decide +kernel
theorem dX9_ground_263 : decode cX9_ground 263 = .ok (.bastore, 1) := by decide +kernel
theorem dX9_ground_264 : decode cX9_ground 264 = .ok (.aload_n 0, 1) := by decide +kernel
theorem dX9_ground_265 : decode cX9_ground 265 = .ok (.getfield 35, 3) := by decide +kernel
theorem dX9_ground_268 : decode cX9_ground 268 = .ok (.iload_n 2, 1) := by decide +kernel
theorem dX9_ground_269 : decode cX9_ground 269 = .ok (.iconst 0, 1) := by decide +kernel
theorem dX9_ground_270 : decode cX9_ground 270 = .ok (.iastore, 1) := by decide +kernel
theorem dX9_ground_271 : decode cX9_ground 271 = .ok (.iinc 2 1, 3) := by decide +kernel
theorem dX9_ground_274 : decode cX9_ground 274 = .ok (.goto (-99), 3) := by decide +kernel
theorem dX9_ground_277 : decode cX9_ground 277 = .ok (.aload_n 0, 1) := by decide +kernel
theorem dX9_ground_278 : decode cX9_ground 278 = .ok (.iconst 0, 1) := by decide +kernel
theorem dX9_ground_279 : decode cX9_ground 279 = .ok (.putfield 252, 3) := by decide +kernel
theorem dX9_ground_282 : decode cX9_ground 282 = .ok (.aload_n 0, 1) := by decide +kernel
theorem dX9_ground_283 : decode cX9_ground 283 = .ok (.iconst 0, 1) := by decide +kernel
theorem dX9_ground_284 : decode cX9_ground 284 = .ok (.putfield 255, 3) := by decide +kernel
theorem dX9_ground_287 : decode cX9_ground 287 = .ok (.aload_n 0, 1) := by decide +kernel
theorem dX9_ground_288 : decode cX9_ground 288 = .ok (.iconst 0, 1) := by decide +kernel
theorem dX9_ground_289 : decode cX9_ground 289 = .ok (.putfield 258, 3) := by decide +kernel
theorem dX9_ground_292 : decode cX9_ground 292 = .ok (.aload_n 0, 1) := by decide +kernel
theorem dX9_ground_293 : decode cX9_ground 293 = .ok (.iconst 0, 1) := by decide +kernel
theorem dX9_ground_294 : decode cX9_ground 294 = .ok (.putfield 261, 3) := by decide +kernel
theorem dX9_ground_297 : decode cX9_ground 297 = .ok (.aload_n 0, 1) := by decide +kernel
theorem dX9_ground_298 : decode cX9_ground 298 = .ok (.getfield 117, 3) := by decide +kernel
theorem dX9_ground_301 : decode cX9_ground 301 = .ok (.iconst 0, 1) := by decide +kernel
theorem dX9_ground_302 : decode cX9_ground 302 = .ok (.iconst 0, 1) := by decide +kernel
theorem dX9_ground_303 : decode cX9_ground 303 = .ok (.bastore, 1) := by decide +kernel
theorem dX9_ground_304 : decode cX9_ground 304 = .ok (.aload_n 0, 1) := by decide +kernel
theorem dX9_ground_305 : decode cX9_ground 305 = .ok (.getfield 117, 3) := by decide +kernel
theorem dX9_ground_308 : decode cX9_ground 308 = .ok (.iconst 1, 1) := by decide +kernel
theorem dX9_ground_309 : decode cX9_ground 309 = .ok (.iconst 0, 1) := by decide +kernel
theorem dX9_ground_310 : decode cX9_ground 310 = .ok (.bastore, 1) := by decide +kernel
theorem dX9_ground_311 : decode cX9_ground 311 = .ok (.aload_n 0, 1) := by decide +kernel
theorem dX9_ground_312 : decode cX9_ground 312 = .ok (.invokevirtual 264, 3) := by decide +kernel
theorem dX9_ground_315 : decode cX9_ground 315 = .ok (.ireturn, 1) := by decide +kernel
theorem dX9_fault_0 : decode cX9_fault 0 = .ok (.aload_n 0, 1) := by decide +kernel
theorem dX9_fault_1 : decode cX9_fault 1 = .ok (.getfield 41, 3) := by decide +kernel
theorem dX9_fault_4 : decode cX9_fault 4 = .ok (.ireturn, 1) := by decide +kernel
theorem dX9_shadowOf_0 : decode cX9_shadowOf 0 = .ok (.lconst 0, 1) := by decide +kernel
theorem dX9_shadowOf_1 : decode cX9_shadowOf 1 = .ok (.lstore 4, 2) := by decide +kernel
theorem dX9_shadowOf_3 : decode cX9_shadowOf 3 = .ok (.iload_n 1, 1) := by decide +kernel
theorem dX9_shadowOf_4 : decode cX9_shadowOf 4 = .ok (.aload_n 0, 1) := by decide +kernel
theorem dX9_shadowOf_5 : decode cX9_shadowOf 5 = .ok (.getfield 120, 3) := by decide +kernel
theorem dX9_shadowOf_8 : decode cX9_shadowOf 8 = .ok (.irem, 1) := by decide +kernel
theorem dX9_shadowOf_9 : decode cX9_shadowOf 9 = .ok (.istore 6, 2) := by decide +kernel
theorem dX9_shadowOf_11 : decode cX9_shadowOf 11 = .ok (.iload_n 1, 1) := by decide +kernel
theorem dX9_shadowOf_12 : decode cX9_shadowOf 12 = .ok (.aload_n 0, 1) := by decide +kernel
theorem dX9_shadowOf_13 : decode cX9_shadowOf 13 = .ok (.getfield 120, 3) := by decide +kernel
theorem dX9_shadowOf_16 : decode cX9_shadowOf 16 = .ok (.idiv, 1) := by decide +kernel
theorem dX9_shadowOf_17 : decode cX9_shadowOf 17 = .ok (.istore 7, 2) := by decide +kernel
theorem dX9_shadowOf_19 : decode cX9_shadowOf 19 = .ok (.iconst 0, 1) := by decide +kernel
theorem dX9_shadowOf_20 : decode cX9_shadowOf 20 = .ok (.istore 8, 2) := by decide +kernel
theorem dX9_shadowOf_22 : decode cX9_shadowOf 22 = .ok (.iload 8, 2) := by decide +kernel
theorem dX9_shadowOf_24 : decode cX9_shadowOf 24 = .ok (.iload_n 2, 1) := by decide +kernel
theorem dX9_shadowOf_25 : decode cX9_shadowOf 25 = .ok (.aload_n 0, 1) := by decide +kernel
theorem dX9_shadowOf_26 : decode cX9_shadowOf 26 = .ok (.getfield 19, 3) := by decide +kernel
theorem dX9_shadowOf_29 : decode cX9_shadowOf 29 = .ok (.iload_n 3, 1) := by decide +kernel
theorem dX9_shadowOf_30 : decode cX9_shadowOf 30 = .ok (.iaload, 1) := by decide +kernel
theorem dX9_shadowOf_31 : decode cX9_shadowOf 31 = .ok (.imul, 1) := by decide +kernel
theorem dX9_shadowOf_32 : decode cX9_shadowOf 32 = .ok (.if_icmp .ge 80, 3) := by decide +kernel
theorem dX9_shadowOf_35 : decode cX9_shadowOf 35 = .ok (.iload 6, 2) := by decide +kernel
theorem dX9_shadowOf_37 : decode cX9_shadowOf 37 = .ok (.aload_n 0, 1) := by decide +kernel
theorem dX9_shadowOf_38 : decode cX9_shadowOf 38 = .ok (.getfield 13, 3) := by decide +kernel
theorem dX9_shadowOf_41 : decode cX9_shadowOf 41 = .ok (.iload_n 3, 1) := by decide +kernel
theorem dX9_shadowOf_42 : decode cX9_shadowOf 42 = .ok (.iaload, 1) := by decide +kernel
theorem dX9_shadowOf_43 : decode cX9_shadowOf 43 = .ok (.iadd, 1) := by decide +kernel
theorem dX9_shadowOf_44 : decode cX9_shadowOf 44 = .ok (.istore 6, 2) := by decide +kernel
theorem dX9_shadowOf_46 : decode cX9_shadowOf 46 = .ok (.iload 7, 2) := by decide +kernel
theorem dX9_shadowOf_48 : decode cX9_shadowOf 48 = .ok (.aload_n 0, 1) := by decide +kernel
theorem dX9_shadowOf_49 : decode cX9_shadowOf 49 = .ok (.getfield 16, 3) := by decide +kernel
theorem dX9_shadowOf_52 : decode cX9_shadowOf 52 = .ok (.iload_n 3, 1) := by decide +kernel
theorem dX9_shadowOf_53 : decode cX9_shadowOf 53 = .ok (.iaload, 1) := by decide +kernel
theorem dX9_shadowOf_54 : decode cX9_shadowOf 54 = .ok (.iadd, 1) := by decide +kernel
theorem dX9_shadowOf_55 : decode cX9_shadowOf 55 = .ok (.istore 7, 2) := by decide +kernel
theorem dX9_shadowOf_57 : decode cX9_shadowOf 57 = .ok (.aload_n 0, 1) := by decide +kernel
theorem dX9_shadowOf_58 : decode cX9_shadowOf 58 = .ok (.iload 6, 2) := by decide +kernel
theorem dX9_shadowOf_60 : decode cX9_shadowOf 60 = .ok (.iload 7, 2) := by decide +kernel
theorem dX9_shadowOf_62 : decode cX9_shadowOf 62 = .ok (.invokevirtual 267, 3) := by decide +kernel
theorem dX9_shadowOf_65 : decode cX9_shadowOf 65 = .ok (.ifCond .eq 21, 3) := by decide +kernel
theorem dX9_shadowOf_68 : decode cX9_shadowOf 68 = .ok (.aload_n 0, 1) := by decide +kernel
theorem dX9_shadowOf_69 : decode cX9_shadowOf 69 = .ok (.getfield 7, 3) := by decide +kernel
theorem dX9_shadowOf_72 : decode cX9_shadowOf 72 = .ok (.aload_n 0, 1) := by decide +kernel
theorem dX9_shadowOf_73 : decode cX9_shadowOf 73 = .ok (.getfield 120, 3) := by decide +kernel
theorem dX9_shadowOf_76 : decode cX9_shadowOf 76 = .ok (.iload 7, 2) := by decide +kernel
theorem dX9_shadowOf_78 : decode cX9_shadowOf 78 = .ok (.imul, 1) := by decide +kernel
theorem dX9_shadowOf_79 : decode cX9_shadowOf 79 = .ok (.iload 6, 2) := by decide +kernel
theorem dX9_shadowOf_81 : decode cX9_shadowOf 81 = .ok (.iadd, 1) := by decide +kernel
theorem dX9_shadowOf_82 : decode cX9_shadowOf 82 = .ok (.iaload, 1) := by decide +kernel
theorem dX9_shadowOf_83 : decode cX9_shadowOf 83 = .ok (.ifCond .le 6, 3) := by decide +kernel
theorem dX9_shadowOf_86 : decode cX9_shadowOf 86 = .ok (.lload 4, 2) := by decide +kernel
theorem dX9_shadowOf_88 : decode cX9_shadowOf 88 = .ok (.lreturn, 1) := by decide +kernel
theorem dX9_shadowOf_89 : decode cX9_shadowOf 89 = .ok (.lload 4, 2) := by decide +kernel
theorem dX9_shadowOf_91 : decode cX9_shadowOf 91 = .ok (.lconst 1, 1) := by decide +kernel
theorem dX9_shadowOf_92 : decode cX9_shadowOf 92 = .ok (.aload_n 0, 1) := by decide +kernel
theorem dX9_shadowOf_93 : decode cX9_shadowOf 93 = .ok (.getfield 120, 3) := by decide +kernel
theorem dX9_shadowOf_96 : decode cX9_shadowOf 96 = .ok (.iload 7, 2) := by decide +kernel
theorem dX9_shadowOf_98 : decode cX9_shadowOf 98 = .ok (.imul, 1) := by decide +kernel
theorem dX9_shadowOf_99 : decode cX9_shadowOf 99 = .ok (.iload 6, 2) := by decide +kernel
theorem dX9_shadowOf_101 : decode cX9_shadowOf 101 = .ok (.iadd, 1) := by decide +kernel
theorem dX9_shadowOf_102 : decode cX9_shadowOf 102 = .ok (.lshl, 1) := by decide +kernel
theorem dX9_shadowOf_103 : decode cX9_shadowOf 103 = .ok (.lor, 1) := by decide +kernel
theorem dX9_shadowOf_104 : decode cX9_shadowOf 104 = .ok (.lstore 4, 2) := by decide +kernel
theorem dX9_shadowOf_106 : decode cX9_shadowOf 106 = .ok (.iinc 8 1, 3) := by decide +kernel
theorem dX9_shadowOf_109 : decode cX9_shadowOf 109 = .ok (.goto (-87), 3) := by decide +kernel
theorem dX9_shadowOf_112 : decode cX9_shadowOf 112 = .ok (.lload 4, 2) := by decide +kernel
theorem dX9_shadowOf_114 : decode cX9_shadowOf 114 = .ok (.lreturn, 1) := by decide +kernel
theorem dX9_darkAt_0 : decode cX9_darkAt 0 = .ok (.lconst 0, 1) := by decide +kernel
theorem dX9_darkAt_1 : decode cX9_darkAt 1 = .ok (.lstore_n 2, 1) := by decide +kernel
theorem dX9_darkAt_2 : decode cX9_darkAt 2 = .ok (.iconst 0, 1) := by decide +kernel
theorem dX9_darkAt_3 : decode cX9_darkAt 3 = .ok (.istore 4, 2) := by decide +kernel
theorem dX9_darkAt_5 : decode cX9_darkAt 5 = .ok (.iload 4, 2) := by decide +kernel
theorem dX9_darkAt_7 : decode cX9_darkAt 7 = .ok (.aload_n 0, 1) := by decide +kernel
theorem dX9_darkAt_8 : decode cX9_darkAt 8 = .ok (.invokevirtual 264, 3) := by decide +kernel
theorem dX9_darkAt_11 : decode cX9_darkAt 11 = .ok (.if_icmp .ge 40, 3) := by decide +kernel
theorem dX9_darkAt_14 : decode cX9_darkAt 14 = .ok (.lload_n 2, 1) := by decide +kernel
theorem dX9_darkAt_15 : decode cX9_darkAt 15 = .ok (.aload_n 0, 1) := by decide +kernel
theorem dX9_darkAt_16 : decode cX9_darkAt 16 = .ok (.getfield 7, 3) := by decide +kernel
theorem dX9_darkAt_19 : decode cX9_darkAt 19 = .ok (.iload 4, 2) := by decide +kernel
theorem dX9_darkAt_21 : decode cX9_darkAt 21 = .ok (.iaload, 1) := by decide +kernel
theorem dX9_darkAt_22 : decode cX9_darkAt 22 = .ok (.ifCond .le 20, 3) := by decide +kernel
theorem dX9_darkAt_25 : decode cX9_darkAt 25 = .ok (.aload_n 0, 1) := by decide +kernel
theorem dX9_darkAt_26 : decode cX9_darkAt 26 = .ok (.iload 4, 2) := by decide +kernel
theorem dX9_darkAt_28 : decode cX9_darkAt 28 = .ok (.aload_n 0, 1) := by decide +kernel
theorem dX9_darkAt_29 : decode cX9_darkAt 29 = .ok (.getfield 7, 3) := by decide +kernel
theorem dX9_darkAt_32 : decode cX9_darkAt 32 = .ok (.iload 4, 2) := by decide +kernel
theorem dX9_darkAt_34 : decode cX9_darkAt 34 = .ok (.iaload, 1) := by decide +kernel
theorem dX9_darkAt_35 : decode cX9_darkAt 35 = .ok (.iload_n 1, 1) := by decide +kernel
theorem dX9_darkAt_36 : decode cX9_darkAt 36 = .ok (.invokevirtual 271, 3) := by decide +kernel
theorem dX9_darkAt_39 : decode cX9_darkAt 39 = .ok (.goto 4, 3) := by decide +kernel
theorem dX9_darkAt_42 : decode cX9_darkAt 42 = .ok (.lconst 0, 1) := by decide +kernel
theorem dX9_darkAt_43 : decode cX9_darkAt 43 = .ok (.lor, 1) := by decide +kernel
theorem dX9_darkAt_44 : decode cX9_darkAt 44 = .ok (.lstore_n 2, 1) := by decide +kernel
theorem dX9_darkAt_45 : decode cX9_darkAt 45 = .ok (.iinc 4 1, 3) := by decide +kernel
theorem dX9_darkAt_48 : decode cX9_darkAt 48 = .ok (.goto (-43), 3) := by decide +kernel
theorem dX9_darkAt_51 : decode cX9_darkAt 51 = .ok (.lload_n 2, 1) := by decide +kernel
theorem dX9_darkAt_52 : decode cX9_darkAt 52 = .ok (.lreturn, 1) := by decide +kernel
theorem dX9_tallOf_0 : decode cX9_tallOf 0 = .ok (.iload_n 1, 1) := by decide +kernel
theorem dX9_tallOf_1 : decode cX9_tallOf 1 = .ok (.aload_n 0, 1) := by decide +kernel
theorem dX9_tallOf_2 : decode cX9_tallOf 2 = .ok (.getfield 69, 3) := by decide +kernel
theorem dX9_tallOf_5 : decode cX9_tallOf 5 = .ok (.if_icmp .ne 10, 3) := by decide +kernel
theorem dX9_tallOf_8 : decode cX9_tallOf 8 = .ok (.aload_n 0, 1) := by decide +kernel
theorem dX9_tallOf_9 : decode cX9_tallOf 9 = .ok (.getfield 274, 3) := by decide +kernel
theorem dX9_tallOf_12 : decode cX9_tallOf 12 = .ok (.goto 29, 3) := by decide +kernel
theorem dX9_tallOf_15 : decode cX9_tallOf 15 = .ok (.aload_n 0, 1) := by decide +kernel
theorem dX9_tallOf_16 : decode cX9_tallOf 16 = .ok (.getfield 31, 3) := by decide +kernel
theorem dX9_tallOf_19 : decode cX9_tallOf 19 = .ok (.iload_n 1, 1) := by decide +kernel
theorem dX9_tallOf_20 : decode cX9_tallOf 20 = .ok (.baload, 1) := by decide +kernel
theorem dX9_tallOf_21 : decode cX9_tallOf 21 = .ok (.ifCond .eq 14, 3) := by decide +kernel
theorem dX9_tallOf_24 : decode cX9_tallOf 24 = .ok (.aload_n 0, 1) := by decide +kernel
theorem dX9_tallOf_25 : decode cX9_tallOf 25 = .ok (.getfield 28, 3) := by decide +kernel
theorem dX9_tallOf_28 : decode cX9_tallOf 28 = .ok (.iload_n 1, 1) := by decide +kernel
theorem dX9_tallOf_29 : decode cX9_tallOf 29 = .ok (.iaload, 1) := by decide +kernel
theorem dX9_tallOf_30 : decode cX9_tallOf 30 = .ok (.iconst 1, 1) := by decide +kernel
theorem dX9_tallOf_31 : decode cX9_tallOf 31 = .ok (.isub, 1) := by decide +kernel
theorem dX9_tallOf_32 : decode cX9_tallOf 32 = .ok (.goto 9, 3) := by decide +kernel
theorem dX9_tallOf_35 : decode cX9_tallOf 35 = .ok (.aload_n 0, 1) := by decide +kernel
theorem dX9_tallOf_36 : decode cX9_tallOf 36 = .ok (.getfield 28, 3) := by decide +kernel
theorem dX9_tallOf_39 : decode cX9_tallOf 39 = .ok (.iload_n 1, 1) := by decide +kernel
theorem dX9_tallOf_40 : decode cX9_tallOf 40 = .ok (.iaload, 1) := by decide +kernel
theorem dX9_tallOf_41 : decode cX9_tallOf 41 = .ok (.ireturn, 1) := by decide +kernel
theorem dX9_castBy_0 : decode cX9_castBy 0 = .ok (.iload_n 1, 1) := by decide +kernel
theorem dX9_castBy_1 : decode cX9_castBy 1 = .ok (.aload_n 0, 1) := by decide +kernel
theorem dX9_castBy_2 : decode cX9_castBy 2 = .ok (.getfield 66, 3) := by decide +kernel
theorem dX9_castBy_5 : decode cX9_castBy 5 = .ok (.if_icmp .eq 16, 3) := by decide +kernel
theorem dX9_castBy_8 : decode cX9_castBy 8 = .ok (.lload_n 3, 1) := by decide +kernel
theorem dX9_castBy_9 : decode cX9_castBy 9 = .ok (.aload_n 0, 1) := by decide +kernel
theorem dX9_castBy_10 : decode cX9_castBy 10 = .ok (.getfield 25, 3) := by decide +kernel
theorem dX9_castBy_13 : decode cX9_castBy 13 = .ok (.iload_n 1, 1) := by decide +kernel
theorem dX9_castBy_14 : decode cX9_castBy 14 = .ok (.iaload, 1) := by decide +kernel
theorem dX9_castBy_15 : decode cX9_castBy 15 = .ok (.invokestatic 277, 3) := by decide +kernel
theorem dX9_castBy_18 : decode cX9_castBy 18 = .ok (.ifCond .eq 7, 3) := by decide +kernel
theorem dX9_castBy_21 : decode cX9_castBy 21 = .ok (.lconst 0, 1) := by decide +kernel
theorem dX9_castBy_22 : decode cX9_castBy 22 = .ok (.goto 19, 3) := by decide +kernel
theorem dX9_castBy_25 : decode cX9_castBy 25 = .ok (.aload_n 0, 1) := by decide +kernel
theorem dX9_castBy_26 : decode cX9_castBy 26 = .ok (.aload_n 0, 1) := by decide +kernel
theorem dX9_castBy_27 : decode cX9_castBy 27 = .ok (.getfield 25, 3) := by decide +kernel
theorem dX9_castBy_30 : decode cX9_castBy 30 = .ok (.iload_n 1, 1) := by decide +kernel
theorem dX9_castBy_31 : decode cX9_castBy 31 = .ok (.iaload, 1) := by decide +kernel
theorem dX9_castBy_32 : decode cX9_castBy 32 = .ok (.aload_n 0, 1) := by decide +kernel
theorem dX9_castBy_33 : decode cX9_castBy 33 = .ok (.iload_n 1, 1) := by decide +kernel
theorem dX9_castBy_34 : decode cX9_castBy 34 = .ok (.invokevirtual 281, 3) := by decide +kernel
theorem dX9_castBy_37 : decode cX9_castBy 37 = .ok (.iload_n 2, 1) := by decide +kernel
theorem dX9_castBy_38 : decode cX9_castBy 38 = .ok (.invokevirtual 271, 3) := by decide +kernel
theorem dX9_castBy_41 : decode cX9_castBy 41 = .ok (.lreturn, 1) := by decide +kernel
theorem dX9_paysAhead_0 : decode cX9_paysAhead 0 = .ok (.aload_n 0, 1) := by decide +kernel
theorem dX9_paysAhead_1 : decode cX9_paysAhead 1 = .ok (.getfield 285, 3) := by decide +kernel
theorem dX9_paysAhead_4 : decode cX9_paysAhead 4 = .ok (.iconst 1, 1) := by decide +kernel
theorem dX9_paysAhead_5 : decode cX9_paysAhead 5 = .ok (.if_icmp .ne 35, 3) := by decide +kernel
theorem dX9_paysAhead_8 : decode cX9_paysAhead 8 = .ok (.aload_n 0, 1) := by decide +kernel
theorem dX9_paysAhead_9 : decode cX9_paysAhead 9 = .ok (.iload_n 1, 1) := by decide +kernel
theorem dX9_paysAhead_10 : decode cX9_paysAhead 10 = .ok (.invokevirtual 281, 3) := by decide +kernel
theorem dX9_paysAhead_13 : decode cX9_paysAhead 13 = .ok (.aload_n 0, 1) := by decide +kernel
theorem dX9_paysAhead_14 : decode cX9_paysAhead 14 = .ok (.iload_n 2, 1) := by decide +kernel
theorem dX9_paysAhead_15 : decode cX9_paysAhead 15 = .ok (.invokevirtual 281, 3) := by decide +kernel
theorem dX9_paysAhead_18 : decode cX9_paysAhead 18 = .ok (.if_icmp .eq 22, 3) := by decide +kernel
theorem dX9_paysAhead_21 : decode cX9_paysAhead 21 = .ok (.aload_n 0, 1) := by decide +kernel
theorem dX9_paysAhead_22 : decode cX9_paysAhead 22 = .ok (.iload_n 1, 1) := by decide +kernel
theorem dX9_paysAhead_23 : decode cX9_paysAhead 23 = .ok (.invokevirtual 281, 3) := by decide +kernel
theorem dX9_paysAhead_26 : decode cX9_paysAhead 26 = .ok (.aload_n 0, 1) := by decide +kernel
theorem dX9_paysAhead_27 : decode cX9_paysAhead 27 = .ok (.iload_n 2, 1) := by decide +kernel
theorem dX9_paysAhead_28 : decode cX9_paysAhead 28 = .ok (.invokevirtual 281, 3) := by decide +kernel
theorem dX9_paysAhead_31 : decode cX9_paysAhead 31 = .ok (.if_icmp .le 7, 3) := by decide +kernel
theorem dX9_paysAhead_34 : decode cX9_paysAhead 34 = .ok (.iconst 1, 1) := by decide +kernel
theorem dX9_paysAhead_35 : decode cX9_paysAhead 35 = .ok (.goto 4, 3) := by decide +kernel
theorem dX9_paysAhead_38 : decode cX9_paysAhead 38 = .ok (.iconst 0, 1) := by decide +kernel
theorem dX9_paysAhead_39 : decode cX9_paysAhead 39 = .ok (.ireturn, 1) := by decide +kernel
theorem dX9_paysAhead_40 : decode cX9_paysAhead 40 = .ok (.iload_n 1, 1) := by decide +kernel
theorem dX9_paysAhead_41 : decode cX9_paysAhead 41 = .ok (.iload_n 2, 1) := by decide +kernel
theorem dX9_paysAhead_42 : decode cX9_paysAhead 42 = .ok (.if_icmp .ge 7, 3) := by decide +kernel
theorem dX9_paysAhead_45 : decode cX9_paysAhead 45 = .ok (.iconst 1, 1) := by decide +kernel
theorem dX9_paysAhead_46 : decode cX9_paysAhead 46 = .ok (.goto 4, 3) := by decide +kernel
theorem dX9_paysAhead_49 : decode cX9_paysAhead 49 = .ok (.iconst 0, 1) := by decide +kernel
theorem dX9_paysAhead_50 : decode cX9_paysAhead 50 = .ok (.ireturn, 1) := by decide +kernel
theorem dX9_owedAt_0 : decode cX9_owedAt 0 = .ok (.aload_n 0, 1) := by decide +kernel
theorem dX9_owedAt_1 : decode cX9_owedAt 1 = .ok (.iload_n 2, 1) := by decide +kernel
theorem dX9_owedAt_2 : decode cX9_owedAt 2 = .ok (.invokevirtual 288, 3) := by decide +kernel
theorem dX9_owedAt_5 : decode cX9_owedAt 5 = .ok (.lstore_n 3, 1) := by decide +kernel
theorem dX9_owedAt_6 : decode cX9_owedAt 6 = .ok (.aload_n 0, 1) := by decide +kernel
theorem dX9_owedAt_7 : decode cX9_owedAt 7 = .ok (.iload_n 1, 1) := by decide +kernel
theorem dX9_owedAt_8 : decode cX9_owedAt 8 = .ok (.iload_n 2, 1) := by decide +kernel
theorem dX9_owedAt_9 : decode cX9_owedAt 9 = .ok (.lload_n 3, 1) := by decide +kernel
theorem dX9_owedAt_10 : decode cX9_owedAt 10 = .ok (.invokevirtual 292, 3) := by decide +kernel
theorem dX9_owedAt_13 : decode cX9_owedAt 13 = .ok (.lload_n 3, 1) := by decide +kernel
theorem dX9_owedAt_14 : decode cX9_owedAt 14 = .ok (.ldc2_w 296, 3) := by decide +kernel
theorem dX9_owedAt_17 : decode cX9_owedAt 17 = .ok (.lxor, 1) := by decide +kernel
theorem dX9_owedAt_18 : decode cX9_owedAt 18 = .ok (.land, 1) := by decide +kernel
theorem dX9_owedAt_19 : decode cX9_owedAt 19 = .ok (.lstore 5, 2) := by decide +kernel
theorem dX9_owedAt_21 : decode cX9_owedAt 21 = .ok (.iconst 0, 1) := by decide +kernel
theorem dX9_owedAt_22 : decode cX9_owedAt 22 = .ok (.istore 7, 2) := by decide +kernel
theorem dX9_owedAt_24 : decode cX9_owedAt 24 = .ok (.iload 7, 2) := by decide +kernel
theorem dX9_owedAt_26 : decode cX9_owedAt 26 = .ok (.aload_n 0, 1) := by decide +kernel
theorem dX9_owedAt_27 : decode cX9_owedAt 27 = .ok (.getfield 130, 3) := by decide +kernel
theorem dX9_owedAt_30 : decode cX9_owedAt 30 = .ok (.if_icmp .ge 48, 3) := by decide +kernel
theorem dX9_owedAt_33 : decode cX9_owedAt 33 = .ok (.lload 5, 2) := by decide +kernel
theorem dX9_owedAt_35 : decode cX9_owedAt 35 = .ok (.iload 7, 2) := by decide +kernel
theorem dX9_owedAt_37 : decode cX9_owedAt 37 = .ok (.iload_n 1, 1) := by decide +kernel
theorem dX9_owedAt_38 : decode cX9_owedAt 38 = .ok (.if_icmp .eq 28, 3) := by decide +kernel
theorem dX9_owedAt_41 : decode cX9_owedAt 41 = .ok (.aload_n 0, 1) := by decide +kernel
theorem dX9_owedAt_42 : decode cX9_owedAt 42 = .ok (.iload 7, 2) := by decide +kernel
theorem dX9_owedAt_44 : decode cX9_owedAt 44 = .ok (.iload_n 1, 1) := by decide +kernel
theorem dX9_owedAt_45 : decode cX9_owedAt 45 = .ok (.invokevirtual 298, 3) := by decide +kernel
theorem dX9_owedAt_48 : decode cX9_owedAt 48 = .ok (.ifCond .eq 18, 3) := by decide +kernel
theorem dX9_owedAt_51 : decode cX9_owedAt 51 = .ok (.aload_n 0, 1) := by decide +kernel
theorem dX9_owedAt_52 : decode cX9_owedAt 52 = .ok (.iload 7, 2) := by decide +kernel
theorem dX9_owedAt_54 : decode cX9_owedAt 54 = .ok (.iload_n 2, 1) := by decide +kernel
theorem dX9_owedAt_55 : decode cX9_owedAt 55 = .ok (.lload_n 3, 1) := by decide +kernel
theorem dX9_owedAt_56 : decode cX9_owedAt 56 = .ok (.invokevirtual 292, 3) := by decide +kernel
theorem dX9_owedAt_59 : decode cX9_owedAt 59 = .ok (.ldc2_w 296, 3) := by decide +kernel
theorem dX9_owedAt_62 : decode cX9_owedAt 62 = .ok (.lxor, 1) := by decide +kernel
theorem dX9_owedAt_63 : decode cX9_owedAt 63 = .ok (.goto 6, 3) := by decide +kernel
theorem dX9_owedAt_66 : decode cX9_owedAt 66 = .ok (.ldc2_w 296, 3) := by decide +kernel
theorem dX9_owedAt_69 : decode cX9_owedAt 69 = .ok (.land, 1) := by decide +kernel
theorem dX9_owedAt_70 : decode cX9_owedAt 70 = .ok (.lstore 5, 2) := by decide +kernel
theorem dX9_owedAt_72 : decode cX9_owedAt 72 = .ok (.iinc 7 1, 3) := by decide +kernel
theorem dX9_owedAt_75 : decode cX9_owedAt 75 = .ok (.goto (-51), 3) := by decide +kernel
theorem dX9_owedAt_78 : decode cX9_owedAt 78 = .ok (.lload 5, 2) := by decide +kernel
theorem dX9_owedAt_80 : decode cX9_owedAt 80 = .ok (.invokestatic 301, 3) := by decide +kernel
theorem dX9_owedAt_83 : decode cX9_owedAt 83 = .ok (.ireturn, 1) := by decide +kernel
theorem dX9_meanOf_0 : decode cX9_meanOf 0 = .ok (.iconst 0, 1) := by decide +kernel
theorem dX9_meanOf_1 : decode cX9_meanOf 1 = .ok (.istore_n 2, 1) := by decide +kernel
theorem dX9_meanOf_2 : decode cX9_meanOf 2 = .ok (.iconst 0, 1) := by decide +kernel
theorem dX9_meanOf_3 : decode cX9_meanOf 3 = .ok (.istore_n 3, 1) := by decide +kernel
theorem dX9_meanOf_4 : decode cX9_meanOf 4 = .ok (.iload_n 3, 1) := by decide +kernel
theorem dX9_meanOf_5 : decode cX9_meanOf 5 = .ok (.aload_n 0, 1) := by decide +kernel
theorem dX9_meanOf_6 : decode cX9_meanOf 6 = .ok (.getfield 133, 3) := by decide +kernel
theorem dX9_meanOf_9 : decode cX9_meanOf 9 = .ok (.if_icmp .ge 38, 3) := by decide +kernel
theorem dX9_meanOf_12 : decode cX9_meanOf 12 = .ok (.iload_n 2, 1) := by decide +kernel
theorem dX9_meanOf_13 : decode cX9_meanOf 13 = .ok (.aload_n 0, 1) := by decide +kernel
theorem dX9_meanOf_14 : decode cX9_meanOf 14 = .ok (.getfield 22, 3) := by decide +kernel
theorem dX9_meanOf_17 : decode cX9_meanOf 17 = .ok (.iload_n 3, 1) := by decide +kernel
theorem dX9_meanOf_18 : decode cX9_meanOf 18 = .ok (.iaload, 1) := by decide +kernel
theorem dX9_meanOf_19 : decode cX9_meanOf 19 = .ok (.ifCond .ne 7, 3) := by decide +kernel
theorem dX9_meanOf_22 : decode cX9_meanOf 22 = .ok (.iconst 0, 1) := by decide +kernel
theorem dX9_meanOf_23 : decode cX9_meanOf 23 = .ok (.goto 16, 3) := by decide +kernel
theorem dX9_meanOf_26 : decode cX9_meanOf 26 = .ok (.aload_n 0, 1) := by decide +kernel
theorem dX9_meanOf_27 : decode cX9_meanOf 27 = .ok (.iload_n 1, 1) := by decide +kernel
theorem dX9_meanOf_28 : decode cX9_meanOf 28 = .ok (.iload_n 3, 1) := by decide +kernel
theorem dX9_meanOf_29 : decode cX9_meanOf 29 = .ok (.invokevirtual 305, 3) := by decide +kernel
theorem dX9_meanOf_32 : decode cX9_meanOf 32 = .ok (.aload_n 0, 1) := by decide +kernel
theorem dX9_meanOf_33 : decode cX9_meanOf 33 = .ok (.getfield 22, 3) := by decide +kernel
theorem dX9_meanOf_36 : decode cX9_meanOf 36 = .ok (.iload_n 3, 1) := by decide +kernel
theorem dX9_meanOf_37 : decode cX9_meanOf 37 = .ok (.iaload, 1) := by decide +kernel
theorem dX9_meanOf_38 : decode cX9_meanOf 38 = .ok (.imul, 1) := by decide +kernel
theorem dX9_meanOf_39 : decode cX9_meanOf 39 = .ok (.iadd, 1) := by decide +kernel
theorem dX9_meanOf_40 : decode cX9_meanOf 40 = .ok (.istore_n 2, 1) := by decide +kernel
theorem dX9_meanOf_41 : decode cX9_meanOf 41 = .ok (.iinc 3 1, 3) := by decide +kernel
theorem dX9_meanOf_44 : decode cX9_meanOf 44 = .ok (.goto (-40), 3) := by decide +kernel
theorem dX9_meanOf_47 : decode cX9_meanOf 47 = .ok (.iload_n 2, 1) := by decide +kernel
theorem dX9_meanOf_48 : decode cX9_meanOf 48 = .ok (.ireturn, 1) := by decide +kernel
theorem dX9_worstOf_0 : decode cX9_worstOf 0 = .ok (.iconst 0, 1) := by decide +kernel
theorem dX9_worstOf_1 : decode cX9_worstOf 1 = .ok (.istore_n 2, 1) := by decide +kernel
theorem dX9_worstOf_2 : decode cX9_worstOf 2 = .ok (.iconst 0, 1) := by decide +kernel
theorem dX9_worstOf_3 : decode cX9_worstOf 3 = .ok (.istore_n 3, 1) := by decide +kernel
theorem dX9_worstOf_4 : decode cX9_worstOf 4 = .ok (.iload_n 3, 1) := by decide +kernel
theorem dX9_worstOf_5 : decode cX9_worstOf 5 = .ok (.aload_n 0, 1) := by decide +kernel
theorem dX9_worstOf_6 : decode cX9_worstOf 6 = .ok (.getfield 133, 3) := by decide +kernel
theorem dX9_worstOf_9 : decode cX9_worstOf 9 = .ok (.if_icmp .ge 43, 3) := by decide +kernel
theorem dX9_worstOf_12 : decode cX9_worstOf 12 = .ok (.aload_n 0, 1) := by decide +kernel
theorem dX9_worstOf_13 : decode cX9_worstOf 13 = .ok (.getfield 22, 3) := by decide +kernel
theorem dX9_worstOf_16 : decode cX9_worstOf 16 = .ok (.iload_n 3, 1) := by decide +kernel
theorem dX9_worstOf_17 : decode cX9_worstOf 17 = .ok (.iaload, 1) := by decide +kernel
theorem dX9_worstOf_18 : decode cX9_worstOf 18 = .ok (.ifCond .ne 7, 3) := by decide +kernel
theorem dX9_worstOf_21 : decode cX9_worstOf 21 = .ok (.iconst 0, 1) := by decide +kernel
theorem dX9_worstOf_22 : decode cX9_worstOf 22 = .ok (.goto 9, 3) := by decide +kernel
theorem dX9_worstOf_25 : decode cX9_worstOf 25 = .ok (.aload_n 0, 1) := by decide +kernel
theorem dX9_worstOf_26 : decode cX9_worstOf 26 = .ok (.iload_n 1, 1) := by decide +kernel
theorem dX9_worstOf_27 : decode cX9_worstOf 27 = .ok (.iload_n 3, 1) := by decide +kernel
theorem dX9_worstOf_28 : decode cX9_worstOf 28 = .ok (.invokevirtual 305, 3) := by decide +kernel
theorem dX9_worstOf_31 : decode cX9_worstOf 31 = .ok (.istore 4, 2) := by decide +kernel
theorem dX9_worstOf_33 : decode cX9_worstOf 33 = .ok (.iload 4, 2) := by decide +kernel
theorem dX9_worstOf_35 : decode cX9_worstOf 35 = .ok (.iload_n 2, 1) := by decide +kernel
theorem dX9_worstOf_36 : decode cX9_worstOf 36 = .ok (.if_icmp .le 8, 3) := by decide +kernel
theorem dX9_worstOf_39 : decode cX9_worstOf 39 = .ok (.iload 4, 2) := by decide +kernel
theorem dX9_worstOf_41 : decode cX9_worstOf 41 = .ok (.goto 4, 3) := by decide +kernel
theorem dX9_worstOf_44 : decode cX9_worstOf 44 = .ok (.iload_n 2, 1) := by decide +kernel
theorem dX9_worstOf_45 : decode cX9_worstOf 45 = .ok (.istore_n 2, 1) := by decide +kernel
theorem dX9_worstOf_46 : decode cX9_worstOf 46 = .ok (.iinc 3 1, 3) := by decide +kernel
theorem dX9_worstOf_49 : decode cX9_worstOf 49 = .ok (.goto (-45), 3) := by decide +kernel
theorem dX9_worstOf_52 : decode cX9_worstOf 52 = .ok (.iload_n 2, 1) := by decide +kernel
theorem dX9_worstOf_53 : decode cX9_worstOf 53 = .ok (.ireturn, 1) := by decide +kernel
theorem dX9_meanOfAll_0 : decode cX9_meanOfAll 0 = .ok (.iconst 0, 1) := by decide +kernel
theorem dX9_meanOfAll_1 : decode cX9_meanOfAll 1 = .ok (.istore_n 1, 1) := by decide +kernel
theorem dX9_meanOfAll_2 : decode cX9_meanOfAll 2 = .ok (.iconst 0, 1) := by decide +kernel
theorem dX9_meanOfAll_3 : decode cX9_meanOfAll 3 = .ok (.istore_n 2, 1) := by decide +kernel
theorem dX9_meanOfAll_4 : decode cX9_meanOfAll 4 = .ok (.iload_n 2, 1) := by decide +kernel
theorem dX9_meanOfAll_5 : decode cX9_meanOfAll 5 = .ok (.aload_n 0, 1) := by decide +kernel
theorem dX9_meanOfAll_6 : decode cX9_meanOfAll 6 = .ok (.getfield 130, 3) := by decide +kernel
theorem dX9_meanOfAll_9 : decode cX9_meanOfAll 9 = .ok (.if_icmp .ge 17, 3) := by decide +kernel
theorem dX9_meanOfAll_12 : decode cX9_meanOfAll 12 = .ok (.iload_n 1, 1) := by decide +kernel
theorem dX9_meanOfAll_13 : decode cX9_meanOfAll 13 = .ok (.aload_n 0, 1) := by decide +kernel
theorem dX9_meanOfAll_14 : decode cX9_meanOfAll 14 = .ok (.iload_n 2, 1) := by decide +kernel
theorem dX9_meanOfAll_15 : decode cX9_meanOfAll 15 = .ok (.invokevirtual 308, 3) := by decide +kernel
theorem dX9_meanOfAll_18 : decode cX9_meanOfAll 18 = .ok (.iadd, 1) := by decide +kernel
theorem dX9_meanOfAll_19 : decode cX9_meanOfAll 19 = .ok (.istore_n 1, 1) := by decide +kernel
theorem dX9_meanOfAll_20 : decode cX9_meanOfAll 20 = .ok (.iinc 2 1, 3) := by decide +kernel
theorem dX9_meanOfAll_23 : decode cX9_meanOfAll 23 = .ok (.goto (-19), 3) := by decide +kernel
theorem dX9_meanOfAll_26 : decode cX9_meanOfAll 26 = .ok (.iload_n 1, 1) := by decide +kernel
theorem dX9_meanOfAll_27 : decode cX9_meanOfAll 27 = .ok (.ireturn, 1) := by decide +kernel
theorem dX9_told_0 : decode cX9_told 0 = .ok (.iload_n 1, 1) := by decide +kernel
theorem dX9_told_1 : decode cX9_told 1 = .ok (.tableswitch 123 0 11 #[63, 68, 73, 78, 83, 88, 93, 98, 103, 108, 113, 118], 63) := by decide +kernel
theorem dX9_told_64 : decode cX9_told 64 = .ok (.aload_n 0, 1) := by decide +kernel
theorem dX9_told_65 : decode cX9_told 65 = .ok (.getfield 120, 3) := by decide +kernel
theorem dX9_told_68 : decode cX9_told 68 = .ok (.ireturn, 1) := by decide +kernel
theorem dX9_told_69 : decode cX9_told 69 = .ok (.aload_n 0, 1) := by decide +kernel
theorem dX9_told_70 : decode cX9_told 70 = .ok (.getfield 127, 3) := by decide +kernel
theorem dX9_told_73 : decode cX9_told 73 = .ok (.ireturn, 1) := by decide +kernel
theorem dX9_told_74 : decode cX9_told 74 = .ok (.aload_n 0, 1) := by decide +kernel
theorem dX9_told_75 : decode cX9_told 75 = .ok (.getfield 133, 3) := by decide +kernel
theorem dX9_told_78 : decode cX9_told 78 = .ok (.ireturn, 1) := by decide +kernel
theorem dX9_told_79 : decode cX9_told 79 = .ok (.aload_n 0, 1) := by decide +kernel
theorem dX9_told_80 : decode cX9_told 80 = .ok (.getfield 130, 3) := by decide +kernel
theorem dX9_told_83 : decode cX9_told 83 = .ok (.ireturn, 1) := by decide +kernel
theorem dX9_told_84 : decode cX9_told 84 = .ok (.aload_n 0, 1) := by decide +kernel
theorem dX9_told_85 : decode cX9_told 85 = .ok (.getfield 139, 3) := by decide +kernel
theorem dX9_told_88 : decode cX9_told 88 = .ok (.ireturn, 1) := by decide +kernel
theorem dX9_told_89 : decode cX9_told 89 = .ok (.aload_n 0, 1) := by decide +kernel
theorem dX9_told_90 : decode cX9_told 90 = .ok (.getfield 285, 3) := by decide +kernel
theorem dX9_told_93 : decode cX9_told 93 = .ok (.ireturn, 1) := by decide +kernel
theorem dX9_told_94 : decode cX9_told 94 = .ok (.aload_n 0, 1) := by decide +kernel
theorem dX9_told_95 : decode cX9_told 95 = .ok (.getfield 252, 3) := by decide +kernel
theorem dX9_told_98 : decode cX9_told 98 = .ok (.ireturn, 1) := by decide +kernel
theorem dX9_told_99 : decode cX9_told 99 = .ok (.aload_n 0, 1) := by decide +kernel
theorem dX9_told_100 : decode cX9_told 100 = .ok (.getfield 255, 3) := by decide +kernel
theorem dX9_told_103 : decode cX9_told 103 = .ok (.ireturn, 1) := by decide +kernel
theorem dX9_told_104 : decode cX9_told 104 = .ok (.aload_n 0, 1) := by decide +kernel
theorem dX9_told_105 : decode cX9_told 105 = .ok (.getfield 258, 3) := by decide +kernel
theorem dX9_told_108 : decode cX9_told 108 = .ok (.ireturn, 1) := by decide +kernel
theorem dX9_told_109 : decode cX9_told 109 = .ok (.aload_n 0, 1) := by decide +kernel
theorem dX9_told_110 : decode cX9_told 110 = .ok (.getfield 261, 3) := by decide +kernel
theorem dX9_told_113 : decode cX9_told 113 = .ok (.ireturn, 1) := by decide +kernel
theorem dX9_told_114 : decode cX9_told 114 = .ok (.aload_n 0, 1) := by decide +kernel
theorem dX9_told_115 : decode cX9_told 115 = .ok (.invokevirtual 311, 3) := by decide +kernel
theorem dX9_told_118 : decode cX9_told 118 = .ok (.ireturn, 1) := by decide +kernel
theorem dX9_told_119 : decode cX9_told 119 = .ok (.aload_n 0, 1) := by decide +kernel
theorem dX9_told_120 : decode cX9_told 120 = .ok (.getfield 249, 3) := by decide +kernel
theorem dX9_told_123 : decode cX9_told 123 = .ok (.ireturn, 1) := by decide +kernel
theorem dX9_told_124 : decode cX9_told 124 = .ok (.ldc 138, 2) := by decide +kernel
theorem dX9_told_126 : decode cX9_told 126 = .ok (.ireturn, 1) := by decide +kernel
theorem dX9_castersAt_0 : decode cX9_castersAt 0 = .ok (.aload_n 0, 1) := by decide +kernel
theorem dX9_castersAt_1 : decode cX9_castersAt 1 = .ok (.iload_n 2, 1) := by decide +kernel
theorem dX9_castersAt_2 : decode cX9_castersAt 2 = .ok (.invokevirtual 288, 3) := by decide +kernel
theorem dX9_castersAt_5 : decode cX9_castersAt 5 = .ok (.lstore_n 3, 1) := by decide +kernel
theorem dX9_castersAt_6 : decode cX9_castersAt 6 = .ok (.iconst 0, 1) := by decide +kernel
theorem dX9_castersAt_7 : decode cX9_castersAt 7 = .ok (.istore 5, 2) := by decide +kernel
theorem dX9_castersAt_9 : decode cX9_castersAt 9 = .ok (.iconst 0, 1) := by decide +kernel
theorem dX9_castersAt_10 : decode cX9_castersAt 10 = .ok (.istore 6, 2) := by decide +kernel
theorem dX9_castersAt_12 : decode cX9_castersAt 12 = .ok (.iload 6, 2) := by decide +kernel
theorem dX9_castersAt_14 : decode cX9_castersAt 14 = .ok (.aload_n 0, 1) := by decide +kernel
theorem dX9_castersAt_15 : decode cX9_castersAt 15 = .ok (.getfield 130, 3) := by decide +kernel
theorem dX9_castersAt_18 : decode cX9_castersAt 18 = .ok (.if_icmp .ge 37, 3) := by decide +kernel
theorem dX9_castersAt_21 : decode cX9_castersAt 21 = .ok (.iload 5, 2) := by decide +kernel
theorem dX9_castersAt_23 : decode cX9_castersAt 23 = .ok (.aload_n 0, 1) := by decide +kernel
theorem dX9_castersAt_24 : decode cX9_castersAt 24 = .ok (.iload 6, 2) := by decide +kernel
theorem dX9_castersAt_26 : decode cX9_castersAt 26 = .ok (.iload_n 2, 1) := by decide +kernel
theorem dX9_castersAt_27 : decode cX9_castersAt 27 = .ok (.lload_n 3, 1) := by decide +kernel
theorem dX9_castersAt_28 : decode cX9_castersAt 28 = .ok (.invokevirtual 292, 3) := by decide +kernel
theorem dX9_castersAt_31 : decode cX9_castersAt 31 = .ok (.iload_n 1, 1) := by decide +kernel
theorem dX9_castersAt_32 : decode cX9_castersAt 32 = .ok (.invokestatic 277, 3) := by decide +kernel
theorem dX9_castersAt_35 : decode cX9_castersAt 35 = .ok (.ifCond .eq 10, 3) := by decide +kernel
theorem dX9_castersAt_38 : decode cX9_castersAt 38 = .ok (.iconst 1, 1) := by decide +kernel
theorem dX9_castersAt_39 : decode cX9_castersAt 39 = .ok (.iload 6, 2) := by decide +kernel
theorem dX9_castersAt_41 : decode cX9_castersAt 41 = .ok (.ishl, 1) := by decide +kernel
theorem dX9_castersAt_42 : decode cX9_castersAt 42 = .ok (.goto 4, 3) := by decide +kernel
theorem dX9_castersAt_45 : decode cX9_castersAt 45 = .ok (.iconst 0, 1) := by decide +kernel
theorem dX9_castersAt_46 : decode cX9_castersAt 46 = .ok (.ior, 1) := by decide +kernel
theorem dX9_castersAt_47 : decode cX9_castersAt 47 = .ok (.istore 5, 2) := by decide +kernel
theorem dX9_castersAt_49 : decode cX9_castersAt 49 = .ok (.iinc 6 1, 3) := by decide +kernel
theorem dX9_castersAt_52 : decode cX9_castersAt 52 = .ok (.goto (-40), 3) := by decide +kernel
theorem dX9_castersAt_55 : decode cX9_castersAt 55 = .ok (.iload 5, 2) := by decide +kernel
theorem dX9_castersAt_57 : decode cX9_castersAt 57 = .ok (.ireturn, 1) := by decide +kernel
theorem dX9_payerAt_0 : decode cX9_payerAt 0 = .ok (.aload_n 0, 1) := by decide +kernel
theorem dX9_payerAt_1 : decode cX9_payerAt 1 = .ok (.iload_n 1, 1) := by decide +kernel
theorem dX9_payerAt_2 : decode cX9_payerAt 2 = .ok (.iload_n 2, 1) := by decide +kernel
theorem dX9_payerAt_3 : decode cX9_payerAt 3 = .ok (.invokevirtual 314, 3) := by decide +kernel
theorem dX9_payerAt_6 : decode cX9_payerAt 6 = .ok (.istore_n 3, 1) := by decide +kernel
theorem dX9_payerAt_7 : decode cX9_payerAt 7 = .ok (.iconst (-1), 1) := by decide +kernel
theorem dX9_payerAt_8 : decode cX9_payerAt 8 = .ok (.istore 4, 2) := by decide +kernel
theorem dX9_payerAt_10 : decode cX9_payerAt 10 = .ok (.iconst 0, 1) := by decide +kernel
theorem dX9_payerAt_11 : decode cX9_payerAt 11 = .ok (.istore 5, 2) := by decide +kernel
theorem dX9_payerAt_13 : decode cX9_payerAt 13 = .ok (.iload 5, 2) := by decide +kernel
theorem dX9_payerAt_15 : decode cX9_payerAt 15 = .ok (.aload_n 0, 1) := by decide +kernel
theorem dX9_payerAt_16 : decode cX9_payerAt 16 = .ok (.getfield 130, 3) := by decide +kernel
theorem dX9_payerAt_19 : decode cX9_payerAt 19 = .ok (.if_icmp .ge 44, 3) := by decide +kernel
theorem dX9_payerAt_22 : decode cX9_payerAt 22 = .ok (.iload_n 3, 1) := by decide +kernel
theorem dX9_payerAt_23 : decode cX9_payerAt 23 = .ok (.i2l, 1) := by decide +kernel
theorem dX9_payerAt_24 : decode cX9_payerAt 24 = .ok (.iload 5, 2) := by decide +kernel
theorem dX9_payerAt_26 : decode cX9_payerAt 26 = .ok (.invokestatic 277, 3) := by decide +kernel
theorem dX9_payerAt_29 : decode cX9_payerAt 29 = .ok (.ifCond .eq 24, 3) := by decide +kernel
theorem dX9_payerAt_32 : decode cX9_payerAt 32 = .ok (.iload 4, 2) := by decide +kernel
theorem dX9_payerAt_34 : decode cX9_payerAt 34 = .ok (.ifCond .lt 14, 3) := by decide +kernel
theorem dX9_payerAt_37 : decode cX9_payerAt 37 = .ok (.aload_n 0, 1) := by decide +kernel
theorem dX9_payerAt_38 : decode cX9_payerAt 38 = .ok (.iload 5, 2) := by decide +kernel
theorem dX9_payerAt_40 : decode cX9_payerAt 40 = .ok (.iload 4, 2) := by decide +kernel
theorem dX9_payerAt_42 : decode cX9_payerAt 42 = .ok (.invokevirtual 298, 3) := by decide +kernel
theorem dX9_payerAt_45 : decode cX9_payerAt 45 = .ok (.ifCond .eq 8, 3) := by decide +kernel
theorem dX9_payerAt_48 : decode cX9_payerAt 48 = .ok (.iload 5, 2) := by decide +kernel
theorem dX9_payerAt_50 : decode cX9_payerAt 50 = .ok (.goto 5, 3) := by decide +kernel
theorem dX9_payerAt_53 : decode cX9_payerAt 53 = .ok (.iload 4, 2) := by decide +kernel
theorem dX9_payerAt_55 : decode cX9_payerAt 55 = .ok (.istore 4, 2) := by decide +kernel
theorem dX9_payerAt_57 : decode cX9_payerAt 57 = .ok (.iinc 5 1, 3) := by decide +kernel
theorem dX9_payerAt_60 : decode cX9_payerAt 60 = .ok (.goto (-47), 3) := by decide +kernel
theorem dX9_payerAt_63 : decode cX9_payerAt 63 = .ok (.aload_n 0, 1) := by decide +kernel
theorem dX9_payerAt_64 : decode cX9_payerAt 64 = .ok (.iload_n 2, 1) := by decide +kernel
theorem dX9_payerAt_65 : decode cX9_payerAt 65 = .ok (.invokevirtual 288, 3) := by decide +kernel
theorem dX9_payerAt_68 : decode cX9_payerAt 68 = .ok (.iload_n 1, 1) := by decide +kernel
theorem dX9_payerAt_69 : decode cX9_payerAt 69 = .ok (.invokestatic 277, 3) := by decide +kernel
theorem dX9_payerAt_72 : decode cX9_payerAt 72 = .ok (.ifCond .eq 7, 3) := by decide +kernel
theorem dX9_payerAt_75 : decode cX9_payerAt 75 = .ok (.iconst (-1), 1) := by decide +kernel
theorem dX9_payerAt_76 : decode cX9_payerAt 76 = .ok (.goto 5, 3) := by decide +kernel
theorem dX9_payerAt_79 : decode cX9_payerAt 79 = .ok (.iload 4, 2) := by decide +kernel
theorem dX9_payerAt_81 : decode cX9_payerAt 81 = .ok (.ireturn, 1) := by decide +kernel
theorem dX9_cell_0 : decode cX9_cell 0 = .ok (.aload_n 0, 1) := by decide +kernel
theorem dX9_cell_1 : decode cX9_cell 1 = .ok (.iload_n 1, 1) := by decide +kernel
theorem dX9_cell_2 : decode cX9_cell 2 = .ok (.iload_n 2, 1) := by decide +kernel
theorem dX9_cell_3 : decode cX9_cell 3 = .ok (.invokevirtual 267, 3) := by decide +kernel
theorem dX9_cell_6 : decode cX9_cell 6 = .ok (.ifCond .eq 11, 3) := by decide +kernel
theorem dX9_cell_9 : decode cX9_cell 9 = .ok (.aload_n 0, 1) := by decide +kernel
theorem dX9_cell_10 : decode cX9_cell 10 = .ok (.iload_n 3, 1) := by decide +kernel
theorem dX9_cell_11 : decode cX9_cell 11 = .ok (.invokevirtual 317, 3) := by decide +kernel
theorem dX9_cell_14 : decode cX9_cell 14 = .ok (.ifCond .ne 7, 3) := by decide +kernel
theorem dX9_cell_17 : decode cX9_cell 17 = .ok (.ldc_w 320, 3) := by decide +kernel
theorem dX9_cell_20 : decode cX9_cell 20 = .ok (.ireturn, 1) := by decide +kernel
theorem dX9_cell_21 : decode cX9_cell 21 = .ok (.aload_n 0, 1) := by decide +kernel
theorem dX9_cell_22 : decode cX9_cell 22 = .ok (.getfield 120, 3) := by decide +kernel
theorem dX9_cell_25 : decode cX9_cell 25 = .ok (.iload_n 2, 1) := by decide +kernel
theorem dX9_cell_26 : decode cX9_cell 26 = .ok (.imul, 1) := by decide +kernel
theorem dX9_cell_27 : decode cX9_cell 27 = .ok (.iload_n 1, 1) := by decide +kernel
theorem dX9_cell_28 : decode cX9_cell 28 = .ok (.iadd, 1) := by decide +kernel
theorem dX9_cell_29 : decode cX9_cell 29 = .ok (.istore 5, 2) := by decide +kernel
theorem dX9_cell_31 : decode cX9_cell 31 = .ok (.iload 4, 2) := by decide +kernel
theorem dX9_cell_33 : decode cX9_cell 33 = .ok (.tableswitch 74 0 3 #[31, 39, 58, 66], 31) := by decide +kernel
theorem dX9_cell_64 : decode cX9_cell 64 = .ok (.aload_n 0, 1) := by decide +kernel
theorem dX9_cell_65 : decode cX9_cell 65 = .ok (.getfield 7, 3) := by decide +kernel
theorem dX9_cell_68 : decode cX9_cell 68 = .ok (.iload 5, 2) := by decide +kernel
theorem dX9_cell_70 : decode cX9_cell 70 = .ok (.iaload, 1) := by decide +kernel
theorem dX9_cell_71 : decode cX9_cell 71 = .ok (.ireturn, 1) := by decide +kernel
theorem dX9_cell_72 : decode cX9_cell 72 = .ok (.aload_n 0, 1) := by decide +kernel
theorem dX9_cell_73 : decode cX9_cell 73 = .ok (.iload_n 3, 1) := by decide +kernel
theorem dX9_cell_74 : decode cX9_cell 74 = .ok (.invokevirtual 288, 3) := by decide +kernel
theorem dX9_cell_77 : decode cX9_cell 77 = .ok (.iload 5, 2) := by decide +kernel
theorem dX9_cell_79 : decode cX9_cell 79 = .ok (.invokestatic 277, 3) := by decide +kernel
theorem dX9_cell_82 : decode cX9_cell 82 = .ok (.ifCond .eq 7, 3) := by decide +kernel
theorem dX9_cell_85 : decode cX9_cell 85 = .ok (.iconst 1, 1) := by decide +kernel
theorem dX9_cell_86 : decode cX9_cell 86 = .ok (.goto 4, 3) := by decide +kernel
theorem dX9_cell_89 : decode cX9_cell 89 = .ok (.iconst 0, 1) := by decide +kernel
theorem dX9_cell_90 : decode cX9_cell 90 = .ok (.ireturn, 1) := by decide +kernel
theorem dX9_cell_91 : decode cX9_cell 91 = .ok (.aload_n 0, 1) := by decide +kernel
theorem dX9_cell_92 : decode cX9_cell 92 = .ok (.iload 5, 2) := by decide +kernel
theorem dX9_cell_94 : decode cX9_cell 94 = .ok (.iload_n 3, 1) := by decide +kernel
theorem dX9_cell_95 : decode cX9_cell 95 = .ok (.invokevirtual 314, 3) := by decide +kernel
theorem dX9_cell_98 : decode cX9_cell 98 = .ok (.ireturn, 1) := by decide +kernel
theorem dX9_cell_99 : decode cX9_cell 99 = .ok (.aload_n 0, 1) := by decide +kernel
theorem dX9_cell_100 : decode cX9_cell 100 = .ok (.iload 5, 2) := by decide +kernel
theorem dX9_cell_102 : decode cX9_cell 102 = .ok (.iload_n 3, 1) := by decide +kernel
theorem dX9_cell_103 : decode cX9_cell 103 = .ok (.invokevirtual 321, 3) := by decide +kernel
theorem dX9_cell_106 : decode cX9_cell 106 = .ok (.ireturn, 1) := by decide +kernel
theorem dX9_cell_107 : decode cX9_cell 107 = .ok (.ldc 138, 2) := by decide +kernel
theorem dX9_cell_109 : decode cX9_cell 109 = .ok (.ireturn, 1) := by decide +kernel
theorem dX9_person_0 : decode cX9_person 0 = .ok (.aload_n 0, 1) := by decide +kernel
theorem dX9_person_1 : decode cX9_person 1 = .ok (.iload_n 1, 1) := by decide +kernel
theorem dX9_person_2 : decode cX9_person 2 = .ok (.invokevirtual 324, 3) := by decide +kernel
theorem dX9_person_5 : decode cX9_person 5 = .ok (.ifCond .ne 7, 3) := by decide +kernel
theorem dX9_person_8 : decode cX9_person 8 = .ok (.ldc_w 320, 3) := by decide +kernel
theorem dX9_person_11 : decode cX9_person 11 = .ok (.ireturn, 1) := by decide +kernel
theorem dX9_person_12 : decode cX9_person 12 = .ok (.iload_n 2, 1) := by decide +kernel
theorem dX9_person_13 : decode cX9_person 13 = .ok (.tableswitch 107 0 6 #[43, 55, 67, 73, 88, 95, 101], 43) := by decide +kernel
theorem dX9_person_56 : decode cX9_person 56 = .ok (.aload_n 0, 1) := by decide +kernel
theorem dX9_person_57 : decode cX9_person 57 = .ok (.getfield 25, 3) := by decide +kernel
theorem dX9_person_60 : decode cX9_person 60 = .ok (.iload_n 1, 1) := by decide +kernel
theorem dX9_person_61 : decode cX9_person 61 = .ok (.iaload, 1) := by decide +kernel
theorem dX9_person_62 : decode cX9_person 62 = .ok (.aload_n 0, 1) := by decide +kernel
theorem dX9_person_63 : decode cX9_person 63 = .ok (.getfield 120, 3) := by decide +kernel
theorem dX9_person_66 : decode cX9_person 66 = .ok (.irem, 1) := by decide +kernel
theorem dX9_person_67 : decode cX9_person 67 = .ok (.ireturn, 1) := by decide +kernel
theorem dX9_person_68 : decode cX9_person 68 = .ok (.aload_n 0, 1) := by decide +kernel
theorem dX9_person_69 : decode cX9_person 69 = .ok (.getfield 25, 3) := by decide +kernel
theorem dX9_person_72 : decode cX9_person 72 = .ok (.iload_n 1, 1) := by decide +kernel
theorem dX9_person_73 : decode cX9_person 73 = .ok (.iaload, 1) := by decide +kernel
theorem dX9_person_74 : decode cX9_person 74 = .ok (.aload_n 0, 1) := by decide +kernel
theorem dX9_person_75 : decode cX9_person 75 = .ok (.getfield 120, 3) := by decide +kernel
theorem dX9_person_78 : decode cX9_person 78 = .ok (.idiv, 1) := by decide +kernel
theorem dX9_person_79 : decode cX9_person 79 = .ok (.ireturn, 1) := by decide +kernel
theorem dX9_person_80 : decode cX9_person 80 = .ok (.aload_n 0, 1) := by decide +kernel
theorem dX9_person_81 : decode cX9_person 81 = .ok (.iload_n 1, 1) := by decide +kernel
theorem dX9_person_82 : decode cX9_person 82 = .ok (.invokevirtual 281, 3) := by decide +kernel
theorem dX9_person_85 : decode cX9_person 85 = .ok (.ireturn, 1) := by decide +kernel
theorem dX9_person_86 : decode cX9_person 86 = .ok (.aload_n 0, 1) := by decide +kernel
theorem dX9_person_87 : decode cX9_person 87 = .ok (.getfield 31, 3) := by decide +kernel
theorem dX9_person_90 : decode cX9_person 90 = .ok (.iload_n 1, 1) := by decide +kernel
theorem dX9_person_91 : decode cX9_person 91 = .ok (.baload, 1) := by decide +kernel
theorem dX9_person_92 : decode cX9_person 92 = .ok (.ifCond .eq 7, 3) := by decide +kernel
theorem dX9_person_95 : decode cX9_person 95 = .ok (.iconst 1, 1) := by decide +kernel
theorem dX9_person_96 : decode cX9_person 96 = .ok (.goto 4, 3) := by decide +kernel
theorem dX9_person_99 : decode cX9_person 99 = .ok (.iconst 0, 1) := by decide +kernel
theorem dX9_person_100 : decode cX9_person 100 = .ok (.ireturn, 1) := by decide +kernel
theorem dX9_person_101 : decode cX9_person 101 = .ok (.aload_n 0, 1) := by decide +kernel
theorem dX9_person_102 : decode cX9_person 102 = .ok (.getfield 35, 3) := by decide +kernel
theorem dX9_person_105 : decode cX9_person 105 = .ok (.iload_n 1, 1) := by decide +kernel
theorem dX9_person_106 : decode cX9_person 106 = .ok (.iaload, 1) := by decide +kernel
theorem dX9_person_107 : decode cX9_person 107 = .ok (.ireturn, 1) := by decide +kernel
theorem dX9_person_108 : decode cX9_person 108 = .ok (.aload_n 0, 1) := by decide +kernel
theorem dX9_person_109 : decode cX9_person 109 = .ok (.iload_n 1, 1) := by decide +kernel
theorem dX9_person_110 : decode cX9_person 110 = .ok (.invokevirtual 308, 3) := by decide +kernel
theorem dX9_person_113 : decode cX9_person 113 = .ok (.ireturn, 1) := by decide +kernel
theorem dX9_person_114 : decode cX9_person 114 = .ok (.aload_n 0, 1) := by decide +kernel
theorem dX9_person_115 : decode cX9_person 115 = .ok (.iload_n 1, 1) := by decide +kernel
theorem dX9_person_116 : decode cX9_person 116 = .ok (.invokevirtual 327, 3) := by decide +kernel
theorem dX9_person_119 : decode cX9_person 119 = .ok (.ireturn, 1) := by decide +kernel
theorem dX9_person_120 : decode cX9_person 120 = .ok (.ldc 138, 2) := by decide +kernel
theorem dX9_person_122 : decode cX9_person 122 = .ok (.ireturn, 1) := by decide +kernel
theorem dX9_owed_0 : decode cX9_owed 0 = .ok (.aload_n 0, 1) := by decide +kernel
theorem dX9_owed_1 : decode cX9_owed 1 = .ok (.iload_n 1, 1) := by decide +kernel
theorem dX9_owed_2 : decode cX9_owed 2 = .ok (.invokevirtual 324, 3) := by decide +kernel
theorem dX9_owed_5 : decode cX9_owed 5 = .ok (.ifCond .eq 20, 3) := by decide +kernel
theorem dX9_owed_8 : decode cX9_owed 8 = .ok (.aload_n 0, 1) := by decide +kernel
theorem dX9_owed_9 : decode cX9_owed 9 = .ok (.iload_n 2, 1) := by decide +kernel
theorem dX9_owed_10 : decode cX9_owed 10 = .ok (.invokevirtual 317, 3) := by decide +kernel
theorem dX9_owed_13 : decode cX9_owed 13 = .ok (.ifCond .eq 12, 3) := by decide +kernel
theorem dX9_owed_16 : decode cX9_owed 16 = .ok (.aload_n 0, 1) := by decide +kernel
theorem dX9_owed_17 : decode cX9_owed 17 = .ok (.iload_n 1, 1) := by decide +kernel
theorem dX9_owed_18 : decode cX9_owed 18 = .ok (.iload_n 2, 1) := by decide +kernel
theorem dX9_owed_19 : decode cX9_owed 19 = .ok (.invokevirtual 305, 3) := by decide +kernel
theorem dX9_owed_22 : decode cX9_owed 22 = .ok (.goto 6, 3) := by decide +kernel
theorem dX9_owed_25 : decode cX9_owed 25 = .ok (.ldc_w 320, 3) := by decide +kernel
theorem dX9_owed_28 : decode cX9_owed 28 = .ok (.ireturn, 1) := by decide +kernel
theorem dX9_go_0 : decode cX9_go 0 = .ok (.aload_n 0, 1) := by decide +kernel
theorem dX9_go_1 : decode cX9_go 1 = .ok (.iload_n 1, 1) := by decide +kernel
theorem dX9_go_2 : decode cX9_go 2 = .ok (.invokevirtual 324, 3) := by decide +kernel
theorem dX9_go_5 : decode cX9_go 5 = .ok (.ifCond .eq 12, 3) := by decide +kernel
theorem dX9_go_8 : decode cX9_go 8 = .ok (.aload_n 0, 1) := by decide +kernel
theorem dX9_go_9 : decode cX9_go 9 = .ok (.iload_n 2, 1) := by decide +kernel
theorem dX9_go_10 : decode cX9_go 10 = .ok (.iload_n 3, 1) := by decide +kernel
theorem dX9_go_11 : decode cX9_go 11 = .ok (.invokevirtual 267, 3) := by decide +kernel
theorem dX9_go_14 : decode cX9_go 14 = .ok (.ifCond .ne 7, 3) := by decide +kernel
theorem dX9_go_17 : decode cX9_go 17 = .ok (.ldc_w 320, 3) := by decide +kernel
theorem dX9_go_20 : decode cX9_go 20 = .ok (.ireturn, 1) := by decide +kernel
theorem dX9_go_21 : decode cX9_go 21 = .ok (.aload_n 0, 1) := by decide +kernel
theorem dX9_go_22 : decode cX9_go 22 = .ok (.getfield 7, 3) := by decide +kernel
theorem dX9_go_25 : decode cX9_go 25 = .ok (.aload_n 0, 1) := by decide +kernel
theorem dX9_go_26 : decode cX9_go 26 = .ok (.getfield 120, 3) := by decide +kernel
theorem dX9_go_29 : decode cX9_go 29 = .ok (.iload_n 3, 1) := by decide +kernel
theorem dX9_go_30 : decode cX9_go 30 = .ok (.imul, 1) := by decide +kernel
theorem dX9_go_31 : decode cX9_go 31 = .ok (.iload_n 2, 1) := by decide +kernel
theorem dX9_go_32 : decode cX9_go 32 = .ok (.iadd, 1) := by decide +kernel
theorem dX9_go_33 : decode cX9_go 33 = .ok (.iaload, 1) := by decide +kernel
theorem dX9_go_34 : decode cX9_go 34 = .ok (.ifCond .le 7, 3) := by decide +kernel
theorem dX9_go_37 : decode cX9_go 37 = .ok (.ldc_w 330, 3) := by decide +kernel
theorem dX9_go_40 : decode cX9_go 40 = .ok (.ireturn, 1) := by decide +kernel
theorem dX9_go_41 : decode cX9_go 41 = .ok (.aload_n 0, 1) := by decide +kernel
theorem dX9_go_42 : decode cX9_go 42 = .ok (.aload_n 0, 1) := by decide +kernel
theorem dX9_go_43 : decode cX9_go 43 = .ok (.getfield 25, 3) := by decide +kernel
theorem dX9_go_46 : decode cX9_go 46 = .ok (.iload_n 1, 1) := by decide +kernel
theorem dX9_go_47 : decode cX9_go 47 = .ok (.iaload, 1) := by decide +kernel
theorem dX9_go_48 : decode cX9_go 48 = .ok (.invokevirtual 331, 3) := by decide +kernel
theorem dX9_go_51 : decode cX9_go 51 = .ok (.istore 4, 2) := by decide +kernel
theorem dX9_go_53 : decode cX9_go 53 = .ok (.aload_n 0, 1) := by decide +kernel
theorem dX9_go_54 : decode cX9_go 54 = .ok (.getfield 25, 3) := by decide +kernel
theorem dX9_go_57 : decode cX9_go 57 = .ok (.iload_n 1, 1) := by decide +kernel
theorem dX9_go_58 : decode cX9_go 58 = .ok (.aload_n 0, 1) := by decide +kernel
theorem dX9_go_59 : decode cX9_go 59 = .ok (.getfield 120, 3) := by decide +kernel
theorem dX9_go_62 : decode cX9_go 62 = .ok (.iload_n 3, 1) := by decide +kernel
theorem dX9_go_63 : decode cX9_go 63 = .ok (.imul, 1) := by decide +kernel
theorem dX9_go_64 : decode cX9_go 64 = .ok (.iload_n 2, 1) := by decide +kernel
theorem dX9_go_65 : decode cX9_go 65 = .ok (.iadd, 1) := by decide +kernel
theorem dX9_go_66 : decode cX9_go 66 = .ok (.iastore, 1) := by decide +kernel
theorem dX9_go_67 : decode cX9_go 67 = .ok (.iload 4, 2) := by decide +kernel
theorem dX9_go_69 : decode cX9_go 69 = .ok (.ireturn, 1) := by decide +kernel
theorem dX9_fold_0 : decode cX9_fold 0 = .ok (.aload_n 0, 1) := by decide +kernel
theorem dX9_fold_1 : decode cX9_fold 1 = .ok (.iload_n 1, 1) := by decide +kernel
theorem dX9_fold_2 : decode cX9_fold 2 = .ok (.invokevirtual 324, 3) := by decide +kernel
theorem dX9_fold_5 : decode cX9_fold 5 = .ok (.ifCond .ne 7, 3) := by decide +kernel
theorem dX9_fold_8 : decode cX9_fold 8 = .ok (.ldc_w 320, 3) := by decide +kernel
theorem dX9_fold_11 : decode cX9_fold 11 = .ok (.ireturn, 1) := by decide +kernel
theorem dX9_fold_12 : decode cX9_fold 12 = .ok (.aload_n 0, 1) := by decide +kernel
theorem dX9_fold_13 : decode cX9_fold 13 = .ok (.getfield 31, 3) := by decide +kernel
theorem dX9_fold_16 : decode cX9_fold 16 = .ok (.iload_n 1, 1) := by decide +kernel
theorem dX9_fold_17 : decode cX9_fold 17 = .ok (.baload, 1) := by decide +kernel
theorem dX9_fold_18 : decode cX9_fold 18 = .ok (.ifCond .eq 7, 3) := by decide +kernel
theorem dX9_fold_21 : decode cX9_fold 21 = .ok (.iconst 1, 1) := by decide +kernel
theorem dX9_fold_22 : decode cX9_fold 22 = .ok (.goto 4, 3) := by decide +kernel
theorem dX9_fold_25 : decode cX9_fold 25 = .ok (.iconst 0, 1) := by decide +kernel
theorem dX9_fold_26 : decode cX9_fold 26 = .ok (.istore_n 3, 1) := by decide +kernel
theorem dX9_fold_27 : decode cX9_fold 27 = .ok (.aload_n 0, 1) := by decide +kernel
theorem dX9_fold_28 : decode cX9_fold 28 = .ok (.getfield 31, 3) := by decide +kernel
theorem dX9_fold_31 : decode cX9_fold 31 = .ok (.iload_n 1, 1) := by decide +kernel
theorem dX9_fold_32 : decode cX9_fold 32 = .ok (.iload_n 2, 1) := by decide +kernel
theorem dX9_fold_33 : decode cX9_fold 33 = .ok (.bastore, 1) := by decide +kernel
theorem dX9_fold_34 : decode cX9_fold 34 = .ok (.iload_n 3, 1) := by decide +kernel
theorem dX9_fold_35 : decode cX9_fold 35 = .ok (.ireturn, 1) := by decide +kernel
theorem dX9_law_0 : decode cX9_law 0 = .ok (.iload_n 1, 1) := by decide +kernel
theorem dX9_law_1 : decode cX9_law 1 = .ok (.i2l, 1) := by decide +kernel
theorem dX9_law_2 : decode cX9_law 2 = .ok (.lconst 0, 1) := by decide +kernel
theorem dX9_law_3 : decode cX9_law 3 = .ok (.lconst 1, 1) := by decide +kernel
theorem dX9_law_4 : decode cX9_law 4 = .ok (.invokestatic 123, 3) := by decide +kernel
theorem dX9_law_7 : decode cX9_law 7 = .ok (.ifCond .ne 6, 3) := by decide +kernel
theorem dX9_law_10 : decode cX9_law 10 = .ok (.ldc 138, 2) := by decide +kernel
theorem dX9_law_12 : decode cX9_law 12 = .ok (.ireturn, 1) := by decide +kernel
theorem dX9_law_13 : decode cX9_law 13 = .ok (.aload_n 0, 1) := by decide +kernel
theorem dX9_law_14 : decode cX9_law 14 = .ok (.getfield 285, 3) := by decide +kernel
theorem dX9_law_17 : decode cX9_law 17 = .ok (.istore_n 2, 1) := by decide +kernel
theorem dX9_law_18 : decode cX9_law 18 = .ok (.aload_n 0, 1) := by decide +kernel
theorem dX9_law_19 : decode cX9_law 19 = .ok (.iload_n 1, 1) := by decide +kernel
theorem dX9_law_20 : decode cX9_law 20 = .ok (.putfield 285, 3) := by decide +kernel
theorem dX9_law_23 : decode cX9_law 23 = .ok (.iload_n 2, 1) := by decide +kernel
theorem dX9_law_24 : decode cX9_law 24 = .ok (.ireturn, 1) := by decide +kernel
theorem dX9_isSomebody_0 : decode cX9_isSomebody 0 = .ok (.iconst 0, 1) := by decide +kernel
theorem dX9_isSomebody_1 : decode cX9_isSomebody 1 = .ok (.istore_n 2, 1) := by decide +kernel
theorem dX9_isSomebody_2 : decode cX9_isSomebody 2 = .ok (.iconst 0, 1) := by decide +kernel
theorem dX9_isSomebody_3 : decode cX9_isSomebody 3 = .ok (.istore_n 3, 1) := by decide +kernel
theorem dX9_isSomebody_4 : decode cX9_isSomebody 4 = .ok (.iload_n 3, 1) := by decide +kernel
theorem dX9_isSomebody_5 : decode cX9_isSomebody 5 = .ok (.aload_n 0, 1) := by decide +kernel
theorem dX9_isSomebody_6 : decode cX9_isSomebody 6 = .ok (.getfield 130, 3) := by decide +kernel
theorem dX9_isSomebody_9 : decode cX9_isSomebody 9 = .ok (.if_icmp .ge 29, 3) := by decide +kernel
theorem dX9_isSomebody_12 : decode cX9_isSomebody 12 = .ok (.iload_n 2, 1) := by decide +kernel
theorem dX9_isSomebody_13 : decode cX9_isSomebody 13 = .ok (.ifCond .ne 13, 3) := by decide +kernel
theorem dX9_isSomebody_16 : decode cX9_isSomebody 16 = .ok (.aload_n 0, 1) := by decide +kernel
theorem dX9_isSomebody_17 : decode cX9_isSomebody 17 = .ok (.getfield 25, 3) := by decide +kernel
theorem dX9_isSomebody_20 : decode cX9_isSomebody 20 = .ok (.iload_n 3, 1) := by decide +kernel
theorem dX9_isSomebody_21 : decode cX9_isSomebody 21 = .ok (.iaload, 1) := by decide +kernel
theorem dX9_isSomebody_22 : decode cX9_isSomebody 22 = .ok (.iload_n 1, 1) := by decide +kernel
theorem dX9_isSomebody_23 : decode cX9_isSomebody 23 = .ok (.if_icmp .ne 7, 3) := by decide +kernel
theorem dX9_isSomebody_26 : decode cX9_isSomebody 26 = .ok (.iconst 1, 1) := by decide +kernel
theorem dX9_isSomebody_27 : decode cX9_isSomebody 27 = .ok (.goto 4, 3) := by decide +kernel
theorem dX9_isSomebody_30 : decode cX9_isSomebody 30 = .ok (.iconst 0, 1) := by decide +kernel
theorem dX9_isSomebody_31 : decode cX9_isSomebody 31 = .ok (.istore_n 2, 1) := by decide +kernel
theorem dX9_isSomebody_32 : decode cX9_isSomebody 32 = .ok (.iinc 3 1, 3) := by decide +kernel
theorem dX9_isSomebody_35 : decode cX9_isSomebody 35 = .ok (.goto (-31), 3) := by decide +kernel
theorem dX9_isSomebody_38 : decode cX9_isSomebody 38 = .ok (.iload_n 2, 1) := by decide +kernel
theorem dX9_isSomebody_39 : decode cX9_isSomebody 39 = .ok (.ireturn, 1) := by decide +kernel
theorem dX9_build_0 : decode cX9_build 0 = .ok (.aload_n 0, 1) := by decide +kernel
theorem dX9_build_1 : decode cX9_build 1 = .ok (.iload_n 1, 1) := by decide +kernel
theorem dX9_build_2 : decode cX9_build 2 = .ok (.iload_n 2, 1) := by decide +kernel
theorem dX9_build_3 : decode cX9_build 3 = .ok (.invokevirtual 267, 3) := by decide +kernel
theorem dX9_build_6 : decode cX9_build 6 = .ok (.ifCond .ne 7, 3) := by decide +kernel
theorem dX9_build_9 : decode cX9_build 9 = .ok (.ldc_w 320, 3) := by decide +kernel
theorem dX9_build_12 : decode cX9_build 12 = .ok (.ireturn, 1) := by decide +kernel
theorem dX9_build_13 : decode cX9_build 13 = .ok (.iload_n 3, 1) := by decide +kernel
theorem dX9_build_14 : decode cX9_build 14 = .ok (.i2l, 1) := by decide +kernel
theorem dX9_build_15 : decode cX9_build 15 = .ok (.lconst 0, 1) := by decide +kernel
theorem dX9_build_16 : decode cX9_build 16 = .ok (.ldc2_w 334, 3) := by decide +kernel
theorem dX9_build_19 : decode cX9_build 19 = .ok (.invokestatic 123, 3) := by decide +kernel
theorem dX9_build_22 : decode cX9_build 22 = .ok (.ifCond .ne 6, 3) := by decide +kernel
theorem dX9_build_25 : decode cX9_build 25 = .ok (.ldc 138, 2) := by decide +kernel
theorem dX9_build_27 : decode cX9_build 27 = .ok (.ireturn, 1) := by decide +kernel
theorem dX9_build_28 : decode cX9_build 28 = .ok (.aload_n 0, 1) := by decide +kernel
theorem dX9_build_29 : decode cX9_build 29 = .ok (.getfield 120, 3) := by decide +kernel
theorem dX9_build_32 : decode cX9_build 32 = .ok (.iload_n 2, 1) := by decide +kernel
theorem dX9_build_33 : decode cX9_build 33 = .ok (.imul, 1) := by decide +kernel
theorem dX9_build_34 : decode cX9_build 34 = .ok (.iload_n 1, 1) := by decide +kernel
theorem dX9_build_35 : decode cX9_build 35 = .ok (.iadd, 1) := by decide +kernel
theorem dX9_build_36 : decode cX9_build 36 = .ok (.istore 4, 2) := by decide +kernel
theorem dX9_build_38 : decode cX9_build 38 = .ok (.iload_n 3, 1) := by decide +kernel
theorem dX9_build_39 : decode cX9_build 39 = .ok (.ifCond .le 16, 3) := by decide +kernel
theorem dX9_build_42 : decode cX9_build 42 = .ok (.aload_n 0, 1) := by decide +kernel
theorem dX9_build_43 : decode cX9_build 43 = .ok (.iload 4, 2) := by decide +kernel
theorem dX9_build_45 : decode cX9_build 45 = .ok (.invokevirtual 336, 3) := by decide +kernel
theorem dX9_build_48 : decode cX9_build 48 = .ok (.ifCond .eq 7, 3) := by decide +kernel
theorem dX9_build_51 : decode cX9_build 51 = .ok (.ldc_w 330, 3) := by decide +kernel
theorem dX9_build_54 : decode cX9_build 54 = .ok (.ireturn, 1) := by decide +kernel
theorem dX9_build_55 : decode cX9_build 55 = .ok (.aload_n 0, 1) := by decide +kernel
theorem dX9_build_56 : decode cX9_build 56 = .ok (.getfield 7, 3) := by decide +kernel
theorem dX9_build_59 : decode cX9_build 59 = .ok (.iload 4, 2) := by decide +kernel
theorem dX9_build_61 : decode cX9_build 61 = .ok (.iaload, 1) := by decide +kernel
theorem dX9_build_62 : decode cX9_build 62 = .ok (.istore 5, 2) := by decide +kernel
theorem dX9_build_64 : decode cX9_build 64 = .ok (.aload_n 0, 1) := by decide +kernel
theorem dX9_build_65 : decode cX9_build 65 = .ok (.getfield 7, 3) := by decide +kernel
theorem dX9_build_68 : decode cX9_build 68 = .ok (.iload 4, 2) := by decide +kernel
theorem dX9_build_70 : decode cX9_build 70 = .ok (.iload_n 3, 1) := by decide +kernel
theorem dX9_build_71 : decode cX9_build 71 = .ok (.iastore, 1) := by decide +kernel
theorem dX9_build_72 : decode cX9_build 72 = .ok (.iload 5, 2) := by decide +kernel
theorem dX9_build_74 : decode cX9_build 74 = .ok (.ireturn, 1) := by decide +kernel
theorem dX9_draw_0 : decode cX9_draw 0 = .ok (.aload_n 0, 1) := by decide +kernel
theorem dX9_draw_1 : decode cX9_draw 1 = .ok (.aload_n 0, 1) := by decide +kernel
theorem dX9_draw_2 : decode cX9_draw 2 = .ok (.getfield 339, 3) := by decide +kernel
theorem dX9_draw_5 : decode cX9_draw 5 = .ok (.i2l, 1) := by decide +kernel
theorem dX9_draw_6 : decode cX9_draw 6 = .ok (.ldc2_w 342, 3) := by decide +kernel
theorem dX9_draw_9 : decode cX9_draw 9 = .ok (.lmul, 1) := by decide +kernel
theorem dX9_draw_10 : decode cX9_draw 10 = .ok (.ldc2_w 344, 3) := by decide +kernel
theorem dX9_draw_13 : decode cX9_draw 13 = .ok (.ladd, 1) := by decide +kernel
theorem dX9_draw_14 : decode cX9_draw 14 = .ok (.ldc2_w 346, 3) := by decide +kernel
theorem dX9_draw_17 : decode cX9_draw 17 = .ok (.lrem, 1) := by decide +kernel
theorem dX9_draw_18 : decode cX9_draw 18 = .ok (.l2i, 1) := by decide +kernel
theorem dX9_draw_19 : decode cX9_draw 19 = .ok (.putfield 339, 3) := by decide +kernel
theorem dX9_draw_22 : decode cX9_draw 22 = .ok (.aload_n 0, 1) := by decide +kernel
theorem dX9_draw_23 : decode cX9_draw 23 = .ok (.getfield 339, 3) := by decide +kernel
theorem dX9_draw_26 : decode cX9_draw 26 = .ok (.ldc_w 348, 3) := by decide +kernel
theorem dX9_draw_29 : decode cX9_draw 29 = .ok (.idiv, 1) := by decide +kernel
theorem dX9_draw_30 : decode cX9_draw 30 = .ok (.iload_n 1, 1) := by decide +kernel
theorem dX9_draw_31 : decode cX9_draw 31 = .ok (.irem, 1) := by decide +kernel
theorem dX9_draw_32 : decode cX9_draw 32 = .ok (.ireturn, 1) := by decide +kernel
theorem dX9_sharesTill_0 : decode cX9_sharesTill 0 = .ok (.iconst 0, 1) := by decide +kernel
theorem dX9_sharesTill_1 : decode cX9_sharesTill 1 = .ok (.istore_n 2, 1) := by decide +kernel
theorem dX9_sharesTill_2 : decode cX9_sharesTill 2 = .ok (.iconst 0, 1) := by decide +kernel
theorem dX9_sharesTill_3 : decode cX9_sharesTill 3 = .ok (.istore_n 3, 1) := by decide +kernel
theorem dX9_sharesTill_4 : decode cX9_sharesTill 4 = .ok (.iload_n 3, 1) := by decide +kernel
theorem dX9_sharesTill_5 : decode cX9_sharesTill 5 = .ok (.iload_n 1, 1) := by decide +kernel
theorem dX9_sharesTill_6 : decode cX9_sharesTill 6 = .ok (.if_icmp .ge 18, 3) := by decide +kernel
theorem dX9_sharesTill_9 : decode cX9_sharesTill 9 = .ok (.iload_n 2, 1) := by decide +kernel
theorem dX9_sharesTill_10 : decode cX9_sharesTill 10 = .ok (.aload_n 0, 1) := by decide +kernel
theorem dX9_sharesTill_11 : decode cX9_sharesTill 11 = .ok (.getfield 22, 3) := by decide +kernel
theorem dX9_sharesTill_14 : decode cX9_sharesTill 14 = .ok (.iload_n 3, 1) := by decide +kernel
theorem dX9_sharesTill_15 : decode cX9_sharesTill 15 = .ok (.iaload, 1) := by decide +kernel
theorem dX9_sharesTill_16 : decode cX9_sharesTill 16 = .ok (.iadd, 1) := by decide +kernel
theorem dX9_sharesTill_17 : decode cX9_sharesTill 17 = .ok (.istore_n 2, 1) := by decide +kernel
theorem dX9_sharesTill_18 : decode cX9_sharesTill 18 = .ok (.iinc 3 1, 3) := by decide +kernel
theorem dX9_sharesTill_21 : decode cX9_sharesTill 21 = .ok (.goto (-17), 3) := by decide +kernel
theorem dX9_sharesTill_24 : decode cX9_sharesTill 24 = .ok (.iload_n 2, 1) := by decide +kernel
theorem dX9_sharesTill_25 : decode cX9_sharesTill 25 = .ok (.ireturn, 1) := by decide +kernel
theorem dX9_payAt_0 : decode cX9_payAt 0 = .ok (.iconst 0, 1) := by decide +kernel
theorem dX9_payAt_1 : decode cX9_payAt 1 = .ok (.istore_n 2, 1) := by decide +kernel
theorem dX9_payAt_2 : decode cX9_payAt 2 = .ok (.iload_n 2, 1) := by decide +kernel
theorem dX9_payAt_3 : decode cX9_payAt 3 = .ok (.aload_n 0, 1) := by decide +kernel
theorem dX9_payAt_4 : decode cX9_payAt 4 = .ok (.getfield 130, 3) := by decide +kernel
theorem dX9_payAt_7 : decode cX9_payAt 7 = .ok (.if_icmp .ge 21, 3) := by decide +kernel
theorem dX9_payAt_10 : decode cX9_payAt 10 = .ok (.aload_n 0, 1) := by decide +kernel
theorem dX9_payAt_11 : decode cX9_payAt 11 = .ok (.getfield 72, 3) := by decide +kernel
theorem dX9_payAt_14 : decode cX9_payAt 14 = .ok (.iload_n 2, 1) := by decide +kernel
theorem dX9_payAt_15 : decode cX9_payAt 15 = .ok (.aload_n 0, 1) := by decide +kernel
theorem dX9_payAt_16 : decode cX9_payAt 16 = .ok (.iload_n 2, 1) := by decide +kernel
theorem dX9_payAt_17 : decode cX9_payAt 17 = .ok (.iload_n 1, 1) := by decide +kernel
theorem dX9_payAt_18 : decode cX9_payAt 18 = .ok (.invokevirtual 305, 3) := by decide +kernel
theorem dX9_payAt_21 : decode cX9_payAt 21 = .ok (.iastore, 1) := by decide +kernel
theorem dX9_payAt_22 : decode cX9_payAt 22 = .ok (.iinc 2 1, 3) := by decide +kernel
theorem dX9_payAt_25 : decode cX9_payAt 25 = .ok (.goto (-23), 3) := by decide +kernel
theorem dX9_payAt_28 : decode cX9_payAt 28 = .ok (.iconst 0, 1) := by decide +kernel
theorem dX9_payAt_29 : decode cX9_payAt 29 = .ok (.istore_n 2, 1) := by decide +kernel
theorem dX9_payAt_30 : decode cX9_payAt 30 = .ok (.iload_n 2, 1) := by decide +kernel
theorem dX9_payAt_31 : decode cX9_payAt 31 = .ok (.aload_n 0, 1) := by decide +kernel
theorem dX9_payAt_32 : decode cX9_payAt 32 = .ok (.getfield 130, 3) := by decide +kernel
theorem dX9_payAt_35 : decode cX9_payAt 35 = .ok (.if_icmp .ge 39, 3) := by decide +kernel
theorem dX9_payAt_38 : decode cX9_payAt 38 = .ok (.aload_n 0, 1) := by decide +kernel
theorem dX9_payAt_39 : decode cX9_payAt 39 = .ok (.getfield 35, 3) := by decide +kernel
theorem dX9_payAt_42 : decode cX9_payAt 42 = .ok (.iload_n 2, 1) := by decide +kernel
theorem dX9_payAt_43 : decode cX9_payAt 43 = .ok (.dup2, 1) := by decide +kernel
theorem dX9_payAt_44 : decode cX9_payAt 44 = .ok (.iaload, 1) := by decide +kernel
theorem dX9_payAt_45 : decode cX9_payAt 45 = .ok (.aload_n 0, 1) := by decide +kernel
theorem dX9_payAt_46 : decode cX9_payAt 46 = .ok (.getfield 72, 3) := by decide +kernel
theorem dX9_payAt_49 : decode cX9_payAt 49 = .ok (.iload_n 2, 1) := by decide +kernel
theorem dX9_payAt_50 : decode cX9_payAt 50 = .ok (.iaload, 1) := by decide +kernel
theorem dX9_payAt_51 : decode cX9_payAt 51 = .ok (.isub, 1) := by decide +kernel
theorem dX9_payAt_52 : decode cX9_payAt 52 = .ok (.iastore, 1) := by decide +kernel
theorem dX9_payAt_53 : decode cX9_payAt 53 = .ok (.aload_n 0, 1) := by decide +kernel
theorem dX9_payAt_54 : decode cX9_payAt 54 = .ok (.dup, 1) := by decide +kernel
theorem dX9_payAt_55 : decode cX9_payAt 55 = .ok (.getfield 252, 3) := by decide +kernel
theorem dX9_payAt_58 : decode cX9_payAt 58 = .ok (.aload_n 0, 1) := by decide +kernel
theorem dX9_payAt_59 : decode cX9_payAt 59 = .ok (.getfield 72, 3) := by decide +kernel
theorem dX9_payAt_62 : decode cX9_payAt 62 = .ok (.iload_n 2, 1) := by decide +kernel
theorem dX9_payAt_63 : decode cX9_payAt 63 = .ok (.iaload, 1) := by decide +kernel
theorem dX9_payAt_64 : decode cX9_payAt 64 = .ok (.iadd, 1) := by decide +kernel
theorem dX9_payAt_65 : decode cX9_payAt 65 = .ok (.putfield 252, 3) := by decide +kernel
theorem dX9_payAt_68 : decode cX9_payAt 68 = .ok (.iinc 2 1, 3) := by decide +kernel
theorem dX9_payAt_71 : decode cX9_payAt 71 = .ok (.goto (-41), 3) := by decide +kernel
theorem dX9_payAt_74 : decode cX9_payAt 74 = .ok (.return_, 1) := by decide +kernel
theorem dX9_dayNow_0 : decode cX9_dayNow 0 = .ok (.aload_n 0, 1) := by decide +kernel
theorem dX9_dayNow_1 : decode cX9_dayNow 1 = .ok (.bipush 100, 2) := by decide +kernel
theorem dX9_dayNow_3 : decode cX9_dayNow 3 = .ok (.invokevirtual 349, 3) := by decide +kernel
theorem dX9_dayNow_6 : decode cX9_dayNow 6 = .ok (.aload_n 0, 1) := by decide +kernel
theorem dX9_dayNow_7 : decode cX9_dayNow 7 = .ok (.getfield 249, 3) := by decide +kernel
theorem dX9_dayNow_10 : decode cX9_dayNow 10 = .ok (.if_icmp .lt 51, 3) := by decide +kernel
theorem dX9_dayNow_13 : decode cX9_dayNow 13 = .ok (.aload_n 0, 1) := by decide +kernel
theorem dX9_dayNow_14 : decode cX9_dayNow 14 = .ok (.aload_n 0, 1) := by decide +kernel
theorem dX9_dayNow_15 : decode cX9_dayNow 15 = .ok (.getfield 133, 3) := by decide +kernel
theorem dX9_dayNow_18 : decode cX9_dayNow 18 = .ok (.invokevirtual 352, 3) := by decide +kernel
theorem dX9_dayNow_21 : decode cX9_dayNow 21 = .ok (.ifCond .le 40, 3) := by decide +kernel
theorem dX9_dayNow_24 : decode cX9_dayNow 24 = .ok (.aload_n 0, 1) := by decide +kernel
theorem dX9_dayNow_25 : decode cX9_dayNow 25 = .ok (.aload_n 0, 1) := by decide +kernel
theorem dX9_dayNow_26 : decode cX9_dayNow 26 = .ok (.aload_n 0, 1) := by decide +kernel
theorem dX9_dayNow_27 : decode cX9_dayNow 27 = .ok (.getfield 133, 3) := by decide +kernel
theorem dX9_dayNow_30 : decode cX9_dayNow 30 = .ok (.invokevirtual 352, 3) := by decide +kernel
theorem dX9_dayNow_33 : decode cX9_dayNow 33 = .ok (.invokevirtual 349, 3) := by decide +kernel
theorem dX9_dayNow_36 : decode cX9_dayNow 36 = .ok (.istore_n 1, 1) := by decide +kernel
theorem dX9_dayNow_37 : decode cX9_dayNow 37 = .ok (.iconst 0, 1) := by decide +kernel
theorem dX9_dayNow_38 : decode cX9_dayNow 38 = .ok (.istore_n 2, 1) := by decide +kernel
theorem dX9_dayNow_39 : decode cX9_dayNow 39 = .ok (.aload_n 0, 1) := by decide +kernel
theorem dX9_dayNow_40 : decode cX9_dayNow 40 = .ok (.iload_n 2, 1) := by decide +kernel
theorem dX9_dayNow_41 : decode cX9_dayNow 41 = .ok (.iconst 1, 1) := by decide +kernel
theorem dX9_dayNow_42 : decode cX9_dayNow 42 = .ok (.iadd, 1) := by decide +kernel
theorem dX9_dayNow_43 : decode cX9_dayNow 43 = .ok (.invokevirtual 352, 3) := by decide +kernel
theorem dX9_dayNow_46 : decode cX9_dayNow 46 = .ok (.iload_n 1, 1) := by decide +kernel
theorem dX9_dayNow_47 : decode cX9_dayNow 47 = .ok (.if_icmp .gt 9, 3) := by decide +kernel
theorem dX9_dayNow_50 : decode cX9_dayNow 50 = .ok (.iinc 2 1, 3) := by decide +kernel
theorem dX9_dayNow_53 : decode cX9_dayNow 53 = .ok (.goto (-14), 3) := by decide +kernel
theorem dX9_dayNow_56 : decode cX9_dayNow 56 = .ok (.aload_n 0, 1) := by decide +kernel
theorem dX9_dayNow_57 : decode cX9_dayNow 57 = .ok (.iload_n 2, 1) := by decide +kernel
theorem dX9_dayNow_58 : decode cX9_dayNow 58 = .ok (.invokevirtual 355, 3) := by decide +kernel
theorem dX9_dayNow_61 : decode cX9_dayNow 61 = .ok (.iconst 0, 1) := by decide +kernel
theorem dX9_dayNow_62 : decode cX9_dayNow 62 = .ok (.istore_n 1, 1) := by decide +kernel
theorem dX9_dayNow_63 : decode cX9_dayNow 63 = .ok (.iload_n 1, 1) := by decide +kernel
theorem dX9_dayNow_64 : decode cX9_dayNow 64 = .ok (.aload_n 0, 1) := by decide +kernel
theorem dX9_dayNow_65 : decode cX9_dayNow 65 = .ok (.getfield 130, 3) := by decide +kernel
theorem dX9_dayNow_68 : decode cX9_dayNow 68 = .ok (.if_icmp .ge 104, 3) := by decide +kernel
theorem dX9_dayNow_71 : decode cX9_dayNow 71 = .ok (.aload_n 0, 1) := by decide +kernel
theorem dX9_dayNow_72 : decode cX9_dayNow 72 = .ok (.bipush 9, 2) := by decide +kernel
theorem dX9_dayNow_74 : decode cX9_dayNow 74 = .ok (.invokevirtual 349, 3) := by decide +kernel
theorem dX9_dayNow_77 : decode cX9_dayNow 77 = .ok (.istore_n 2, 1) := by decide +kernel
theorem dX9_dayNow_78 : decode cX9_dayNow 78 = .ok (.aload_n 0, 1) := by decide +kernel
theorem dX9_dayNow_79 : decode cX9_dayNow 79 = .ok (.getfield 25, 3) := by decide +kernel
theorem dX9_dayNow_82 : decode cX9_dayNow 82 = .ok (.iload_n 1, 1) := by decide +kernel
theorem dX9_dayNow_83 : decode cX9_dayNow 83 = .ok (.iaload, 1) := by decide +kernel
theorem dX9_dayNow_84 : decode cX9_dayNow 84 = .ok (.aload_n 0, 1) := by decide +kernel
theorem dX9_dayNow_85 : decode cX9_dayNow 85 = .ok (.getfield 120, 3) := by decide +kernel
theorem dX9_dayNow_88 : decode cX9_dayNow 88 = .ok (.irem, 1) := by decide +kernel
theorem dX9_dayNow_89 : decode cX9_dayNow 89 = .ok (.iload_n 2, 1) := by decide +kernel
theorem dX9_dayNow_90 : decode cX9_dayNow 90 = .ok (.iconst 3, 1) := by decide +kernel
theorem dX9_dayNow_91 : decode cX9_dayNow 91 = .ok (.irem, 1) := by decide +kernel
theorem dX9_dayNow_92 : decode cX9_dayNow 92 = .ok (.iadd, 1) := by decide +kernel
theorem dX9_dayNow_93 : decode cX9_dayNow 93 = .ok (.iconst 1, 1) := by decide +kernel
theorem dX9_dayNow_94 : decode cX9_dayNow 94 = .ok (.isub, 1) := by decide +kernel
theorem dX9_dayNow_95 : decode cX9_dayNow 95 = .ok (.istore_n 3, 1) := by decide +kernel
theorem dX9_dayNow_96 : decode cX9_dayNow 96 = .ok (.aload_n 0, 1) := by decide +kernel
theorem dX9_dayNow_97 : decode cX9_dayNow 97 = .ok (.getfield 25, 3) := by decide +kernel
theorem dX9_dayNow_100 : decode cX9_dayNow 100 = .ok (.iload_n 1, 1) := by decide +kernel
theorem dX9_dayNow_101 : decode cX9_dayNow 101 = .ok (.iaload, 1) := by decide +kernel
theorem dX9_dayNow_102 : decode cX9_dayNow 102 = .ok (.aload_n 0, 1) := by decide +kernel
theorem dX9_dayNow_103 : decode cX9_dayNow 103 = .ok (.getfield 120, 3) := by decide +kernel
theorem dX9_dayNow_106 : decode cX9_dayNow 106 = .ok (.idiv, 1) := by decide +kernel
theorem dX9_dayNow_107 : decode cX9_dayNow 107 = .ok (.iload_n 2, 1) := by decide +kernel
theorem dX9_dayNow_108 : decode cX9_dayNow 108 = .ok (.iconst 3, 1) := by decide +kernel
theorem dX9_dayNow_109 : decode cX9_dayNow 109 = .ok (.idiv, 1) := by decide +kernel
theorem dX9_dayNow_110 : decode cX9_dayNow 110 = .ok (.iadd, 1) := by decide +kernel
theorem dX9_dayNow_111 : decode cX9_dayNow 111 = .ok (.iconst 1, 1) := by decide +kernel
theorem dX9_dayNow_112 : decode cX9_dayNow 112 = .ok (.isub, 1) := by decide +kernel
theorem dX9_dayNow_113 : decode cX9_dayNow 113 = .ok (.istore 4, 2) := by decide +kernel
theorem dX9_dayNow_115 : decode cX9_dayNow 115 = .ok (.aload_n 0, 1) := by decide +kernel
theorem dX9_dayNow_116 : decode cX9_dayNow 116 = .ok (.getfield 25, 3) := by decide +kernel
theorem dX9_dayNow_119 : decode cX9_dayNow 119 = .ok (.iload_n 1, 1) := by decide +kernel
theorem dX9_dayNow_120 : decode cX9_dayNow 120 = .ok (.aload_n 0, 1) := by decide +kernel
theorem dX9_dayNow_121 : decode cX9_dayNow 121 = .ok (.iload_n 3, 1) := by decide +kernel
theorem dX9_dayNow_122 : decode cX9_dayNow 122 = .ok (.iload 4, 2) := by decide +kernel
theorem dX9_dayNow_124 : decode cX9_dayNow 124 = .ok (.invokevirtual 267, 3) := by decide +kernel
theorem dX9_dayNow_127 : decode cX9_dayNow 127 = .ok (.ifCond .eq 32, 3) := by decide +kernel
theorem dX9_dayNow_130 : decode cX9_dayNow 130 = .ok (.aload_n 0, 1) := by decide +kernel
theorem dX9_dayNow_131 : decode cX9_dayNow 131 = .ok (.getfield 7, 3) := by decide +kernel
theorem dX9_dayNow_134 : decode cX9_dayNow 134 = .ok (.aload_n 0, 1) := by decide +kernel
theorem dX9_dayNow_135 : decode cX9_dayNow 135 = .ok (.getfield 120, 3) := by decide +kernel
theorem dX9_dayNow_138 : decode cX9_dayNow 138 = .ok (.iload 4, 2) := by decide +kernel
theorem dX9_dayNow_140 : decode cX9_dayNow 140 = .ok (.imul, 1) := by decide +kernel
theorem dX9_dayNow_141 : decode cX9_dayNow 141 = .ok (.iload_n 3, 1) := by decide +kernel
theorem dX9_dayNow_142 : decode cX9_dayNow 142 = .ok (.iadd, 1) := by decide +kernel
theorem dX9_dayNow_143 : decode cX9_dayNow 143 = .ok (.iaload, 1) := by decide +kernel
theorem dX9_dayNow_144 : decode cX9_dayNow 144 = .ok (.ifCond .ne 15, 3) := by decide +kernel
theorem dX9_dayNow_147 : decode cX9_dayNow 147 = .ok (.aload_n 0, 1) := by decide +kernel
theorem dX9_dayNow_148 : decode cX9_dayNow 148 = .ok (.getfield 120, 3) := by decide +kernel
theorem dX9_dayNow_151 : decode cX9_dayNow 151 = .ok (.iload 4, 2) := by decide +kernel
theorem dX9_dayNow_153 : decode cX9_dayNow 153 = .ok (.imul, 1) := by decide +kernel
theorem dX9_dayNow_154 : decode cX9_dayNow 154 = .ok (.iload_n 3, 1) := by decide +kernel
theorem dX9_dayNow_155 : decode cX9_dayNow 155 = .ok (.iadd, 1) := by decide +kernel
theorem dX9_dayNow_156 : decode cX9_dayNow 156 = .ok (.goto 9, 3) := by decide +kernel
theorem dX9_dayNow_159 : decode cX9_dayNow 159 = .ok (.aload_n 0, 1) := by decide +kernel
theorem dX9_dayNow_160 : decode cX9_dayNow 160 = .ok (.getfield 25, 3) := by decide +kernel
theorem dX9_dayNow_163 : decode cX9_dayNow 163 = .ok (.iload_n 1, 1) := by decide +kernel
theorem dX9_dayNow_164 : decode cX9_dayNow 164 = .ok (.iaload, 1) := by decide +kernel
theorem dX9_dayNow_165 : decode cX9_dayNow 165 = .ok (.iastore, 1) := by decide +kernel
theorem dX9_dayNow_166 : decode cX9_dayNow 166 = .ok (.iinc 1 1, 3) := by decide +kernel
theorem dX9_dayNow_169 : decode cX9_dayNow 169 = .ok (.goto (-106), 3) := by decide +kernel
theorem dX9_dayNow_172 : decode cX9_dayNow 172 = .ok (.return_, 1) := by decide +kernel
theorem dX9_day_0 : decode cX9_day 0 = .ok (.iload_n 1, 1) := by decide +kernel
theorem dX9_day_1 : decode cX9_day 1 = .ok (.i2l, 1) := by decide +kernel
theorem dX9_day_2 : decode cX9_day 2 = .ok (.lconst 1, 1) := by decide +kernel
theorem dX9_day_3 : decode cX9_day 3 = .ok (.ldc2_w 359, 3) := by decide +kernel
theorem dX9_day_6 : decode cX9_day 6 = .ok (.invokestatic 123, 3) := by decide +kernel
theorem dX9_day_9 : decode cX9_day 9 = .ok (.ifCond .ne 6, 3) := by decide +kernel
theorem dX9_day_12 : decode cX9_day 12 = .ok (.ldc 138, 2) := by decide +kernel
theorem dX9_day_14 : decode cX9_day 14 = .ok (.ireturn, 1) := by decide +kernel
theorem dX9_day_15 : decode cX9_day 15 = .ok (.aload_n 0, 1) := by decide +kernel
theorem dX9_day_16 : decode cX9_day 16 = .ok (.getfield 120, 3) := by decide +kernel
theorem dX9_day_19 : decode cX9_day 19 = .ok (.ifCond .ne 7, 3) := by decide +kernel
theorem dX9_day_22 : decode cX9_day 22 = .ok (.ldc_w 330, 3) := by decide +kernel
theorem dX9_day_25 : decode cX9_day 25 = .ok (.ireturn, 1) := by decide +kernel
theorem dX9_day_26 : decode cX9_day 26 = .ok (.iconst 0, 1) := by decide +kernel
theorem dX9_day_27 : decode cX9_day 27 = .ok (.istore_n 2, 1) := by decide +kernel
theorem dX9_day_28 : decode cX9_day 28 = .ok (.iload_n 2, 1) := by decide +kernel
theorem dX9_day_29 : decode cX9_day 29 = .ok (.iload_n 1, 1) := by decide +kernel
theorem dX9_day_30 : decode cX9_day 30 = .ok (.if_icmp .ge 13, 3) := by decide +kernel
theorem dX9_day_33 : decode cX9_day 33 = .ok (.aload_n 0, 1) := by decide +kernel
theorem dX9_day_34 : decode cX9_day 34 = .ok (.invokevirtual 361, 3) := by decide +kernel
theorem dX9_day_37 : decode cX9_day 37 = .ok (.iinc 2 1, 3) := by decide +kernel
theorem dX9_day_40 : decode cX9_day 40 = .ok (.goto (-12), 3) := by decide +kernel
theorem dX9_day_43 : decode cX9_day 43 = .ok (.aload_n 0, 1) := by decide +kernel
theorem dX9_day_44 : decode cX9_day 44 = .ok (.getfield 252, 3) := by decide +kernel
theorem dX9_day_47 : decode cX9_day 47 = .ok (.ireturn, 1) := by decide +kernel
theorem dX9_best_0 : decode cX9_best 0 = .ok (.aload_n 0, 1) := by decide +kernel
theorem dX9_best_1 : decode cX9_best 1 = .ok (.iload_n 1, 1) := by decide +kernel
theorem dX9_best_2 : decode cX9_best 2 = .ok (.invokevirtual 324, 3) := by decide +kernel
theorem dX9_best_5 : decode cX9_best 5 = .ok (.ifCond .ne 7, 3) := by decide +kernel
theorem dX9_best_8 : decode cX9_best 8 = .ok (.ldc_w 320, 3) := by decide +kernel
theorem dX9_best_11 : decode cX9_best 11 = .ok (.ireturn, 1) := by decide +kernel
theorem dX9_best_12 : decode cX9_best 12 = .ok (.iload_n 2, 1) := by decide +kernel
theorem dX9_best_13 : decode cX9_best 13 = .ok (.i2l, 1) := by decide +kernel
theorem dX9_best_14 : decode cX9_best 14 = .ok (.lconst 0, 1) := by decide +kernel
theorem dX9_best_15 : decode cX9_best 15 = .ok (.lconst 1, 1) := by decide +kernel
theorem dX9_best_16 : decode cX9_best 16 = .ok (.invokestatic 123, 3) := by decide +kernel
theorem dX9_best_19 : decode cX9_best 19 = .ok (.ifCond .ne 6, 3) := by decide +kernel
theorem dX9_best_22 : decode cX9_best 22 = .ok (.ldc 138, 2) := by decide +kernel
theorem dX9_best_24 : decode cX9_best 24 = .ok (.ireturn, 1) := by decide +kernel
theorem dX9_best_25 : decode cX9_best 25 = .ok (.aload_n 0, 1) := by decide +kernel
theorem dX9_best_26 : decode cX9_best 26 = .ok (.getfield 25, 3) := by decide +kernel
theorem dX9_best_29 : decode cX9_best 29 = .ok (.iload_n 1, 1) := by decide +kernel
theorem dX9_best_30 : decode cX9_best 30 = .ok (.iaload, 1) := by decide +kernel
theorem dX9_best_31 : decode cX9_best 31 = .ok (.istore_n 3, 1) := by decide +kernel
theorem dX9_best_32 : decode cX9_best 32 = .ok (.iconst (-1), 1) := by decide +kernel
theorem dX9_best_33 : decode cX9_best 33 = .ok (.istore 4, 2) := by decide +kernel
theorem dX9_best_35 : decode cX9_best 35 = .ok (.iconst 0, 1) := by decide +kernel
theorem dX9_best_36 : decode cX9_best 36 = .ok (.istore 5, 2) := by decide +kernel
theorem dX9_best_38 : decode cX9_best 38 = .ok (.iconst 0, 1) := by decide +kernel
theorem dX9_best_39 : decode cX9_best 39 = .ok (.istore 6, 2) := by decide +kernel
theorem dX9_best_41 : decode cX9_best 41 = .ok (.iload 6, 2) := by decide +kernel
theorem dX9_best_43 : decode cX9_best 43 = .ok (.aload_n 0, 1) := by decide +kernel
theorem dX9_best_44 : decode cX9_best 44 = .ok (.invokevirtual 264, 3) := by decide +kernel
theorem dX9_best_47 : decode cX9_best 47 = .ok (.if_icmp .ge 93, 3) := by decide +kernel
theorem dX9_best_50 : decode cX9_best 50 = .ok (.aload_n 0, 1) := by decide +kernel
theorem dX9_best_51 : decode cX9_best 51 = .ok (.getfield 7, 3) := by decide +kernel
theorem dX9_best_54 : decode cX9_best 54 = .ok (.iload 6, 2) := by decide +kernel
theorem dX9_best_56 : decode cX9_best 56 = .ok (.iaload, 1) := by decide +kernel
theorem dX9_best_57 : decode cX9_best 57 = .ok (.ifCond .ne 77, 3) := by decide +kernel
theorem dX9_best_60 : decode cX9_best 60 = .ok (.aload_n 0, 1) := by decide +kernel
theorem dX9_best_61 : decode cX9_best 61 = .ok (.getfield 25, 3) := by decide +kernel
theorem dX9_best_64 : decode cX9_best 64 = .ok (.iload_n 1, 1) := by decide +kernel
theorem dX9_best_65 : decode cX9_best 65 = .ok (.iload 6, 2) := by decide +kernel
theorem dX9_best_67 : decode cX9_best 67 = .ok (.iastore, 1) := by decide +kernel
theorem dX9_best_68 : decode cX9_best 68 = .ok (.iload_n 2, 1) := by decide +kernel
theorem dX9_best_69 : decode cX9_best 69 = .ok (.ifCond .ne 11, 3) := by decide +kernel
theorem dX9_best_72 : decode cX9_best 72 = .ok (.aload_n 0, 1) := by decide +kernel
theorem dX9_best_73 : decode cX9_best 73 = .ok (.iload_n 1, 1) := by decide +kernel
theorem dX9_best_74 : decode cX9_best 74 = .ok (.invokevirtual 308, 3) := by decide +kernel
theorem dX9_best_77 : decode cX9_best 77 = .ok (.goto 8, 3) := by decide +kernel
theorem dX9_best_80 : decode cX9_best 80 = .ok (.aload_n 0, 1) := by decide +kernel
theorem dX9_best_81 : decode cX9_best 81 = .ok (.iload_n 1, 1) := by decide +kernel
theorem dX9_best_82 : decode cX9_best 82 = .ok (.invokevirtual 327, 3) := by decide +kernel
theorem dX9_best_85 : decode cX9_best 85 = .ok (.istore 7, 2) := by decide +kernel
theorem dX9_best_87 : decode cX9_best 87 = .ok (.iload 4, 2) := by decide +kernel
theorem dX9_best_89 : decode cX9_best 89 = .ok (.ifCond .lt 10, 3) := by decide +kernel
theorem dX9_best_92 : decode cX9_best 92 = .ok (.iload 7, 2) := by decide +kernel
theorem dX9_best_94 : decode cX9_best 94 = .ok (.iload 5, 2) := by decide +kernel
theorem dX9_best_96 : decode cX9_best 96 = .ok (.if_icmp .ge 7, 3) := by decide +kernel
theorem dX9_best_99 : decode cX9_best 99 = .ok (.iconst 1, 1) := by decide +kernel
theorem dX9_best_100 : decode cX9_best 100 = .ok (.goto 4, 3) := by decide +kernel
theorem dX9_best_103 : decode cX9_best 103 = .ok (.iconst 0, 1) := by decide +kernel
theorem dX9_best_104 : decode cX9_best 104 = .ok (.istore 8, 2) := by decide +kernel
theorem dX9_best_106 : decode cX9_best 106 = .ok (.iload 8, 2) := by decide +kernel
theorem dX9_best_108 : decode cX9_best 108 = .ok (.ifCond .eq 8, 3) := by decide +kernel
theorem dX9_best_111 : decode cX9_best 111 = .ok (.iload 6, 2) := by decide +kernel
theorem dX9_best_113 : decode cX9_best 113 = .ok (.goto 5, 3) := by decide +kernel
theorem dX9_best_116 : decode cX9_best 116 = .ok (.iload 4, 2) := by decide +kernel
theorem dX9_best_118 : decode cX9_best 118 = .ok (.istore 4, 2) := by decide +kernel
theorem dX9_best_120 : decode cX9_best 120 = .ok (.iload 8, 2) := by decide +kernel
theorem dX9_best_122 : decode cX9_best 122 = .ok (.ifCond .eq 8, 3) := by decide +kernel
theorem dX9_best_125 : decode cX9_best 125 = .ok (.iload 7, 2) := by decide +kernel
theorem dX9_best_127 : decode cX9_best 127 = .ok (.goto 5, 3) := by decide +kernel
theorem dX9_best_130 : decode cX9_best 130 = .ok (.iload 5, 2) := by decide +kernel
theorem dX9_best_132 : decode cX9_best 132 = .ok (.istore 5, 2) := by decide +kernel
theorem dX9_best_134 : decode cX9_best 134 = .ok (.iinc 6 1, 3) := by decide +kernel
theorem dX9_best_137 : decode cX9_best 137 = .ok (.goto (-96), 3) := by decide +kernel
theorem dX9_best_140 : decode cX9_best 140 = .ok (.aload_n 0, 1) := by decide +kernel
theorem dX9_best_141 : decode cX9_best 141 = .ok (.getfield 25, 3) := by decide +kernel
theorem dX9_best_144 : decode cX9_best 144 = .ok (.iload_n 1, 1) := by decide +kernel
theorem dX9_best_145 : decode cX9_best 145 = .ok (.iload_n 3, 1) := by decide +kernel
theorem dX9_best_146 : decode cX9_best 146 = .ok (.iastore, 1) := by decide +kernel
theorem dX9_best_147 : decode cX9_best 147 = .ok (.aload_n 0, 1) := by decide +kernel
theorem dX9_best_148 : decode cX9_best 148 = .ok (.iload 4, 2) := by decide +kernel
theorem dX9_best_150 : decode cX9_best 150 = .ok (.invokevirtual 331, 3) := by decide +kernel
theorem dX9_best_153 : decode cX9_best 153 = .ok (.ireturn, 1) := by decide +kernel
theorem dX9_errand_0 : decode cX9_errand 0 = .ok (.aload_n 0, 1) := by decide +kernel
theorem dX9_errand_1 : decode cX9_errand 1 = .ok (.iload_n 1, 1) := by decide +kernel
theorem dX9_errand_2 : decode cX9_errand 2 = .ok (.invokevirtual 324, 3) := by decide +kernel
theorem dX9_errand_5 : decode cX9_errand 5 = .ok (.ifCond .eq 21, 3) := by decide +kernel
theorem dX9_errand_8 : decode cX9_errand 8 = .ok (.aload_n 0, 1) := by decide +kernel
theorem dX9_errand_9 : decode cX9_errand 9 = .ok (.iload_n 2, 1) := by decide +kernel
theorem dX9_errand_10 : decode cX9_errand 10 = .ok (.iload_n 3, 1) := by decide +kernel
theorem dX9_errand_11 : decode cX9_errand 11 = .ok (.invokevirtual 267, 3) := by decide +kernel
theorem dX9_errand_14 : decode cX9_errand 14 = .ok (.ifCond .eq 12, 3) := by decide +kernel
theorem dX9_errand_17 : decode cX9_errand 17 = .ok (.aload_n 0, 1) := by decide +kernel
theorem dX9_errand_18 : decode cX9_errand 18 = .ok (.iload 4, 2) := by decide +kernel
theorem dX9_errand_20 : decode cX9_errand 20 = .ok (.invokevirtual 317, 3) := by decide +kernel
theorem dX9_errand_23 : decode cX9_errand 23 = .ok (.ifCond .ne 7, 3) := by decide +kernel
theorem dX9_errand_26 : decode cX9_errand 26 = .ok (.ldc_w 320, 3) := by decide +kernel
theorem dX9_errand_29 : decode cX9_errand 29 = .ok (.ireturn, 1) := by decide +kernel
theorem dX9_errand_30 : decode cX9_errand 30 = .ok (.aload_n 0, 1) := by decide +kernel
theorem dX9_errand_31 : decode cX9_errand 31 = .ok (.getfield 255, 3) := by decide +kernel
theorem dX9_errand_34 : decode cX9_errand 34 = .ok (.bipush 10, 2) := by decide +kernel
theorem dX9_errand_36 : decode cX9_errand 36 = .ok (.if_icmp .ne 6, 3) := by decide +kernel
theorem dX9_errand_39 : decode cX9_errand 39 = .ok (.ldc 142, 2) := by decide +kernel
theorem dX9_errand_41 : decode cX9_errand 41 = .ok (.ireturn, 1) := by decide +kernel
theorem dX9_errand_42 : decode cX9_errand 42 = .ok (.aload_n 0, 1) := by decide +kernel
theorem dX9_errand_43 : decode cX9_errand 43 = .ok (.getfield 75, 3) := by decide +kernel
theorem dX9_errand_46 : decode cX9_errand 46 = .ok (.aload_n 0, 1) := by decide +kernel
theorem dX9_errand_47 : decode cX9_errand 47 = .ok (.getfield 255, 3) := by decide +kernel
theorem dX9_errand_50 : decode cX9_errand 50 = .ok (.iload_n 1, 1) := by decide +kernel
theorem dX9_errand_51 : decode cX9_errand 51 = .ok (.iastore, 1) := by decide +kernel
theorem dX9_errand_52 : decode cX9_errand 52 = .ok (.aload_n 0, 1) := by decide +kernel
theorem dX9_errand_53 : decode cX9_errand 53 = .ok (.getfield 78, 3) := by decide +kernel
theorem dX9_errand_56 : decode cX9_errand 56 = .ok (.aload_n 0, 1) := by decide +kernel
theorem dX9_errand_57 : decode cX9_errand 57 = .ok (.getfield 255, 3) := by decide +kernel
theorem dX9_errand_60 : decode cX9_errand 60 = .ok (.aload_n 0, 1) := by decide +kernel
theorem dX9_errand_61 : decode cX9_errand 61 = .ok (.getfield 120, 3) := by decide +kernel
theorem dX9_errand_64 : decode cX9_errand 64 = .ok (.iload_n 3, 1) := by decide +kernel
theorem dX9_errand_65 : decode cX9_errand 65 = .ok (.imul, 1) := by decide +kernel
theorem dX9_errand_66 : decode cX9_errand 66 = .ok (.iload_n 2, 1) := by decide +kernel
theorem dX9_errand_67 : decode cX9_errand 67 = .ok (.iadd, 1) := by decide +kernel
theorem dX9_errand_68 : decode cX9_errand 68 = .ok (.iastore, 1) := by decide +kernel
theorem dX9_errand_69 : decode cX9_errand 69 = .ok (.aload_n 0, 1) := by decide +kernel
theorem dX9_errand_70 : decode cX9_errand 70 = .ok (.getfield 81, 3) := by decide +kernel
theorem dX9_errand_73 : decode cX9_errand 73 = .ok (.aload_n 0, 1) := by decide +kernel
theorem dX9_errand_74 : decode cX9_errand 74 = .ok (.getfield 255, 3) := by decide +kernel
theorem dX9_errand_77 : decode cX9_errand 77 = .ok (.iload 4, 2) := by decide +kernel
theorem dX9_errand_79 : decode cX9_errand 79 = .ok (.iastore, 1) := by decide +kernel
theorem dX9_errand_80 : decode cX9_errand 80 = .ok (.aload_n 0, 1) := by decide +kernel
theorem dX9_errand_81 : decode cX9_errand 81 = .ok (.dup, 1) := by decide +kernel
theorem dX9_errand_82 : decode cX9_errand 82 = .ok (.getfield 255, 3) := by decide +kernel
theorem dX9_errand_85 : decode cX9_errand 85 = .ok (.iconst 1, 1) := by decide +kernel
theorem dX9_errand_86 : decode cX9_errand 86 = .ok (.iadd, 1) := by decide +kernel
theorem dX9_errand_87 : decode cX9_errand 87 = .ok (.putfield 255, 3) := by decide +kernel
theorem dX9_errand_90 : decode cX9_errand 90 = .ok (.aload_n 0, 1) := by decide +kernel
theorem dX9_errand_91 : decode cX9_errand 91 = .ok (.getfield 255, 3) := by decide +kernel
theorem dX9_errand_94 : decode cX9_errand 94 = .ok (.ireturn, 1) := by decide +kernel
theorem dX9_doesErrands_0 : decode cX9_doesErrands 0 = .ok (.iconst 1, 1) := by decide +kernel
theorem dX9_doesErrands_1 : decode cX9_doesErrands 1 = .ok (.istore 4, 2) := by decide +kernel
theorem dX9_doesErrands_3 : decode cX9_doesErrands 3 = .ok (.iconst 0, 1) := by decide +kernel
theorem dX9_doesErrands_4 : decode cX9_doesErrands 4 = .ok (.istore 5, 2) := by decide +kernel
theorem dX9_doesErrands_6 : decode cX9_doesErrands 6 = .ok (.iload 5, 2) := by decide +kernel
theorem dX9_doesErrands_8 : decode cX9_doesErrands 8 = .ok (.aload_n 0, 1) := by decide +kernel
theorem dX9_doesErrands_9 : decode cX9_doesErrands 9 = .ok (.getfield 255, 3) := by decide +kernel
theorem dX9_doesErrands_12 : decode cX9_doesErrands 12 = .ok (.if_icmp .ge 54, 3) := by decide +kernel
theorem dX9_doesErrands_15 : decode cX9_doesErrands 15 = .ok (.iload 4, 2) := by decide +kernel
theorem dX9_doesErrands_17 : decode cX9_doesErrands 17 = .ok (.ifCond .eq 40, 3) := by decide +kernel
theorem dX9_doesErrands_20 : decode cX9_doesErrands 20 = .ok (.aload_n 0, 1) := by decide +kernel
theorem dX9_doesErrands_21 : decode cX9_doesErrands 21 = .ok (.getfield 75, 3) := by decide +kernel
theorem dX9_doesErrands_24 : decode cX9_doesErrands 24 = .ok (.iload 5, 2) := by decide +kernel
theorem dX9_doesErrands_26 : decode cX9_doesErrands 26 = .ok (.iaload, 1) := by decide +kernel
theorem dX9_doesErrands_27 : decode cX9_doesErrands 27 = .ok (.iload_n 1, 1) := by decide +kernel
theorem dX9_doesErrands_28 : decode cX9_doesErrands 28 = .ok (.if_icmp .ne 25, 3) := by decide +kernel
theorem dX9_doesErrands_31 : decode cX9_doesErrands 31 = .ok (.aload_n 0, 1) := by decide +kernel
theorem dX9_doesErrands_32 : decode cX9_doesErrands 32 = .ok (.getfield 81, 3) := by decide +kernel
theorem dX9_doesErrands_35 : decode cX9_doesErrands 35 = .ok (.iload 5, 2) := by decide +kernel
theorem dX9_doesErrands_37 : decode cX9_doesErrands 37 = .ok (.iaload, 1) := by decide +kernel
theorem dX9_doesErrands_38 : decode cX9_doesErrands 38 = .ok (.iload_n 3, 1) := by decide +kernel
theorem dX9_doesErrands_39 : decode cX9_doesErrands 39 = .ok (.if_icmp .ne 14, 3) := by decide +kernel
theorem dX9_doesErrands_42 : decode cX9_doesErrands 42 = .ok (.aload_n 0, 1) := by decide +kernel
theorem dX9_doesErrands_43 : decode cX9_doesErrands 43 = .ok (.getfield 78, 3) := by decide +kernel
theorem dX9_doesErrands_46 : decode cX9_doesErrands 46 = .ok (.iload 5, 2) := by decide +kernel
theorem dX9_doesErrands_48 : decode cX9_doesErrands 48 = .ok (.iaload, 1) := by decide +kernel
theorem dX9_doesErrands_49 : decode cX9_doesErrands 49 = .ok (.iload_n 2, 1) := by decide +kernel
theorem dX9_doesErrands_50 : decode cX9_doesErrands 50 = .ok (.if_icmp .ne 7, 3) := by decide +kernel
theorem dX9_doesErrands_53 : decode cX9_doesErrands 53 = .ok (.iconst 1, 1) := by decide +kernel
theorem dX9_doesErrands_54 : decode cX9_doesErrands 54 = .ok (.goto 4, 3) := by decide +kernel
theorem dX9_doesErrands_57 : decode cX9_doesErrands 57 = .ok (.iconst 0, 1) := by decide +kernel
theorem dX9_doesErrands_58 : decode cX9_doesErrands 58 = .ok (.istore 4, 2) := by decide +kernel
theorem dX9_doesErrands_60 : decode cX9_doesErrands 60 = .ok (.iinc 5 1, 3) := by decide +kernel
theorem dX9_doesErrands_63 : decode cX9_doesErrands 63 = .ok (.goto (-57), 3) := by decide +kernel
theorem dX9_doesErrands_66 : decode cX9_doesErrands 66 = .ok (.iload 4, 2) := by decide +kernel
theorem dX9_doesErrands_68 : decode cX9_doesErrands 68 = .ok (.ireturn, 1) := by decide +kernel
theorem dX9_isStep_0 : decode cX9_isStep 0 = .ok (.iload_n 1, 1) := by decide +kernel
theorem dX9_isStep_1 : decode cX9_isStep 1 = .ok (.aload_n 0, 1) := by decide +kernel
theorem dX9_isStep_2 : decode cX9_isStep 2 = .ok (.getfield 120, 3) := by decide +kernel
theorem dX9_isStep_5 : decode cX9_isStep 5 = .ok (.irem, 1) := by decide +kernel
theorem dX9_isStep_6 : decode cX9_isStep 6 = .ok (.iload_n 2, 1) := by decide +kernel
theorem dX9_isStep_7 : decode cX9_isStep 7 = .ok (.aload_n 0, 1) := by decide +kernel
theorem dX9_isStep_8 : decode cX9_isStep 8 = .ok (.getfield 120, 3) := by decide +kernel
theorem dX9_isStep_11 : decode cX9_isStep 11 = .ok (.irem, 1) := by decide +kernel
theorem dX9_isStep_12 : decode cX9_isStep 12 = .ok (.isub, 1) := by decide +kernel
theorem dX9_isStep_13 : decode cX9_isStep 13 = .ok (.i2l, 1) := by decide +kernel
theorem dX9_isStep_14 : decode cX9_isStep 14 = .ok (.ldc2_w 296, 3) := by decide +kernel
theorem dX9_isStep_17 : decode cX9_isStep 17 = .ok (.lconst 1, 1) := by decide +kernel
theorem dX9_isStep_18 : decode cX9_isStep 18 = .ok (.invokestatic 123, 3) := by decide +kernel
theorem dX9_isStep_21 : decode cX9_isStep 21 = .ok (.ifCond .eq 31, 3) := by decide +kernel
theorem dX9_isStep_24 : decode cX9_isStep 24 = .ok (.iload_n 1, 1) := by decide +kernel
theorem dX9_isStep_25 : decode cX9_isStep 25 = .ok (.aload_n 0, 1) := by decide +kernel
theorem dX9_isStep_26 : decode cX9_isStep 26 = .ok (.getfield 120, 3) := by decide +kernel
theorem dX9_isStep_29 : decode cX9_isStep 29 = .ok (.idiv, 1) := by decide +kernel
theorem dX9_isStep_30 : decode cX9_isStep 30 = .ok (.iload_n 2, 1) := by decide +kernel
theorem dX9_isStep_31 : decode cX9_isStep 31 = .ok (.aload_n 0, 1) := by decide +kernel
theorem dX9_isStep_32 : decode cX9_isStep 32 = .ok (.getfield 120, 3) := by decide +kernel
theorem dX9_isStep_35 : decode cX9_isStep 35 = .ok (.idiv, 1) := by decide +kernel
theorem dX9_isStep_36 : decode cX9_isStep 36 = .ok (.isub, 1) := by decide +kernel
theorem dX9_isStep_37 : decode cX9_isStep 37 = .ok (.i2l, 1) := by decide +kernel
theorem dX9_isStep_38 : decode cX9_isStep 38 = .ok (.ldc2_w 296, 3) := by decide +kernel
theorem dX9_isStep_41 : decode cX9_isStep 41 = .ok (.lconst 1, 1) := by decide +kernel
theorem dX9_isStep_42 : decode cX9_isStep 42 = .ok (.invokestatic 123, 3) := by decide +kernel
theorem dX9_isStep_45 : decode cX9_isStep 45 = .ok (.ifCond .eq 7, 3) := by decide +kernel
theorem dX9_isStep_48 : decode cX9_isStep 48 = .ok (.iconst 1, 1) := by decide +kernel
theorem dX9_isStep_49 : decode cX9_isStep 49 = .ok (.goto 4, 3) := by decide +kernel
theorem dX9_isStep_52 : decode cX9_isStep 52 = .ok (.iconst 0, 1) := by decide +kernel
theorem dX9_isStep_53 : decode cX9_isStep 53 = .ok (.ireturn, 1) := by decide +kernel
theorem dX9_findWalk_0 : decode cX9_findWalk 0 = .ok (.aload_n 0, 1) := by decide +kernel
theorem dX9_findWalk_1 : decode cX9_findWalk 1 = .ok (.getfield 25, 3) := by decide +kernel
theorem dX9_findWalk_4 : decode cX9_findWalk 4 = .ok (.iload_n 1, 1) := by decide +kernel
theorem dX9_findWalk_5 : decode cX9_findWalk 5 = .ok (.iaload, 1) := by decide +kernel
theorem dX9_findWalk_6 : decode cX9_findWalk 6 = .ok (.istore_n 2, 1) := by decide +kernel
theorem dX9_findWalk_7 : decode cX9_findWalk 7 = .ok (.iconst 0, 1) := by decide +kernel
theorem dX9_findWalk_8 : decode cX9_findWalk 8 = .ok (.istore_n 3, 1) := by decide +kernel
theorem dX9_findWalk_9 : decode cX9_findWalk 9 = .ok (.iload_n 3, 1) := by decide +kernel
theorem dX9_findWalk_10 : decode cX9_findWalk 10 = .ok (.aload_n 0, 1) := by decide +kernel
theorem dX9_findWalk_11 : decode cX9_findWalk 11 = .ok (.getfield 133, 3) := by decide +kernel
theorem dX9_findWalk_14 : decode cX9_findWalk 14 = .ok (.if_icmp .ge 87, 3) := by decide +kernel
theorem dX9_findWalk_17 : decode cX9_findWalk 17 = .ok (.iconst 0, 1) := by decide +kernel
theorem dX9_findWalk_18 : decode cX9_findWalk 18 = .ok (.istore 4, 2) := by decide +kernel
theorem dX9_findWalk_20 : decode cX9_findWalk 20 = .ok (.iload 4, 2) := by decide +kernel
theorem dX9_findWalk_22 : decode cX9_findWalk 22 = .ok (.aload_n 0, 1) := by decide +kernel
theorem dX9_findWalk_23 : decode cX9_findWalk 23 = .ok (.invokevirtual 264, 3) := by decide +kernel
theorem dX9_findWalk_26 : decode cX9_findWalk 26 = .ok (.if_icmp .ge 69, 3) := by decide +kernel
theorem dX9_findWalk_29 : decode cX9_findWalk 29 = .ok (.aload_n 0, 1) := by decide +kernel
theorem dX9_findWalk_30 : decode cX9_findWalk 30 = .ok (.getfield 25, 3) := by decide +kernel
theorem dX9_findWalk_33 : decode cX9_findWalk 33 = .ok (.iload_n 1, 1) := by decide +kernel
theorem dX9_findWalk_34 : decode cX9_findWalk 34 = .ok (.iload 4, 2) := by decide +kernel
theorem dX9_findWalk_36 : decode cX9_findWalk 36 = .ok (.iastore, 1) := by decide +kernel
theorem dX9_findWalk_37 : decode cX9_findWalk 37 = .ok (.aload_n 0, 1) := by decide +kernel
theorem dX9_findWalk_38 : decode cX9_findWalk 38 = .ok (.getfield 84, 3) := by decide +kernel
theorem dX9_findWalk_41 : decode cX9_findWalk 41 = .ok (.bipush 48, 2) := by decide +kernel
theorem dX9_findWalk_43 : decode cX9_findWalk 43 = .ok (.iload_n 3, 1) := by decide +kernel
theorem dX9_findWalk_44 : decode cX9_findWalk 44 = .ok (.imul, 1) := by decide +kernel
theorem dX9_findWalk_45 : decode cX9_findWalk 45 = .ok (.iload 4, 2) := by decide +kernel
theorem dX9_findWalk_47 : decode cX9_findWalk 47 = .ok (.iadd, 1) := by decide +kernel
theorem dX9_findWalk_48 : decode cX9_findWalk 48 = .ok (.aload_n 0, 1) := by decide +kernel
theorem dX9_findWalk_49 : decode cX9_findWalk 49 = .ok (.getfield 7, 3) := by decide +kernel
theorem dX9_findWalk_52 : decode cX9_findWalk 52 = .ok (.iload 4, 2) := by decide +kernel
theorem dX9_findWalk_54 : decode cX9_findWalk 54 = .ok (.iaload, 1) := by decide +kernel
theorem dX9_findWalk_55 : decode cX9_findWalk 55 = .ok (.ifCond .gt 14, 3) := by decide +kernel
theorem dX9_findWalk_58 : decode cX9_findWalk 58 = .ok (.aload_n 0, 1) := by decide +kernel
theorem dX9_findWalk_59 : decode cX9_findWalk 59 = .ok (.iload_n 1, 1) := by decide +kernel
theorem dX9_findWalk_60 : decode cX9_findWalk 60 = .ok (.iload 4, 2) := by decide +kernel
theorem dX9_findWalk_62 : decode cX9_findWalk 62 = .ok (.iload_n 3, 1) := by decide +kernel
theorem dX9_findWalk_63 : decode cX9_findWalk 63 = .ok (.invokevirtual 364, 3) := by decide +kernel
theorem dX9_findWalk_66 : decode cX9_findWalk 66 = .ok (.ifCond .ne 9, 3) := by decide +kernel
theorem dX9_findWalk_69 : decode cX9_findWalk 69 = .ok (.ldc_w 368, 3) := by decide +kernel
theorem dX9_findWalk_72 : decode cX9_findWalk 72 = .ok (.goto 16, 3) := by decide +kernel
theorem dX9_findWalk_75 : decode cX9_findWalk 75 = .ok (.aload_n 0, 1) := by decide +kernel
theorem dX9_findWalk_76 : decode cX9_findWalk 76 = .ok (.iload_n 1, 1) := by decide +kernel
theorem dX9_findWalk_77 : decode cX9_findWalk 77 = .ok (.iload_n 3, 1) := by decide +kernel
theorem dX9_findWalk_78 : decode cX9_findWalk 78 = .ok (.invokevirtual 305, 3) := by decide +kernel
theorem dX9_findWalk_81 : decode cX9_findWalk 81 = .ok (.aload_n 0, 1) := by decide +kernel
theorem dX9_findWalk_82 : decode cX9_findWalk 82 = .ok (.getfield 22, 3) := by decide +kernel
theorem dX9_findWalk_85 : decode cX9_findWalk 85 = .ok (.iload_n 3, 1) := by decide +kernel
theorem dX9_findWalk_86 : decode cX9_findWalk 86 = .ok (.iaload, 1) := by decide +kernel
theorem dX9_findWalk_87 : decode cX9_findWalk 87 = .ok (.imul, 1) := by decide +kernel
theorem dX9_findWalk_88 : decode cX9_findWalk 88 = .ok (.iastore, 1) := by decide +kernel
theorem dX9_findWalk_89 : decode cX9_findWalk 89 = .ok (.iinc 4 1, 3) := by decide +kernel
theorem dX9_findWalk_92 : decode cX9_findWalk 92 = .ok (.goto (-72), 3) := by decide +kernel
theorem dX9_findWalk_95 : decode cX9_findWalk 95 = .ok (.iinc 3 1, 3) := by decide +kernel
theorem dX9_findWalk_98 : decode cX9_findWalk 98 = .ok (.goto (-89), 3) := by decide +kernel
theorem dX9_findWalk_101 : decode cX9_findWalk 101 = .ok (.aload_n 0, 1) := by decide +kernel
theorem dX9_findWalk_102 : decode cX9_findWalk 102 = .ok (.getfield 25, 3) := by decide +kernel
theorem dX9_findWalk_105 : decode cX9_findWalk 105 = .ok (.iload_n 1, 1) := by decide +kernel
theorem dX9_findWalk_106 : decode cX9_findWalk 106 = .ok (.iload_n 2, 1) := by decide +kernel
theorem dX9_findWalk_107 : decode cX9_findWalk 107 = .ok (.iastore, 1) := by decide +kernel
theorem dX9_findWalk_108 : decode cX9_findWalk 108 = .ok (.iconst 0, 1) := by decide +kernel
theorem dX9_findWalk_109 : decode cX9_findWalk 109 = .ok (.istore_n 3, 1) := by decide +kernel
theorem dX9_findWalk_110 : decode cX9_findWalk 110 = .ok (.iload_n 3, 1) := by decide +kernel
theorem dX9_findWalk_111 : decode cX9_findWalk 111 = .ok (.aload_n 0, 1) := by decide +kernel
theorem dX9_findWalk_112 : decode cX9_findWalk 112 = .ok (.invokevirtual 264, 3) := by decide +kernel
theorem dX9_findWalk_115 : decode cX9_findWalk 115 = .ok (.if_icmp .ge 24, 3) := by decide +kernel
theorem dX9_findWalk_118 : decode cX9_findWalk 118 = .ok (.aload_n 0, 1) := by decide +kernel
theorem dX9_findWalk_119 : decode cX9_findWalk 119 = .ok (.getfield 87, 3) := by decide +kernel
theorem dX9_findWalk_122 : decode cX9_findWalk 122 = .ok (.bipush 48, 2) := by decide +kernel
theorem dX9_findWalk_124 : decode cX9_findWalk 124 = .ok (.aload_n 0, 1) := by decide +kernel
theorem dX9_findWalk_125 : decode cX9_findWalk 125 = .ok (.getfield 133, 3) := by decide +kernel
theorem dX9_findWalk_128 : decode cX9_findWalk 128 = .ok (.imul, 1) := by decide +kernel
theorem dX9_findWalk_129 : decode cX9_findWalk 129 = .ok (.iload_n 3, 1) := by decide +kernel
theorem dX9_findWalk_130 : decode cX9_findWalk 130 = .ok (.iadd, 1) := by decide +kernel
theorem dX9_findWalk_131 : decode cX9_findWalk 131 = .ok (.iconst 0, 1) := by decide +kernel
theorem dX9_findWalk_132 : decode cX9_findWalk 132 = .ok (.iastore, 1) := by decide +kernel
theorem dX9_findWalk_133 : decode cX9_findWalk 133 = .ok (.iinc 3 1, 3) := by decide +kernel
theorem dX9_findWalk_136 : decode cX9_findWalk 136 = .ok (.goto (-26), 3) := by decide +kernel
theorem dX9_findWalk_139 : decode cX9_findWalk 139 = .ok (.aload_n 0, 1) := by decide +kernel
theorem dX9_findWalk_140 : decode cX9_findWalk 140 = .ok (.getfield 133, 3) := by decide +kernel
theorem dX9_findWalk_143 : decode cX9_findWalk 143 = .ok (.iconst 1, 1) := by decide +kernel
theorem dX9_findWalk_144 : decode cX9_findWalk 144 = .ok (.isub, 1) := by decide +kernel
theorem dX9_findWalk_145 : decode cX9_findWalk 145 = .ok (.istore_n 3, 1) := by decide +kernel
theorem dX9_findWalk_146 : decode cX9_findWalk 146 = .ok (.iload_n 3, 1) := by decide +kernel
theorem dX9_findWalk_147 : decode cX9_findWalk 147 = .ok (.ifCond .lt 160, 3) := by decide +kernel
theorem dX9_findWalk_150 : decode cX9_findWalk 150 = .ok (.iconst 0, 1) := by decide +kernel
theorem dX9_findWalk_151 : decode cX9_findWalk 151 = .ok (.istore 4, 2) := by decide +kernel
theorem dX9_findWalk_153 : decode cX9_findWalk 153 = .ok (.iload 4, 2) := by decide +kernel
theorem dX9_findWalk_155 : decode cX9_findWalk 155 = .ok (.aload_n 0, 1) := by decide +kernel
theorem dX9_findWalk_156 : decode cX9_findWalk 156 = .ok (.invokevirtual 264, 3) := by decide +kernel
theorem dX9_findWalk_159 : decode cX9_findWalk 159 = .ok (.if_icmp .ge 142, 3) := by decide +kernel
theorem dX9_findWalk_162 : decode cX9_findWalk 162 = .ok (.ldc_w 368, 3) := by decide +kernel
theorem dX9_findWalk_165 : decode cX9_findWalk 165 = .ok (.istore 5, 2) := by decide +kernel
theorem dX9_findWalk_167 : decode cX9_findWalk 167 = .ok (.iconst 0, 1) := by decide +kernel
theorem dX9_findWalk_168 : decode cX9_findWalk 168 = .ok (.istore 6, 2) := by decide +kernel
theorem dX9_findWalk_170 : decode cX9_findWalk 170 = .ok (.iload 6, 2) := by decide +kernel
theorem dX9_findWalk_172 : decode cX9_findWalk 172 = .ok (.aload_n 0, 1) := by decide +kernel
theorem dX9_findWalk_173 : decode cX9_findWalk 173 = .ok (.invokevirtual 264, 3) := by decide +kernel
theorem dX9_findWalk_176 : decode cX9_findWalk 176 = .ok (.if_icmp .ge 66, 3) := by decide +kernel
theorem dX9_findWalk_179 : decode cX9_findWalk 179 = .ok (.iload_n 3, 1) := by decide +kernel
theorem dX9_findWalk_180 : decode cX9_findWalk 180 = .ok (.aload_n 0, 1) := by decide +kernel
theorem dX9_findWalk_181 : decode cX9_findWalk 181 = .ok (.getfield 133, 3) := by decide +kernel
theorem dX9_findWalk_184 : decode cX9_findWalk 184 = .ok (.iconst 1, 1) := by decide +kernel
theorem dX9_findWalk_185 : decode cX9_findWalk 185 = .ok (.isub, 1) := by decide +kernel
theorem dX9_findWalk_186 : decode cX9_findWalk 186 = .ok (.if_icmp .ne 7, 3) := by decide +kernel
theorem dX9_findWalk_189 : decode cX9_findWalk 189 = .ok (.iconst 0, 1) := by decide +kernel
theorem dX9_findWalk_190 : decode cX9_findWalk 190 = .ok (.goto 17, 3) := by decide +kernel
theorem dX9_findWalk_193 : decode cX9_findWalk 193 = .ok (.aload_n 0, 1) := by decide +kernel
theorem dX9_findWalk_194 : decode cX9_findWalk 194 = .ok (.getfield 87, 3) := by decide +kernel
theorem dX9_findWalk_197 : decode cX9_findWalk 197 = .ok (.bipush 48, 2) := by decide +kernel
theorem dX9_findWalk_199 : decode cX9_findWalk 199 = .ok (.iload_n 3, 1) := by decide +kernel
theorem dX9_findWalk_200 : decode cX9_findWalk 200 = .ok (.iconst 1, 1) := by decide +kernel
theorem dX9_findWalk_201 : decode cX9_findWalk 201 = .ok (.iadd, 1) := by decide +kernel
theorem dX9_findWalk_202 : decode cX9_findWalk 202 = .ok (.imul, 1) := by decide +kernel
theorem dX9_findWalk_203 : decode cX9_findWalk 203 = .ok (.iload 6, 2) := by decide +kernel
theorem dX9_findWalk_205 : decode cX9_findWalk 205 = .ok (.iadd, 1) := by decide +kernel
theorem dX9_findWalk_206 : decode cX9_findWalk 206 = .ok (.iaload, 1) := by decide +kernel
theorem dX9_findWalk_207 : decode cX9_findWalk 207 = .ok (.istore 7, 2) := by decide +kernel
theorem dX9_findWalk_209 : decode cX9_findWalk 209 = .ok (.aload_n 0, 1) := by decide +kernel
theorem dX9_findWalk_210 : decode cX9_findWalk 210 = .ok (.iload 4, 2) := by decide +kernel
theorem dX9_findWalk_212 : decode cX9_findWalk 212 = .ok (.iload 6, 2) := by decide +kernel
theorem dX9_findWalk_214 : decode cX9_findWalk 214 = .ok (.invokevirtual 369, 3) := by decide +kernel
theorem dX9_findWalk_217 : decode cX9_findWalk 217 = .ok (.ifCond .eq 15, 3) := by decide +kernel
theorem dX9_findWalk_220 : decode cX9_findWalk 220 = .ok (.iload 7, 2) := by decide +kernel
theorem dX9_findWalk_222 : decode cX9_findWalk 222 = .ok (.iload 5, 2) := by decide +kernel
theorem dX9_findWalk_224 : decode cX9_findWalk 224 = .ok (.if_icmp .ge 8, 3) := by decide +kernel
theorem dX9_findWalk_227 : decode cX9_findWalk 227 = .ok (.iload 7, 2) := by decide +kernel
theorem dX9_findWalk_229 : decode cX9_findWalk 229 = .ok (.goto 5, 3) := by decide +kernel
theorem dX9_findWalk_232 : decode cX9_findWalk 232 = .ok (.iload 5, 2) := by decide +kernel
theorem dX9_findWalk_234 : decode cX9_findWalk 234 = .ok (.istore 5, 2) := by decide +kernel
theorem dX9_findWalk_236 : decode cX9_findWalk 236 = .ok (.iinc 6 1, 3) := by decide +kernel
theorem dX9_findWalk_239 : decode cX9_findWalk 239 = .ok (.goto (-69), 3) := by decide +kernel
theorem dX9_findWalk_242 : decode cX9_findWalk 242 = .ok (.aload_n 0, 1) := by decide +kernel
theorem dX9_findWalk_243 : decode cX9_findWalk 243 = .ok (.getfield 84, 3) := by decide +kernel
theorem dX9_findWalk_246 : decode cX9_findWalk 246 = .ok (.bipush 48, 2) := by decide +kernel
theorem dX9_findWalk_248 : decode cX9_findWalk 248 = .ok (.iload_n 3, 1) := by decide +kernel
theorem dX9_findWalk_249 : decode cX9_findWalk 249 = .ok (.imul, 1) := by decide +kernel
theorem dX9_findWalk_250 : decode cX9_findWalk 250 = .ok (.iload 4, 2) := by decide +kernel
theorem dX9_findWalk_252 : decode cX9_findWalk 252 = .ok (.iadd, 1) := by decide +kernel
theorem dX9_findWalk_253 : decode cX9_findWalk 253 = .ok (.iaload, 1) := by decide +kernel
theorem dX9_findWalk_254 : decode cX9_findWalk 254 = .ok (.istore 6, 2) := by decide +kernel
theorem dX9_findWalk_256 : decode cX9_findWalk 256 = .ok (.aload_n 0, 1) := by decide +kernel
theorem dX9_findWalk_257 : decode cX9_findWalk 257 = .ok (.getfield 87, 3) := by decide +kernel
theorem dX9_findWalk_260 : decode cX9_findWalk 260 = .ok (.bipush 48, 2) := by decide +kernel
theorem dX9_findWalk_262 : decode cX9_findWalk 262 = .ok (.iload_n 3, 1) := by decide +kernel
theorem dX9_findWalk_263 : decode cX9_findWalk 263 = .ok (.imul, 1) := by decide +kernel
theorem dX9_findWalk_264 : decode cX9_findWalk 264 = .ok (.iload 4, 2) := by decide +kernel
theorem dX9_findWalk_266 : decode cX9_findWalk 266 = .ok (.iadd, 1) := by decide +kernel
theorem dX9_findWalk_267 : decode cX9_findWalk 267 = .ok (.iload 6, 2) := by decide +kernel
theorem dX9_findWalk_269 : decode cX9_findWalk 269 = .ok (.ldc_w 368, 3) := by decide +kernel
theorem dX9_findWalk_272 : decode cX9_findWalk 272 = .ok (.if_icmp .eq 11, 3) := by decide +kernel
theorem dX9_findWalk_275 : decode cX9_findWalk 275 = .ok (.iload 5, 2) := by decide +kernel
theorem dX9_findWalk_277 : decode cX9_findWalk 277 = .ok (.ldc_w 368, 3) := by decide +kernel
theorem dX9_findWalk_280 : decode cX9_findWalk 280 = .ok (.if_icmp .ne 9, 3) := by decide +kernel
theorem dX9_findWalk_283 : decode cX9_findWalk 283 = .ok (.ldc_w 368, 3) := by decide +kernel
theorem dX9_findWalk_286 : decode cX9_findWalk 286 = .ok (.goto 8, 3) := by decide +kernel
theorem dX9_findWalk_289 : decode cX9_findWalk 289 = .ok (.iload 6, 2) := by decide +kernel
theorem dX9_findWalk_291 : decode cX9_findWalk 291 = .ok (.iload 5, 2) := by decide +kernel
theorem dX9_findWalk_293 : decode cX9_findWalk 293 = .ok (.iadd, 1) := by decide +kernel
theorem dX9_findWalk_294 : decode cX9_findWalk 294 = .ok (.iastore, 1) := by decide +kernel
theorem dX9_findWalk_295 : decode cX9_findWalk 295 = .ok (.iinc 4 1, 3) := by decide +kernel
theorem dX9_findWalk_298 : decode cX9_findWalk 298 = .ok (.goto (-145), 3) := by decide +kernel
theorem dX9_findWalk_301 : decode cX9_findWalk 301 = .ok (.iinc 3 (-1), 3) := by decide +kernel
theorem dX9_findWalk_304 : decode cX9_findWalk 304 = .ok (.goto (-158), 3) := by decide +kernel
theorem dX9_findWalk_307 : decode cX9_findWalk 307 = .ok (.return_, 1) := by decide +kernel
theorem dX9_walk_0 : decode cX9_walk 0 = .ok (.aload_n 0, 1) := by decide +kernel
theorem dX9_walk_1 : decode cX9_walk 1 = .ok (.iload_n 1, 1) := by decide +kernel
theorem dX9_walk_2 : decode cX9_walk 2 = .ok (.invokevirtual 324, 3) := by decide +kernel
theorem dX9_walk_5 : decode cX9_walk 5 = .ok (.ifCond .eq 16, 3) := by decide +kernel
theorem dX9_walk_8 : decode cX9_walk 8 = .ok (.iload_n 2, 1) := by decide +kernel
theorem dX9_walk_9 : decode cX9_walk 9 = .ok (.iconst (-1), 1) := by decide +kernel
theorem dX9_walk_10 : decode cX9_walk 10 = .ok (.if_icmp .eq 15, 3) := by decide +kernel
theorem dX9_walk_13 : decode cX9_walk 13 = .ok (.aload_n 0, 1) := by decide +kernel
theorem dX9_walk_14 : decode cX9_walk 14 = .ok (.iload_n 2, 1) := by decide +kernel
theorem dX9_walk_15 : decode cX9_walk 15 = .ok (.invokevirtual 317, 3) := by decide +kernel
theorem dX9_walk_18 : decode cX9_walk 18 = .ok (.ifCond .ne 7, 3) := by decide +kernel
theorem dX9_walk_21 : decode cX9_walk 21 = .ok (.ldc_w 320, 3) := by decide +kernel
theorem dX9_walk_24 : decode cX9_walk 24 = .ok (.ireturn, 1) := by decide +kernel
theorem dX9_walk_25 : decode cX9_walk 25 = .ok (.aload_n 0, 1) := by decide +kernel
theorem dX9_walk_26 : decode cX9_walk 26 = .ok (.iload_n 1, 1) := by decide +kernel
theorem dX9_walk_27 : decode cX9_walk 27 = .ok (.invokevirtual 372, 3) := by decide +kernel
theorem dX9_walk_30 : decode cX9_walk 30 = .ok (.aload_n 0, 1) := by decide +kernel
theorem dX9_walk_31 : decode cX9_walk 31 = .ok (.getfield 25, 3) := by decide +kernel
theorem dX9_walk_34 : decode cX9_walk 34 = .ok (.iload_n 1, 1) := by decide +kernel
theorem dX9_walk_35 : decode cX9_walk 35 = .ok (.iaload, 1) := by decide +kernel
theorem dX9_walk_36 : decode cX9_walk 36 = .ok (.istore_n 3, 1) := by decide +kernel
theorem dX9_walk_37 : decode cX9_walk 37 = .ok (.aload_n 0, 1) := by decide +kernel
theorem dX9_walk_38 : decode cX9_walk 38 = .ok (.getfield 87, 3) := by decide +kernel
theorem dX9_walk_41 : decode cX9_walk 41 = .ok (.iload_n 3, 1) := by decide +kernel
theorem dX9_walk_42 : decode cX9_walk 42 = .ok (.iaload, 1) := by decide +kernel
theorem dX9_walk_43 : decode cX9_walk 43 = .ok (.istore 4, 2) := by decide +kernel
theorem dX9_walk_45 : decode cX9_walk 45 = .ok (.iload 4, 2) := by decide +kernel
theorem dX9_walk_47 : decode cX9_walk 47 = .ok (.ldc_w 368, 3) := by decide +kernel
theorem dX9_walk_50 : decode cX9_walk 50 = .ok (.if_icmp .eq 8, 3) := by decide +kernel
theorem dX9_walk_53 : decode cX9_walk 53 = .ok (.iload_n 2, 1) := by decide +kernel
theorem dX9_walk_54 : decode cX9_walk 54 = .ok (.iconst (-1), 1) := by decide +kernel
theorem dX9_walk_55 : decode cX9_walk 55 = .ok (.if_icmp .ne 18, 3) := by decide +kernel
theorem dX9_walk_58 : decode cX9_walk 58 = .ok (.iload 4, 2) := by decide +kernel
theorem dX9_walk_60 : decode cX9_walk 60 = .ok (.ldc_w 368, 3) := by decide +kernel
theorem dX9_walk_63 : decode cX9_walk 63 = .ok (.if_icmp .ne 7, 3) := by decide +kernel
theorem dX9_walk_66 : decode cX9_walk 66 = .ok (.iconst (-1), 1) := by decide +kernel
theorem dX9_walk_67 : decode cX9_walk 67 = .ok (.goto 5, 3) := by decide +kernel
theorem dX9_walk_70 : decode cX9_walk 70 = .ok (.iload 4, 2) := by decide +kernel
theorem dX9_walk_72 : decode cX9_walk 72 = .ok (.ireturn, 1) := by decide +kernel
theorem dX9_walk_73 : decode cX9_walk 73 = .ok (.iconst 1, 1) := by decide +kernel
theorem dX9_walk_74 : decode cX9_walk 74 = .ok (.istore 5, 2) := by decide +kernel
theorem dX9_walk_76 : decode cX9_walk 76 = .ok (.iload 5, 2) := by decide +kernel
theorem dX9_walk_78 : decode cX9_walk 78 = .ok (.iload_n 2, 1) := by decide +kernel
theorem dX9_walk_79 : decode cX9_walk 79 = .ok (.if_icmp .gt 80, 3) := by decide +kernel
theorem dX9_walk_82 : decode cX9_walk 82 = .ok (.aload_n 0, 1) := by decide +kernel
theorem dX9_walk_83 : decode cX9_walk 83 = .ok (.getfield 87, 3) := by decide +kernel
theorem dX9_walk_86 : decode cX9_walk 86 = .ok (.bipush 48, 2) := by decide +kernel
theorem dX9_walk_88 : decode cX9_walk 88 = .ok (.iload 5, 2) := by decide +kernel
theorem dX9_walk_90 : decode cX9_walk 90 = .ok (.iconst 1, 1) := by decide +kernel
theorem dX9_walk_91 : decode cX9_walk 91 = .ok (.isub, 1) := by decide +kernel
theorem dX9_walk_92 : decode cX9_walk 92 = .ok (.imul, 1) := by decide +kernel
theorem dX9_walk_93 : decode cX9_walk 93 = .ok (.iload_n 3, 1) := by decide +kernel
theorem dX9_walk_94 : decode cX9_walk 94 = .ok (.iadd, 1) := by decide +kernel
theorem dX9_walk_95 : decode cX9_walk 95 = .ok (.iaload, 1) := by decide +kernel
theorem dX9_walk_96 : decode cX9_walk 96 = .ok (.aload_n 0, 1) := by decide +kernel
theorem dX9_walk_97 : decode cX9_walk 97 = .ok (.getfield 84, 3) := by decide +kernel
theorem dX9_walk_100 : decode cX9_walk 100 = .ok (.bipush 48, 2) := by decide +kernel
theorem dX9_walk_102 : decode cX9_walk 102 = .ok (.iload 5, 2) := by decide +kernel
theorem dX9_walk_104 : decode cX9_walk 104 = .ok (.iconst 1, 1) := by decide +kernel
theorem dX9_walk_105 : decode cX9_walk 105 = .ok (.isub, 1) := by decide +kernel
theorem dX9_walk_106 : decode cX9_walk 106 = .ok (.imul, 1) := by decide +kernel
theorem dX9_walk_107 : decode cX9_walk 107 = .ok (.iload_n 3, 1) := by decide +kernel
theorem dX9_walk_108 : decode cX9_walk 108 = .ok (.iadd, 1) := by decide +kernel
theorem dX9_walk_109 : decode cX9_walk 109 = .ok (.iaload, 1) := by decide +kernel
theorem dX9_walk_110 : decode cX9_walk 110 = .ok (.isub, 1) := by decide +kernel
theorem dX9_walk_111 : decode cX9_walk 111 = .ok (.istore 6, 2) := by decide +kernel
theorem dX9_walk_113 : decode cX9_walk 113 = .ok (.iconst 0, 1) := by decide +kernel
theorem dX9_walk_114 : decode cX9_walk 114 = .ok (.istore 7, 2) := by decide +kernel
theorem dX9_walk_116 : decode cX9_walk 116 = .ok (.aload_n 0, 1) := by decide +kernel
theorem dX9_walk_117 : decode cX9_walk 117 = .ok (.iload_n 3, 1) := by decide +kernel
theorem dX9_walk_118 : decode cX9_walk 118 = .ok (.iload 7, 2) := by decide +kernel
theorem dX9_walk_120 : decode cX9_walk 120 = .ok (.invokevirtual 369, 3) := by decide +kernel
theorem dX9_walk_123 : decode cX9_walk 123 = .ok (.ifCond .eq 21, 3) := by decide +kernel
theorem dX9_walk_126 : decode cX9_walk 126 = .ok (.aload_n 0, 1) := by decide +kernel
theorem dX9_walk_127 : decode cX9_walk 127 = .ok (.getfield 87, 3) := by decide +kernel
theorem dX9_walk_130 : decode cX9_walk 130 = .ok (.bipush 48, 2) := by decide +kernel
theorem dX9_walk_132 : decode cX9_walk 132 = .ok (.iload 5, 2) := by decide +kernel
theorem dX9_walk_134 : decode cX9_walk 134 = .ok (.imul, 1) := by decide +kernel
theorem dX9_walk_135 : decode cX9_walk 135 = .ok (.iload 7, 2) := by decide +kernel
theorem dX9_walk_137 : decode cX9_walk 137 = .ok (.iadd, 1) := by decide +kernel
theorem dX9_walk_138 : decode cX9_walk 138 = .ok (.iaload, 1) := by decide +kernel
theorem dX9_walk_139 : decode cX9_walk 139 = .ok (.iload 6, 2) := by decide +kernel
theorem dX9_walk_141 : decode cX9_walk 141 = .ok (.if_icmp .eq 9, 3) := by decide +kernel
theorem dX9_walk_144 : decode cX9_walk 144 = .ok (.iinc 7 1, 3) := by decide +kernel
theorem dX9_walk_147 : decode cX9_walk 147 = .ok (.goto (-31), 3) := by decide +kernel
theorem dX9_walk_150 : decode cX9_walk 150 = .ok (.iload 7, 2) := by decide +kernel
theorem dX9_walk_152 : decode cX9_walk 152 = .ok (.istore_n 3, 1) := by decide +kernel
theorem dX9_walk_153 : decode cX9_walk 153 = .ok (.iinc 5 1, 3) := by decide +kernel
theorem dX9_walk_156 : decode cX9_walk 156 = .ok (.goto (-80), 3) := by decide +kernel
theorem dX9_walk_159 : decode cX9_walk 159 = .ok (.aload_n 0, 1) := by decide +kernel
theorem dX9_walk_160 : decode cX9_walk 160 = .ok (.iload_n 3, 1) := by decide +kernel
theorem dX9_walk_161 : decode cX9_walk 161 = .ok (.invokevirtual 331, 3) := by decide +kernel
theorem dX9_walk_164 : decode cX9_walk 164 = .ok (.ireturn, 1) := by decide +kernel
theorem dX9_coupleOf_0 : decode cX9_coupleOf 0 = .ok (.iload_n 1, 1) := by decide +kernel
theorem dX9_coupleOf_1 : decode cX9_coupleOf 1 = .ok (.iload_n 2, 1) := by decide +kernel
theorem dX9_coupleOf_2 : decode cX9_coupleOf 2 = .ok (.if_icmp .ge 7, 3) := by decide +kernel
theorem dX9_coupleOf_5 : decode cX9_coupleOf 5 = .ok (.iload_n 1, 1) := by decide +kernel
theorem dX9_coupleOf_6 : decode cX9_coupleOf 6 = .ok (.goto 4, 3) := by decide +kernel
theorem dX9_coupleOf_9 : decode cX9_coupleOf 9 = .ok (.iload_n 2, 1) := by decide +kernel
theorem dX9_coupleOf_10 : decode cX9_coupleOf 10 = .ok (.istore_n 3, 1) := by decide +kernel
theorem dX9_coupleOf_11 : decode cX9_coupleOf 11 = .ok (.iload_n 1, 1) := by decide +kernel
theorem dX9_coupleOf_12 : decode cX9_coupleOf 12 = .ok (.iload_n 2, 1) := by decide +kernel
theorem dX9_coupleOf_13 : decode cX9_coupleOf 13 = .ok (.if_icmp .ge 7, 3) := by decide +kernel
theorem dX9_coupleOf_16 : decode cX9_coupleOf 16 = .ok (.iload_n 2, 1) := by decide +kernel
theorem dX9_coupleOf_17 : decode cX9_coupleOf 17 = .ok (.goto 4, 3) := by decide +kernel
theorem dX9_coupleOf_20 : decode cX9_coupleOf 20 = .ok (.iload_n 1, 1) := by decide +kernel
theorem dX9_coupleOf_21 : decode cX9_coupleOf 21 = .ok (.istore 4, 2) := by decide +kernel
theorem dX9_coupleOf_23 : decode cX9_coupleOf 23 = .ok (.aload_n 0, 1) := by decide +kernel
theorem dX9_coupleOf_24 : decode cX9_coupleOf 24 = .ok (.iload_n 1, 1) := by decide +kernel
theorem dX9_coupleOf_25 : decode cX9_coupleOf 25 = .ok (.invokevirtual 308, 3) := by decide +kernel
theorem dX9_coupleOf_28 : decode cX9_coupleOf 28 = .ok (.aload_n 0, 1) := by decide +kernel
theorem dX9_coupleOf_29 : decode cX9_coupleOf 29 = .ok (.iload_n 2, 1) := by decide +kernel
theorem dX9_coupleOf_30 : decode cX9_coupleOf 30 = .ok (.invokevirtual 308, 3) := by decide +kernel
theorem dX9_coupleOf_33 : decode cX9_coupleOf 33 = .ok (.iadd, 1) := by decide +kernel
theorem dX9_coupleOf_34 : decode cX9_coupleOf 34 = .ok (.istore 5, 2) := by decide +kernel
theorem dX9_coupleOf_36 : decode cX9_coupleOf 36 = .ok (.aload_n 0, 1) := by decide +kernel
theorem dX9_coupleOf_37 : decode cX9_coupleOf 37 = .ok (.iload_n 1, 1) := by decide +kernel
theorem dX9_coupleOf_38 : decode cX9_coupleOf 38 = .ok (.invokevirtual 281, 3) := by decide +kernel
theorem dX9_coupleOf_41 : decode cX9_coupleOf 41 = .ok (.aload_n 0, 1) := by decide +kernel
theorem dX9_coupleOf_42 : decode cX9_coupleOf 42 = .ok (.iload_n 2, 1) := by decide +kernel
theorem dX9_coupleOf_43 : decode cX9_coupleOf 43 = .ok (.invokevirtual 281, 3) := by decide +kernel
theorem dX9_coupleOf_46 : decode cX9_coupleOf 46 = .ok (.if_icmp .le 11, 3) := by decide +kernel
theorem dX9_coupleOf_49 : decode cX9_coupleOf 49 = .ok (.aload_n 0, 1) := by decide +kernel
theorem dX9_coupleOf_50 : decode cX9_coupleOf 50 = .ok (.iload_n 1, 1) := by decide +kernel
theorem dX9_coupleOf_51 : decode cX9_coupleOf 51 = .ok (.invokevirtual 281, 3) := by decide +kernel
theorem dX9_coupleOf_54 : decode cX9_coupleOf 54 = .ok (.goto 8, 3) := by decide +kernel
theorem dX9_coupleOf_57 : decode cX9_coupleOf 57 = .ok (.aload_n 0, 1) := by decide +kernel
theorem dX9_coupleOf_58 : decode cX9_coupleOf 58 = .ok (.iload_n 2, 1) := by decide +kernel
theorem dX9_coupleOf_59 : decode cX9_coupleOf 59 = .ok (.invokevirtual 281, 3) := by decide +kernel
theorem dX9_coupleOf_62 : decode cX9_coupleOf 62 = .ok (.istore 6, 2) := by decide +kernel
theorem dX9_coupleOf_64 : decode cX9_coupleOf 64 = .ok (.aload_n 0, 1) := by decide +kernel
theorem dX9_coupleOf_65 : decode cX9_coupleOf 65 = .ok (.getfield 25, 3) := by decide +kernel
theorem dX9_coupleOf_68 : decode cX9_coupleOf 68 = .ok (.iload_n 3, 1) := by decide +kernel
theorem dX9_coupleOf_69 : decode cX9_coupleOf 69 = .ok (.iaload, 1) := by decide +kernel
theorem dX9_coupleOf_70 : decode cX9_coupleOf 70 = .ok (.istore 7, 2) := by decide +kernel
theorem dX9_coupleOf_72 : decode cX9_coupleOf 72 = .ok (.aload_n 0, 1) := by decide +kernel
theorem dX9_coupleOf_73 : decode cX9_coupleOf 73 = .ok (.iload 4, 2) := by decide +kernel
theorem dX9_coupleOf_75 : decode cX9_coupleOf 75 = .ok (.putfield 66, 3) := by decide +kernel
theorem dX9_coupleOf_78 : decode cX9_coupleOf 78 = .ok (.aload_n 0, 1) := by decide +kernel
theorem dX9_coupleOf_79 : decode cX9_coupleOf 79 = .ok (.iload 6, 2) := by decide +kernel
theorem dX9_coupleOf_81 : decode cX9_coupleOf 81 = .ok (.putfield 274, 3) := by decide +kernel
theorem dX9_coupleOf_84 : decode cX9_coupleOf 84 = .ok (.aload_n 0, 1) := by decide +kernel
theorem dX9_coupleOf_85 : decode cX9_coupleOf 85 = .ok (.iload_n 3, 1) := by decide +kernel
theorem dX9_coupleOf_86 : decode cX9_coupleOf 86 = .ok (.putfield 69, 3) := by decide +kernel
theorem dX9_coupleOf_89 : decode cX9_coupleOf 89 = .ok (.aload_n 0, 1) := by decide +kernel
theorem dX9_coupleOf_90 : decode cX9_coupleOf 90 = .ok (.iload_n 3, 1) := by decide +kernel
theorem dX9_coupleOf_91 : decode cX9_coupleOf 91 = .ok (.invokevirtual 308, 3) := by decide +kernel
theorem dX9_coupleOf_94 : decode cX9_coupleOf 94 = .ok (.istore 8, 2) := by decide +kernel
theorem dX9_coupleOf_96 : decode cX9_coupleOf 96 = .ok (.aload_n 0, 1) := by decide +kernel
theorem dX9_coupleOf_97 : decode cX9_coupleOf 97 = .ok (.getfield 25, 3) := by decide +kernel
theorem dX9_coupleOf_100 : decode cX9_coupleOf 100 = .ok (.iload_n 3, 1) := by decide +kernel
theorem dX9_coupleOf_101 : decode cX9_coupleOf 101 = .ok (.aload_n 0, 1) := by decide +kernel
theorem dX9_coupleOf_102 : decode cX9_coupleOf 102 = .ok (.getfield 25, 3) := by decide +kernel
theorem dX9_coupleOf_105 : decode cX9_coupleOf 105 = .ok (.iload 4, 2) := by decide +kernel
theorem dX9_coupleOf_107 : decode cX9_coupleOf 107 = .ok (.iaload, 1) := by decide +kernel
theorem dX9_coupleOf_108 : decode cX9_coupleOf 108 = .ok (.iastore, 1) := by decide +kernel
theorem dX9_coupleOf_109 : decode cX9_coupleOf 109 = .ok (.aload_n 0, 1) := by decide +kernel
theorem dX9_coupleOf_110 : decode cX9_coupleOf 110 = .ok (.iload_n 3, 1) := by decide +kernel
theorem dX9_coupleOf_111 : decode cX9_coupleOf 111 = .ok (.invokevirtual 308, 3) := by decide +kernel
theorem dX9_coupleOf_114 : decode cX9_coupleOf 114 = .ok (.istore 9, 2) := by decide +kernel
theorem dX9_coupleOf_116 : decode cX9_coupleOf 116 = .ok (.aload_n 0, 1) := by decide +kernel
theorem dX9_coupleOf_117 : decode cX9_coupleOf 117 = .ok (.getfield 25, 3) := by decide +kernel
theorem dX9_coupleOf_120 : decode cX9_coupleOf 120 = .ok (.iload_n 3, 1) := by decide +kernel
theorem dX9_coupleOf_121 : decode cX9_coupleOf 121 = .ok (.iload 7, 2) := by decide +kernel
theorem dX9_coupleOf_123 : decode cX9_coupleOf 123 = .ok (.iastore, 1) := by decide +kernel
theorem dX9_coupleOf_124 : decode cX9_coupleOf 124 = .ok (.aload_n 0, 1) := by decide +kernel
theorem dX9_coupleOf_125 : decode cX9_coupleOf 125 = .ok (.iconst (-1), 1) := by decide +kernel
theorem dX9_coupleOf_126 : decode cX9_coupleOf 126 = .ok (.putfield 66, 3) := by decide +kernel
theorem dX9_coupleOf_129 : decode cX9_coupleOf 129 = .ok (.aload_n 0, 1) := by decide +kernel
theorem dX9_coupleOf_130 : decode cX9_coupleOf 130 = .ok (.iconst (-1), 1) := by decide +kernel
theorem dX9_coupleOf_131 : decode cX9_coupleOf 131 = .ok (.putfield 69, 3) := by decide +kernel
theorem dX9_coupleOf_134 : decode cX9_coupleOf 134 = .ok (.iload 5, 2) := by decide +kernel
theorem dX9_coupleOf_136 : decode cX9_coupleOf 136 = .ok (.iload 8, 2) := by decide +kernel
theorem dX9_coupleOf_138 : decode cX9_coupleOf 138 = .ok (.iload 9, 2) := by decide +kernel
theorem dX9_coupleOf_140 : decode cX9_coupleOf 140 = .ok (.if_icmp .ge 8, 3) := by decide +kernel
theorem dX9_coupleOf_143 : decode cX9_coupleOf 143 = .ok (.iload 8, 2) := by decide +kernel
theorem dX9_coupleOf_145 : decode cX9_coupleOf 145 = .ok (.goto 5, 3) := by decide +kernel
theorem dX9_coupleOf_148 : decode cX9_coupleOf 148 = .ok (.iload 9, 2) := by decide +kernel
theorem dX9_coupleOf_150 : decode cX9_coupleOf 150 = .ok (.isub, 1) := by decide +kernel
theorem dX9_coupleOf_151 : decode cX9_coupleOf 151 = .ok (.ireturn, 1) := by decide +kernel
theorem dX9_couple_0 : decode cX9_couple 0 = .ok (.aload_n 0, 1) := by decide +kernel
theorem dX9_couple_1 : decode cX9_couple 1 = .ok (.iload_n 1, 1) := by decide +kernel
theorem dX9_couple_2 : decode cX9_couple 2 = .ok (.invokevirtual 324, 3) := by decide +kernel
theorem dX9_couple_5 : decode cX9_couple 5 = .ok (.ifCond .eq 25, 3) := by decide +kernel
theorem dX9_couple_8 : decode cX9_couple 8 = .ok (.aload_n 0, 1) := by decide +kernel
theorem dX9_couple_9 : decode cX9_couple 9 = .ok (.iload_n 2, 1) := by decide +kernel
theorem dX9_couple_10 : decode cX9_couple 10 = .ok (.invokevirtual 324, 3) := by decide +kernel
theorem dX9_couple_13 : decode cX9_couple 13 = .ok (.ifCond .eq 17, 3) := by decide +kernel
theorem dX9_couple_16 : decode cX9_couple 16 = .ok (.iload_n 1, 1) := by decide +kernel
theorem dX9_couple_17 : decode cX9_couple 17 = .ok (.iload_n 2, 1) := by decide +kernel
theorem dX9_couple_18 : decode cX9_couple 18 = .ok (.if_icmp .eq 12, 3) := by decide +kernel
theorem dX9_couple_21 : decode cX9_couple 21 = .ok (.aload_n 0, 1) := by decide +kernel
theorem dX9_couple_22 : decode cX9_couple 22 = .ok (.iload_n 1, 1) := by decide +kernel
theorem dX9_couple_23 : decode cX9_couple 23 = .ok (.iload_n 2, 1) := by decide +kernel
theorem dX9_couple_24 : decode cX9_couple 24 = .ok (.invokevirtual 375, 3) := by decide +kernel
theorem dX9_couple_27 : decode cX9_couple 27 = .ok (.goto 6, 3) := by decide +kernel
theorem dX9_couple_30 : decode cX9_couple 30 = .ok (.ldc_w 320, 3) := by decide +kernel
theorem dX9_couple_33 : decode cX9_couple 33 = .ok (.ireturn, 1) := by decide +kernel
theorem dX9_setPartners_0 : decode cX9_setPartners 0 = .ok (.iload_n 1, 1) := by decide +kernel
theorem dX9_setPartners_1 : decode cX9_setPartners 1 = .ok (.istore_n 2, 1) := by decide +kernel
theorem dX9_setPartners_2 : decode cX9_setPartners 2 = .ok (.aload_n 0, 1) := by decide +kernel
theorem dX9_setPartners_3 : decode cX9_setPartners 3 = .ok (.getfield 130, 3) := by decide +kernel
theorem dX9_setPartners_6 : decode cX9_setPartners 6 = .ok (.iconst 1, 1) := by decide +kernel
theorem dX9_setPartners_7 : decode cX9_setPartners 7 = .ok (.isub, 1) := by decide +kernel
theorem dX9_setPartners_8 : decode cX9_setPartners 8 = .ok (.istore_n 3, 1) := by decide +kernel
theorem dX9_setPartners_9 : decode cX9_setPartners 9 = .ok (.iload_n 3, 1) := by decide +kernel
theorem dX9_setPartners_10 : decode cX9_setPartners 10 = .ok (.ifCond .lt 34, 3) := by decide +kernel
theorem dX9_setPartners_13 : decode cX9_setPartners 13 = .ok (.aload_n 0, 1) := by decide +kernel
theorem dX9_setPartners_14 : decode cX9_setPartners 14 = .ok (.getfield 93, 3) := by decide +kernel
theorem dX9_setPartners_17 : decode cX9_setPartners 17 = .ok (.iload_n 3, 1) := by decide +kernel
theorem dX9_setPartners_18 : decode cX9_setPartners 18 = .ok (.iload_n 2, 1) := by decide +kernel
theorem dX9_setPartners_19 : decode cX9_setPartners 19 = .ok (.aload_n 0, 1) := by decide +kernel
theorem dX9_setPartners_20 : decode cX9_setPartners 20 = .ok (.getfield 130, 3) := by decide +kernel
theorem dX9_setPartners_23 : decode cX9_setPartners 23 = .ok (.iconst 1, 1) := by decide +kernel
theorem dX9_setPartners_24 : decode cX9_setPartners 24 = .ok (.iadd, 1) := by decide +kernel
theorem dX9_setPartners_25 : decode cX9_setPartners 25 = .ok (.irem, 1) := by decide +kernel
theorem dX9_setPartners_26 : decode cX9_setPartners 26 = .ok (.iconst 1, 1) := by decide +kernel
theorem dX9_setPartners_27 : decode cX9_setPartners 27 = .ok (.isub, 1) := by decide +kernel
theorem dX9_setPartners_28 : decode cX9_setPartners 28 = .ok (.iastore, 1) := by decide +kernel
theorem dX9_setPartners_29 : decode cX9_setPartners 29 = .ok (.iload_n 2, 1) := by decide +kernel
theorem dX9_setPartners_30 : decode cX9_setPartners 30 = .ok (.aload_n 0, 1) := by decide +kernel
theorem dX9_setPartners_31 : decode cX9_setPartners 31 = .ok (.getfield 130, 3) := by decide +kernel
theorem dX9_setPartners_34 : decode cX9_setPartners 34 = .ok (.iconst 1, 1) := by decide +kernel
theorem dX9_setPartners_35 : decode cX9_setPartners 35 = .ok (.iadd, 1) := by decide +kernel
theorem dX9_setPartners_36 : decode cX9_setPartners 36 = .ok (.idiv, 1) := by decide +kernel
theorem dX9_setPartners_37 : decode cX9_setPartners 37 = .ok (.istore_n 2, 1) := by decide +kernel
theorem dX9_setPartners_38 : decode cX9_setPartners 38 = .ok (.iinc 3 (-1), 3) := by decide +kernel
theorem dX9_setPartners_41 : decode cX9_setPartners 41 = .ok (.goto (-32), 3) := by decide +kernel
theorem dX9_setPartners_44 : decode cX9_setPartners 44 = .ok (.iconst 1, 1) := by decide +kernel
theorem dX9_setPartners_45 : decode cX9_setPartners 45 = .ok (.istore_n 3, 1) := by decide +kernel
theorem dX9_setPartners_46 : decode cX9_setPartners 46 = .ok (.iconst 0, 1) := by decide +kernel
theorem dX9_setPartners_47 : decode cX9_setPartners 47 = .ok (.istore 4, 2) := by decide +kernel
theorem dX9_setPartners_49 : decode cX9_setPartners 49 = .ok (.iload 4, 2) := by decide +kernel
theorem dX9_setPartners_51 : decode cX9_setPartners 51 = .ok (.aload_n 0, 1) := by decide +kernel
theorem dX9_setPartners_52 : decode cX9_setPartners 52 = .ok (.getfield 130, 3) := by decide +kernel
theorem dX9_setPartners_55 : decode cX9_setPartners 55 = .ok (.if_icmp .ge 58, 3) := by decide +kernel
theorem dX9_setPartners_58 : decode cX9_setPartners 58 = .ok (.iload_n 3, 1) := by decide +kernel
theorem dX9_setPartners_59 : decode cX9_setPartners 59 = .ok (.ifCond .eq 46, 3) := by decide +kernel
theorem dX9_setPartners_62 : decode cX9_setPartners 62 = .ok (.aload_n 0, 1) := by decide +kernel
theorem dX9_setPartners_63 : decode cX9_setPartners 63 = .ok (.getfield 93, 3) := by decide +kernel
theorem dX9_setPartners_66 : decode cX9_setPartners 66 = .ok (.iload 4, 2) := by decide +kernel
theorem dX9_setPartners_68 : decode cX9_setPartners 68 = .ok (.iaload, 1) := by decide +kernel
theorem dX9_setPartners_69 : decode cX9_setPartners 69 = .ok (.ifCond .lt 32, 3) := by decide +kernel
theorem dX9_setPartners_72 : decode cX9_setPartners 72 = .ok (.aload_n 0, 1) := by decide +kernel
theorem dX9_setPartners_73 : decode cX9_setPartners 73 = .ok (.getfield 93, 3) := by decide +kernel
theorem dX9_setPartners_76 : decode cX9_setPartners 76 = .ok (.iload 4, 2) := by decide +kernel
theorem dX9_setPartners_78 : decode cX9_setPartners 78 = .ok (.iaload, 1) := by decide +kernel
theorem dX9_setPartners_79 : decode cX9_setPartners 79 = .ok (.iload 4, 2) := by decide +kernel
theorem dX9_setPartners_81 : decode cX9_setPartners 81 = .ok (.if_icmp .eq 24, 3) := by decide +kernel
theorem dX9_setPartners_84 : decode cX9_setPartners 84 = .ok (.aload_n 0, 1) := by decide +kernel
theorem dX9_setPartners_85 : decode cX9_setPartners 85 = .ok (.getfield 93, 3) := by decide +kernel
theorem dX9_setPartners_88 : decode cX9_setPartners 88 = .ok (.aload_n 0, 1) := by decide +kernel
theorem dX9_setPartners_89 : decode cX9_setPartners 89 = .ok (.getfield 93, 3) := by decide +kernel
theorem dX9_setPartners_92 : decode cX9_setPartners 92 = .ok (.iload 4, 2) := by decide +kernel
theorem dX9_setPartners_94 : decode cX9_setPartners 94 = .ok (.iaload, 1) := by decide +kernel
theorem dX9_setPartners_95 : decode cX9_setPartners 95 = .ok (.iaload, 1) := by decide +kernel
theorem dX9_setPartners_96 : decode cX9_setPartners 96 = .ok (.iload 4, 2) := by decide +kernel
theorem dX9_setPartners_98 : decode cX9_setPartners 98 = .ok (.if_icmp .ne 7, 3) := by decide +kernel
theorem dX9_setPartners_101 : decode cX9_setPartners 101 = .ok (.iconst 1, 1) := by decide +kernel
theorem dX9_setPartners_102 : decode cX9_setPartners 102 = .ok (.goto 4, 3) := by decide +kernel
theorem dX9_setPartners_105 : decode cX9_setPartners 105 = .ok (.iconst 0, 1) := by decide +kernel
theorem dX9_setPartners_106 : decode cX9_setPartners 106 = .ok (.istore_n 3, 1) := by decide +kernel
theorem dX9_setPartners_107 : decode cX9_setPartners 107 = .ok (.iinc 4 1, 3) := by decide +kernel
theorem dX9_setPartners_110 : decode cX9_setPartners 110 = .ok (.goto (-61), 3) := by decide +kernel
theorem dX9_setPartners_113 : decode cX9_setPartners 113 = .ok (.iload_n 3, 1) := by decide +kernel
theorem dX9_setPartners_114 : decode cX9_setPartners 114 = .ok (.ireturn, 1) := by decide +kernel
theorem dX9_couples_0 : decode cX9_couples 0 = .ok (.iload_n 1, 1) := by decide +kernel
theorem dX9_couples_1 : decode cX9_couples 1 = .ok (.iconst (-1), 1) := by decide +kernel
theorem dX9_couples_2 : decode cX9_couples 2 = .ok (.if_icmp .eq 15, 3) := by decide +kernel
theorem dX9_couples_5 : decode cX9_couples 5 = .ok (.aload_n 0, 1) := by decide +kernel
theorem dX9_couples_6 : decode cX9_couples 6 = .ok (.iload_n 1, 1) := by decide +kernel
theorem dX9_couples_7 : decode cX9_couples 7 = .ok (.invokevirtual 324, 3) := by decide +kernel
theorem dX9_couples_10 : decode cX9_couples 10 = .ok (.ifCond .ne 7, 3) := by decide +kernel
theorem dX9_couples_13 : decode cX9_couples 13 = .ok (.ldc_w 320, 3) := by decide +kernel
theorem dX9_couples_16 : decode cX9_couples 16 = .ok (.ireturn, 1) := by decide +kernel
theorem dX9_couples_17 : decode cX9_couples 17 = .ok (.iconst 1, 1) := by decide +kernel
theorem dX9_couples_18 : decode cX9_couples 18 = .ok (.istore_n 2, 1) := by decide +kernel
theorem dX9_couples_19 : decode cX9_couples 19 = .ok (.iconst 0, 1) := by decide +kernel
theorem dX9_couples_20 : decode cX9_couples 20 = .ok (.istore_n 3, 1) := by decide +kernel
theorem dX9_couples_21 : decode cX9_couples 21 = .ok (.iload_n 3, 1) := by decide +kernel
theorem dX9_couples_22 : decode cX9_couples 22 = .ok (.aload_n 0, 1) := by decide +kernel
theorem dX9_couples_23 : decode cX9_couples 23 = .ok (.getfield 130, 3) := by decide +kernel
theorem dX9_couples_26 : decode cX9_couples 26 = .ok (.if_icmp .ge 52, 3) := by decide +kernel
theorem dX9_couples_29 : decode cX9_couples 29 = .ok (.iload_n 2, 1) := by decide +kernel
theorem dX9_couples_30 : decode cX9_couples 30 = .ok (.aload_n 0, 1) := by decide +kernel
theorem dX9_couples_31 : decode cX9_couples 31 = .ok (.getfield 130, 3) := by decide +kernel
theorem dX9_couples_34 : decode cX9_couples 34 = .ok (.iconst 1, 1) := by decide +kernel
theorem dX9_couples_35 : decode cX9_couples 35 = .ok (.iadd, 1) := by decide +kernel
theorem dX9_couples_36 : decode cX9_couples 36 = .ok (.imul, 1) := by decide +kernel
theorem dX9_couples_37 : decode cX9_couples 37 = .ok (.istore_n 2, 1) := by decide +kernel
theorem dX9_couples_38 : decode cX9_couples 38 = .ok (.iconst 0, 1) := by decide +kernel
theorem dX9_couples_39 : decode cX9_couples 39 = .ok (.istore 4, 2) := by decide +kernel
theorem dX9_couples_41 : decode cX9_couples 41 = .ok (.iload 4, 2) := by decide +kernel
theorem dX9_couples_43 : decode cX9_couples 43 = .ok (.iload_n 3, 1) := by decide +kernel
theorem dX9_couples_44 : decode cX9_couples 44 = .ok (.if_icmp .ge 28, 3) := by decide +kernel
theorem dX9_couples_47 : decode cX9_couples 47 = .ok (.aload_n 0, 1) := by decide +kernel
theorem dX9_couples_48 : decode cX9_couples 48 = .ok (.getfield 90, 3) := by decide +kernel
theorem dX9_couples_51 : decode cX9_couples 51 = .ok (.bipush 6, 2) := by decide +kernel
theorem dX9_couples_53 : decode cX9_couples 53 = .ok (.iload_n 3, 1) := by decide +kernel
theorem dX9_couples_54 : decode cX9_couples 54 = .ok (.imul, 1) := by decide +kernel
theorem dX9_couples_55 : decode cX9_couples 55 = .ok (.iload 4, 2) := by decide +kernel
theorem dX9_couples_57 : decode cX9_couples 57 = .ok (.iadd, 1) := by decide +kernel
theorem dX9_couples_58 : decode cX9_couples 58 = .ok (.aload_n 0, 1) := by decide +kernel
theorem dX9_couples_59 : decode cX9_couples 59 = .ok (.iload 4, 2) := by decide +kernel
theorem dX9_couples_61 : decode cX9_couples 61 = .ok (.iload_n 3, 1) := by decide +kernel
theorem dX9_couples_62 : decode cX9_couples 62 = .ok (.invokevirtual 375, 3) := by decide +kernel
theorem dX9_couples_65 : decode cX9_couples 65 = .ok (.iastore, 1) := by decide +kernel
theorem dX9_couples_66 : decode cX9_couples 66 = .ok (.iinc 4 1, 3) := by decide +kernel
theorem dX9_couples_69 : decode cX9_couples 69 = .ok (.goto (-28), 3) := by decide +kernel
theorem dX9_couples_72 : decode cX9_couples 72 = .ok (.iinc 3 1, 3) := by decide +kernel
theorem dX9_couples_75 : decode cX9_couples 75 = .ok (.goto (-54), 3) := by decide +kernel
theorem dX9_couples_78 : decode cX9_couples 78 = .ok (.iconst 0, 1) := by decide +kernel
theorem dX9_couples_79 : decode cX9_couples 79 = .ok (.istore_n 3, 1) := by decide +kernel
theorem dX9_couples_80 : decode cX9_couples 80 = .ok (.iconst 0, 1) := by decide +kernel
theorem dX9_couples_81 : decode cX9_couples 81 = .ok (.istore 4, 2) := by decide +kernel
theorem dX9_couples_83 : decode cX9_couples 83 = .ok (.iconst 0, 1) := by decide +kernel
theorem dX9_couples_84 : decode cX9_couples 84 = .ok (.istore 5, 2) := by decide +kernel
theorem dX9_couples_86 : decode cX9_couples 86 = .ok (.iload 5, 2) := by decide +kernel
theorem dX9_couples_88 : decode cX9_couples 88 = .ok (.iload_n 2, 1) := by decide +kernel
theorem dX9_couples_89 : decode cX9_couples 89 = .ok (.if_icmp .ge 137, 3) := by decide +kernel
theorem dX9_couples_92 : decode cX9_couples 92 = .ok (.aload_n 0, 1) := by decide +kernel
theorem dX9_couples_93 : decode cX9_couples 93 = .ok (.iload 5, 2) := by decide +kernel
theorem dX9_couples_95 : decode cX9_couples 95 = .ok (.invokevirtual 378, 3) := by decide +kernel
theorem dX9_couples_98 : decode cX9_couples 98 = .ok (.ifCond .eq 122, 3) := by decide +kernel
theorem dX9_couples_101 : decode cX9_couples 101 = .ok (.iconst 0, 1) := by decide +kernel
theorem dX9_couples_102 : decode cX9_couples 102 = .ok (.istore 6, 2) := by decide +kernel
theorem dX9_couples_104 : decode cX9_couples 104 = .ok (.iconst 0, 1) := by decide +kernel
theorem dX9_couples_105 : decode cX9_couples 105 = .ok (.istore 7, 2) := by decide +kernel
theorem dX9_couples_107 : decode cX9_couples 107 = .ok (.iload 7, 2) := by decide +kernel
theorem dX9_couples_109 : decode cX9_couples 109 = .ok (.aload_n 0, 1) := by decide +kernel
theorem dX9_couples_110 : decode cX9_couples 110 = .ok (.getfield 130, 3) := by decide +kernel
theorem dX9_couples_113 : decode cX9_couples 113 = .ok (.if_icmp .ge 58, 3) := by decide +kernel
theorem dX9_couples_116 : decode cX9_couples 116 = .ok (.iload 6, 2) := by decide +kernel
theorem dX9_couples_118 : decode cX9_couples 118 = .ok (.aload_n 0, 1) := by decide +kernel
theorem dX9_couples_119 : decode cX9_couples 119 = .ok (.getfield 93, 3) := by decide +kernel
theorem dX9_couples_122 : decode cX9_couples 122 = .ok (.iload 7, 2) := by decide +kernel
theorem dX9_couples_124 : decode cX9_couples 124 = .ok (.iaload, 1) := by decide +kernel
theorem dX9_couples_125 : decode cX9_couples 125 = .ok (.ifCond .lt 36, 3) := by decide +kernel
theorem dX9_couples_128 : decode cX9_couples 128 = .ok (.aload_n 0, 1) := by decide +kernel
theorem dX9_couples_129 : decode cX9_couples 129 = .ok (.getfield 93, 3) := by decide +kernel
theorem dX9_couples_132 : decode cX9_couples 132 = .ok (.iload 7, 2) := by decide +kernel
theorem dX9_couples_134 : decode cX9_couples 134 = .ok (.iaload, 1) := by decide +kernel
theorem dX9_couples_135 : decode cX9_couples 135 = .ok (.iload 7, 2) := by decide +kernel
theorem dX9_couples_137 : decode cX9_couples 137 = .ok (.if_icmp .ge 24, 3) := by decide +kernel
theorem dX9_couples_140 : decode cX9_couples 140 = .ok (.aload_n 0, 1) := by decide +kernel
theorem dX9_couples_141 : decode cX9_couples 141 = .ok (.getfield 90, 3) := by decide +kernel
theorem dX9_couples_144 : decode cX9_couples 144 = .ok (.bipush 6, 2) := by decide +kernel
theorem dX9_couples_146 : decode cX9_couples 146 = .ok (.iload 7, 2) := by decide +kernel
theorem dX9_couples_148 : decode cX9_couples 148 = .ok (.imul, 1) := by decide +kernel
theorem dX9_couples_149 : decode cX9_couples 149 = .ok (.aload_n 0, 1) := by decide +kernel
theorem dX9_couples_150 : decode cX9_couples 150 = .ok (.getfield 93, 3) := by decide +kernel
theorem dX9_couples_153 : decode cX9_couples 153 = .ok (.iload 7, 2) := by decide +kernel
theorem dX9_couples_155 : decode cX9_couples 155 = .ok (.iaload, 1) := by decide +kernel
theorem dX9_couples_156 : decode cX9_couples 156 = .ok (.iadd, 1) := by decide +kernel
theorem dX9_couples_157 : decode cX9_couples 157 = .ok (.iaload, 1) := by decide +kernel
theorem dX9_couples_158 : decode cX9_couples 158 = .ok (.goto 4, 3) := by decide +kernel
theorem dX9_couples_161 : decode cX9_couples 161 = .ok (.iconst 0, 1) := by decide +kernel
theorem dX9_couples_162 : decode cX9_couples 162 = .ok (.iadd, 1) := by decide +kernel
theorem dX9_couples_163 : decode cX9_couples 163 = .ok (.istore 6, 2) := by decide +kernel
theorem dX9_couples_165 : decode cX9_couples 165 = .ok (.iinc 7 1, 3) := by decide +kernel
theorem dX9_couples_168 : decode cX9_couples 168 = .ok (.goto (-61), 3) := by decide +kernel
theorem dX9_couples_171 : decode cX9_couples 171 = .ok (.iload_n 3, 1) := by decide +kernel
theorem dX9_couples_172 : decode cX9_couples 172 = .ok (.ifCond .eq 10, 3) := by decide +kernel
theorem dX9_couples_175 : decode cX9_couples 175 = .ok (.iload 6, 2) := by decide +kernel
theorem dX9_couples_177 : decode cX9_couples 177 = .ok (.iload 4, 2) := by decide +kernel
theorem dX9_couples_179 : decode cX9_couples 179 = .ok (.if_icmp .le 41, 3) := by decide +kernel
theorem dX9_couples_182 : decode cX9_couples 182 = .ok (.iconst 1, 1) := by decide +kernel
theorem dX9_couples_183 : decode cX9_couples 183 = .ok (.istore_n 3, 1) := by decide +kernel
theorem dX9_couples_184 : decode cX9_couples 184 = .ok (.iload 6, 2) := by decide +kernel
theorem dX9_couples_186 : decode cX9_couples 186 = .ok (.istore 4, 2) := by decide +kernel
theorem dX9_couples_188 : decode cX9_couples 188 = .ok (.iconst 0, 1) := by decide +kernel
theorem dX9_couples_189 : decode cX9_couples 189 = .ok (.istore 7, 2) := by decide +kernel
theorem dX9_couples_191 : decode cX9_couples 191 = .ok (.iload 7, 2) := by decide +kernel
theorem dX9_couples_193 : decode cX9_couples 193 = .ok (.aload_n 0, 1) := by decide +kernel
theorem dX9_couples_194 : decode cX9_couples 194 = .ok (.getfield 130, 3) := by decide +kernel
theorem dX9_couples_197 : decode cX9_couples 197 = .ok (.if_icmp .ge 23, 3) := by decide +kernel
theorem dX9_couples_200 : decode cX9_couples 200 = .ok (.aload_n 0, 1) := by decide +kernel
theorem dX9_couples_201 : decode cX9_couples 201 = .ok (.getfield 96, 3) := by decide +kernel
theorem dX9_couples_204 : decode cX9_couples 204 = .ok (.iload 7, 2) := by decide +kernel
theorem dX9_couples_206 : decode cX9_couples 206 = .ok (.aload_n 0, 1) := by decide +kernel
theorem dX9_couples_207 : decode cX9_couples 207 = .ok (.getfield 93, 3) := by decide +kernel
theorem dX9_couples_210 : decode cX9_couples 210 = .ok (.iload 7, 2) := by decide +kernel
theorem dX9_couples_212 : decode cX9_couples 212 = .ok (.iaload, 1) := by decide +kernel
theorem dX9_couples_213 : decode cX9_couples 213 = .ok (.iastore, 1) := by decide +kernel
theorem dX9_couples_214 : decode cX9_couples 214 = .ok (.iinc 7 1, 3) := by decide +kernel
theorem dX9_couples_217 : decode cX9_couples 217 = .ok (.goto (-26), 3) := by decide +kernel
theorem dX9_couples_220 : decode cX9_couples 220 = .ok (.iinc 5 1, 3) := by decide +kernel
theorem dX9_couples_223 : decode cX9_couples 223 = .ok (.goto (-137), 3) := by decide +kernel
theorem dX9_couples_226 : decode cX9_couples 226 = .ok (.iload_n 1, 1) := by decide +kernel
theorem dX9_couples_227 : decode cX9_couples 227 = .ok (.iconst (-1), 1) := by decide +kernel
theorem dX9_couples_228 : decode cX9_couples 228 = .ok (.if_icmp .ne 8, 3) := by decide +kernel
theorem dX9_couples_231 : decode cX9_couples 231 = .ok (.iload 4, 2) := by decide +kernel
theorem dX9_couples_233 : decode cX9_couples 233 = .ok (.goto 9, 3) := by decide +kernel
theorem dX9_couples_236 : decode cX9_couples 236 = .ok (.aload_n 0, 1) := by decide +kernel
theorem dX9_couples_237 : decode cX9_couples 237 = .ok (.getfield 96, 3) := by decide +kernel
theorem dX9_couples_240 : decode cX9_couples 240 = .ok (.iload_n 1, 1) := by decide +kernel
theorem dX9_couples_241 : decode cX9_couples 241 = .ok (.iaload, 1) := by decide +kernel
theorem dX9_couples_242 : decode cX9_couples 242 = .ok (.ireturn, 1) := by decide +kernel
theorem dX9_isFree_0 : decode cX9_isFree 0 = .ok (.aload_n 0, 1) := by decide +kernel
theorem dX9_isFree_1 : decode cX9_isFree 1 = .ok (.getfield 7, 3) := by decide +kernel
theorem dX9_isFree_4 : decode cX9_isFree 4 = .ok (.iload_n 1, 1) := by decide +kernel
theorem dX9_isFree_5 : decode cX9_isFree 5 = .ok (.iaload, 1) := by decide +kernel
theorem dX9_isFree_6 : decode cX9_isFree 6 = .ok (.ifCond .ne 15, 3) := by decide +kernel
theorem dX9_isFree_9 : decode cX9_isFree 9 = .ok (.aload_n 0, 1) := by decide +kernel
theorem dX9_isFree_10 : decode cX9_isFree 10 = .ok (.iload_n 1, 1) := by decide +kernel
theorem dX9_isFree_11 : decode cX9_isFree 11 = .ok (.invokevirtual 336, 3) := by decide +kernel
theorem dX9_isFree_14 : decode cX9_isFree 14 = .ok (.ifCond .ne 7, 3) := by decide +kernel
theorem dX9_isFree_17 : decode cX9_isFree 17 = .ok (.iconst 1, 1) := by decide +kernel
theorem dX9_isFree_18 : decode cX9_isFree 18 = .ok (.goto 4, 3) := by decide +kernel
theorem dX9_isFree_21 : decode cX9_isFree 21 = .ok (.iconst 0, 1) := by decide +kernel
theorem dX9_isFree_22 : decode cX9_isFree 22 = .ok (.ireturn, 1) := by decide +kernel
theorem dX9_wall_0 : decode cX9_wall 0 = .ok (.aload_n 0, 1) := by decide +kernel
theorem dX9_wall_1 : decode cX9_wall 1 = .ok (.iload_n 1, 1) := by decide +kernel
theorem dX9_wall_2 : decode cX9_wall 2 = .ok (.iload_n 2, 1) := by decide +kernel
theorem dX9_wall_3 : decode cX9_wall 3 = .ok (.invokevirtual 267, 3) := by decide +kernel
theorem dX9_wall_6 : decode cX9_wall 6 = .ok (.ifCond .ne 7, 3) := by decide +kernel
theorem dX9_wall_9 : decode cX9_wall 9 = .ok (.ldc_w 320, 3) := by decide +kernel
theorem dX9_wall_12 : decode cX9_wall 12 = .ok (.ireturn, 1) := by decide +kernel
theorem dX9_wall_13 : decode cX9_wall 13 = .ok (.iload_n 3, 1) := by decide +kernel
theorem dX9_wall_14 : decode cX9_wall 14 = .ok (.i2l, 1) := by decide +kernel
theorem dX9_wall_15 : decode cX9_wall 15 = .ok (.lconst 1, 1) := by decide +kernel
theorem dX9_wall_16 : decode cX9_wall 16 = .ok (.ldc2_w 334, 3) := by decide +kernel
theorem dX9_wall_19 : decode cX9_wall 19 = .ok (.invokestatic 123, 3) := by decide +kernel
theorem dX9_wall_22 : decode cX9_wall 22 = .ok (.ifCond .ne 6, 3) := by decide +kernel
theorem dX9_wall_25 : decode cX9_wall 25 = .ok (.ldc 138, 2) := by decide +kernel
theorem dX9_wall_27 : decode cX9_wall 27 = .ok (.ireturn, 1) := by decide +kernel
theorem dX9_wall_28 : decode cX9_wall 28 = .ok (.aload_n 0, 1) := by decide +kernel
theorem dX9_wall_29 : decode cX9_wall 29 = .ok (.getfield 120, 3) := by decide +kernel
theorem dX9_wall_32 : decode cX9_wall 32 = .ok (.iload_n 2, 1) := by decide +kernel
theorem dX9_wall_33 : decode cX9_wall 33 = .ok (.imul, 1) := by decide +kernel
theorem dX9_wall_34 : decode cX9_wall 34 = .ok (.iload_n 1, 1) := by decide +kernel
theorem dX9_wall_35 : decode cX9_wall 35 = .ok (.iadd, 1) := by decide +kernel
theorem dX9_wall_36 : decode cX9_wall 36 = .ok (.istore 4, 2) := by decide +kernel
theorem dX9_wall_38 : decode cX9_wall 38 = .ok (.aload_n 0, 1) := by decide +kernel
theorem dX9_wall_39 : decode cX9_wall 39 = .ok (.iload 4, 2) := by decide +kernel
theorem dX9_wall_41 : decode cX9_wall 41 = .ok (.invokevirtual 381, 3) := by decide +kernel
theorem dX9_wall_44 : decode cX9_wall 44 = .ok (.ifCond .ne 7, 3) := by decide +kernel
theorem dX9_wall_47 : decode cX9_wall 47 = .ok (.ldc_w 330, 3) := by decide +kernel
theorem dX9_wall_50 : decode cX9_wall 50 = .ok (.ireturn, 1) := by decide +kernel
theorem dX9_wall_51 : decode cX9_wall 51 = .ok (.aload_n 0, 1) := by decide +kernel
theorem dX9_wall_52 : decode cX9_wall 52 = .ok (.invokevirtual 311, 3) := by decide +kernel
theorem dX9_wall_55 : decode cX9_wall 55 = .ok (.istore 5, 2) := by decide +kernel
theorem dX9_wall_57 : decode cX9_wall 57 = .ok (.aload_n 0, 1) := by decide +kernel
theorem dX9_wall_58 : decode cX9_wall 58 = .ok (.getfield 7, 3) := by decide +kernel
theorem dX9_wall_61 : decode cX9_wall 61 = .ok (.iload 4, 2) := by decide +kernel
theorem dX9_wall_63 : decode cX9_wall 63 = .ok (.iload_n 3, 1) := by decide +kernel
theorem dX9_wall_64 : decode cX9_wall 64 = .ok (.iastore, 1) := by decide +kernel
theorem dX9_wall_65 : decode cX9_wall 65 = .ok (.aload_n 0, 1) := by decide +kernel
theorem dX9_wall_66 : decode cX9_wall 66 = .ok (.invokevirtual 311, 3) := by decide +kernel
theorem dX9_wall_69 : decode cX9_wall 69 = .ok (.istore 6, 2) := by decide +kernel
theorem dX9_wall_71 : decode cX9_wall 71 = .ok (.aload_n 0, 1) := by decide +kernel
theorem dX9_wall_72 : decode cX9_wall 72 = .ok (.getfield 7, 3) := by decide +kernel
theorem dX9_wall_75 : decode cX9_wall 75 = .ok (.iload 4, 2) := by decide +kernel
theorem dX9_wall_77 : decode cX9_wall 77 = .ok (.iconst 0, 1) := by decide +kernel
theorem dX9_wall_78 : decode cX9_wall 78 = .ok (.iastore, 1) := by decide +kernel
theorem dX9_wall_79 : decode cX9_wall 79 = .ok (.iload 5, 2) := by decide +kernel
theorem dX9_wall_81 : decode cX9_wall 81 = .ok (.iload 6, 2) := by decide +kernel
theorem dX9_wall_83 : decode cX9_wall 83 = .ok (.isub, 1) := by decide +kernel
theorem dX9_wall_84 : decode cX9_wall 84 = .ok (.ireturn, 1) := by decide +kernel
theorem dX9_bestWall_0 : decode cX9_bestWall 0 = .ok (.aload_n 0, 1) := by decide +kernel
theorem dX9_bestWall_1 : decode cX9_bestWall 1 = .ok (.iload_n 2, 1) := by decide +kernel
theorem dX9_bestWall_2 : decode cX9_bestWall 2 = .ok (.invokevirtual 324, 3) := by decide +kernel
theorem dX9_bestWall_5 : decode cX9_bestWall 5 = .ok (.ifCond .ne 7, 3) := by decide +kernel
theorem dX9_bestWall_8 : decode cX9_bestWall 8 = .ok (.ldc_w 320, 3) := by decide +kernel
theorem dX9_bestWall_11 : decode cX9_bestWall 11 = .ok (.ireturn, 1) := by decide +kernel
theorem dX9_bestWall_12 : decode cX9_bestWall 12 = .ok (.iload_n 1, 1) := by decide +kernel
theorem dX9_bestWall_13 : decode cX9_bestWall 13 = .ok (.i2l, 1) := by decide +kernel
theorem dX9_bestWall_14 : decode cX9_bestWall 14 = .ok (.lconst 1, 1) := by decide +kernel
theorem dX9_bestWall_15 : decode cX9_bestWall 15 = .ok (.ldc2_w 334, 3) := by decide +kernel
theorem dX9_bestWall_18 : decode cX9_bestWall 18 = .ok (.invokestatic 123, 3) := by decide +kernel
theorem dX9_bestWall_21 : decode cX9_bestWall 21 = .ok (.ifCond .eq 13, 3) := by decide +kernel
theorem dX9_bestWall_24 : decode cX9_bestWall 24 = .ok (.iload_n 3, 1) := by decide +kernel
theorem dX9_bestWall_25 : decode cX9_bestWall 25 = .ok (.i2l, 1) := by decide +kernel
theorem dX9_bestWall_26 : decode cX9_bestWall 26 = .ok (.lconst 0, 1) := by decide +kernel
theorem dX9_bestWall_27 : decode cX9_bestWall 27 = .ok (.lconst 1, 1) := by decide +kernel
theorem dX9_bestWall_28 : decode cX9_bestWall 28 = .ok (.invokestatic 123, 3) := by decide +kernel
theorem dX9_bestWall_31 : decode cX9_bestWall 31 = .ok (.ifCond .ne 6, 3) := by decide +kernel
theorem dX9_bestWall_34 : decode cX9_bestWall 34 = .ok (.ldc 138, 2) := by decide +kernel
theorem dX9_bestWall_36 : decode cX9_bestWall 36 = .ok (.ireturn, 1) := by decide +kernel
theorem dX9_bestWall_37 : decode cX9_bestWall 37 = .ok (.iconst (-1), 1) := by decide +kernel
theorem dX9_bestWall_38 : decode cX9_bestWall 38 = .ok (.istore 4, 2) := by decide +kernel
theorem dX9_bestWall_40 : decode cX9_bestWall 40 = .ok (.iconst 0, 1) := by decide +kernel
theorem dX9_bestWall_41 : decode cX9_bestWall 41 = .ok (.istore 5, 2) := by decide +kernel
theorem dX9_bestWall_43 : decode cX9_bestWall 43 = .ok (.iconst 0, 1) := by decide +kernel
theorem dX9_bestWall_44 : decode cX9_bestWall 44 = .ok (.istore 6, 2) := by decide +kernel
theorem dX9_bestWall_46 : decode cX9_bestWall 46 = .ok (.iload 6, 2) := by decide +kernel
theorem dX9_bestWall_48 : decode cX9_bestWall 48 = .ok (.aload_n 0, 1) := by decide +kernel
theorem dX9_bestWall_49 : decode cX9_bestWall 49 = .ok (.invokevirtual 264, 3) := by decide +kernel
theorem dX9_bestWall_52 : decode cX9_bestWall 52 = .ok (.if_icmp .ge 99, 3) := by decide +kernel
theorem dX9_bestWall_55 : decode cX9_bestWall 55 = .ok (.aload_n 0, 1) := by decide +kernel
theorem dX9_bestWall_56 : decode cX9_bestWall 56 = .ok (.iload 6, 2) := by decide +kernel
theorem dX9_bestWall_58 : decode cX9_bestWall 58 = .ok (.invokevirtual 381, 3) := by decide +kernel
theorem dX9_bestWall_61 : decode cX9_bestWall 61 = .ok (.ifCond .eq 84, 3) := by decide +kernel
theorem dX9_bestWall_64 : decode cX9_bestWall 64 = .ok (.aload_n 0, 1) := by decide +kernel
theorem dX9_bestWall_65 : decode cX9_bestWall 65 = .ok (.getfield 7, 3) := by decide +kernel
theorem dX9_bestWall_68 : decode cX9_bestWall 68 = .ok (.iload 6, 2) := by decide +kernel
theorem dX9_bestWall_70 : decode cX9_bestWall 70 = .ok (.iload_n 1, 1) := by decide +kernel
theorem dX9_bestWall_71 : decode cX9_bestWall 71 = .ok (.iastore, 1) := by decide +kernel
theorem dX9_bestWall_72 : decode cX9_bestWall 72 = .ok (.iload_n 3, 1) := by decide +kernel
theorem dX9_bestWall_73 : decode cX9_bestWall 73 = .ok (.ifCond .ne 10, 3) := by decide +kernel
theorem dX9_bestWall_76 : decode cX9_bestWall 76 = .ok (.aload_n 0, 1) := by decide +kernel
theorem dX9_bestWall_77 : decode cX9_bestWall 77 = .ok (.invokevirtual 311, 3) := by decide +kernel
theorem dX9_bestWall_80 : decode cX9_bestWall 80 = .ok (.goto 8, 3) := by decide +kernel
theorem dX9_bestWall_83 : decode cX9_bestWall 83 = .ok (.aload_n 0, 1) := by decide +kernel
theorem dX9_bestWall_84 : decode cX9_bestWall 84 = .ok (.iload_n 2, 1) := by decide +kernel
theorem dX9_bestWall_85 : decode cX9_bestWall 85 = .ok (.invokevirtual 308, 3) := by decide +kernel
theorem dX9_bestWall_88 : decode cX9_bestWall 88 = .ok (.istore 7, 2) := by decide +kernel
theorem dX9_bestWall_90 : decode cX9_bestWall 90 = .ok (.aload_n 0, 1) := by decide +kernel
theorem dX9_bestWall_91 : decode cX9_bestWall 91 = .ok (.getfield 7, 3) := by decide +kernel
theorem dX9_bestWall_94 : decode cX9_bestWall 94 = .ok (.iload 6, 2) := by decide +kernel
theorem dX9_bestWall_96 : decode cX9_bestWall 96 = .ok (.iconst 0, 1) := by decide +kernel
theorem dX9_bestWall_97 : decode cX9_bestWall 97 = .ok (.iastore, 1) := by decide +kernel
theorem dX9_bestWall_98 : decode cX9_bestWall 98 = .ok (.iload 4, 2) := by decide +kernel
theorem dX9_bestWall_100 : decode cX9_bestWall 100 = .ok (.ifCond .lt 10, 3) := by decide +kernel
theorem dX9_bestWall_103 : decode cX9_bestWall 103 = .ok (.iload 7, 2) := by decide +kernel
theorem dX9_bestWall_105 : decode cX9_bestWall 105 = .ok (.iload 5, 2) := by decide +kernel
theorem dX9_bestWall_107 : decode cX9_bestWall 107 = .ok (.if_icmp .ge 7, 3) := by decide +kernel
theorem dX9_bestWall_110 : decode cX9_bestWall 110 = .ok (.iconst 1, 1) := by decide +kernel
theorem dX9_bestWall_111 : decode cX9_bestWall 111 = .ok (.goto 4, 3) := by decide +kernel
theorem dX9_bestWall_114 : decode cX9_bestWall 114 = .ok (.iconst 0, 1) := by decide +kernel
theorem dX9_bestWall_115 : decode cX9_bestWall 115 = .ok (.istore 8, 2) := by decide +kernel
theorem dX9_bestWall_117 : decode cX9_bestWall 117 = .ok (.iload 8, 2) := by decide +kernel
theorem dX9_bestWall_119 : decode cX9_bestWall 119 = .ok (.ifCond .eq 8, 3) := by decide +kernel
theorem dX9_bestWall_122 : decode cX9_bestWall 122 = .ok (.iload 6, 2) := by decide +kernel
theorem dX9_bestWall_124 : decode cX9_bestWall 124 = .ok (.goto 5, 3) := by decide +kernel
theorem dX9_bestWall_127 : decode cX9_bestWall 127 = .ok (.iload 4, 2) := by decide +kernel
theorem dX9_bestWall_129 : decode cX9_bestWall 129 = .ok (.istore 4, 2) := by decide +kernel
theorem dX9_bestWall_131 : decode cX9_bestWall 131 = .ok (.iload 8, 2) := by decide +kernel
theorem dX9_bestWall_133 : decode cX9_bestWall 133 = .ok (.ifCond .eq 8, 3) := by decide +kernel
theorem dX9_bestWall_136 : decode cX9_bestWall 136 = .ok (.iload 7, 2) := by decide +kernel
theorem dX9_bestWall_138 : decode cX9_bestWall 138 = .ok (.goto 5, 3) := by decide +kernel
theorem dX9_bestWall_141 : decode cX9_bestWall 141 = .ok (.iload 5, 2) := by decide +kernel
theorem dX9_bestWall_143 : decode cX9_bestWall 143 = .ok (.istore 5, 2) := by decide +kernel
theorem dX9_bestWall_145 : decode cX9_bestWall 145 = .ok (.iinc 6 1, 3) := by decide +kernel
theorem dX9_bestWall_148 : decode cX9_bestWall 148 = .ok (.goto (-102), 3) := by decide +kernel
theorem dX9_bestWall_151 : decode cX9_bestWall 151 = .ok (.iload 4, 2) := by decide +kernel
theorem dX9_bestWall_153 : decode cX9_bestWall 153 = .ok (.ifCond .ge 7, 3) := by decide +kernel
theorem dX9_bestWall_156 : decode cX9_bestWall 156 = .ok (.iconst (-1), 1) := by decide +kernel
theorem dX9_bestWall_157 : decode cX9_bestWall 157 = .ok (.goto 9, 3) := by decide +kernel
theorem dX9_bestWall_160 : decode cX9_bestWall 160 = .ok (.aload_n 0, 1) := by decide +kernel
theorem dX9_bestWall_161 : decode cX9_bestWall 161 = .ok (.iload 4, 2) := by decide +kernel
theorem dX9_bestWall_163 : decode cX9_bestWall 163 = .ok (.invokevirtual 331, 3) := by decide +kernel
theorem dX9_bestWall_166 : decode cX9_bestWall 166 = .ok (.ireturn, 1) := by decide +kernel
theorem dX9_richest_0 : decode cX9_richest 0 = .ok (.iload_n 1, 1) := by decide +kernel
theorem dX9_richest_1 : decode cX9_richest 1 = .ok (.i2l, 1) := by decide +kernel
theorem dX9_richest_2 : decode cX9_richest 2 = .ok (.lconst 0, 1) := by decide +kernel
theorem dX9_richest_3 : decode cX9_richest 3 = .ok (.lconst 1, 1) := by decide +kernel
theorem dX9_richest_4 : decode cX9_richest 4 = .ok (.invokestatic 123, 3) := by decide +kernel
theorem dX9_richest_7 : decode cX9_richest 7 = .ok (.ifCond .ne 6, 3) := by decide +kernel
theorem dX9_richest_10 : decode cX9_richest 10 = .ok (.ldc 138, 2) := by decide +kernel
theorem dX9_richest_12 : decode cX9_richest 12 = .ok (.ireturn, 1) := by decide +kernel
theorem dX9_richest_13 : decode cX9_richest 13 = .ok (.iconst (-1), 1) := by decide +kernel
theorem dX9_richest_14 : decode cX9_richest 14 = .ok (.istore_n 2, 1) := by decide +kernel
theorem dX9_richest_15 : decode cX9_richest 15 = .ok (.iconst 0, 1) := by decide +kernel
theorem dX9_richest_16 : decode cX9_richest 16 = .ok (.istore_n 3, 1) := by decide +kernel
theorem dX9_richest_17 : decode cX9_richest 17 = .ok (.iconst 0, 1) := by decide +kernel
theorem dX9_richest_18 : decode cX9_richest 18 = .ok (.istore 4, 2) := by decide +kernel
theorem dX9_richest_20 : decode cX9_richest 20 = .ok (.iload 4, 2) := by decide +kernel
theorem dX9_richest_22 : decode cX9_richest 22 = .ok (.aload_n 0, 1) := by decide +kernel
theorem dX9_richest_23 : decode cX9_richest 23 = .ok (.getfield 133, 3) := by decide +kernel
theorem dX9_richest_26 : decode cX9_richest 26 = .ok (.if_icmp .ge 84, 3) := by decide +kernel
theorem dX9_richest_29 : decode cX9_richest 29 = .ok (.iconst 0, 1) := by decide +kernel
theorem dX9_richest_30 : decode cX9_richest 30 = .ok (.istore 5, 2) := by decide +kernel
theorem dX9_richest_32 : decode cX9_richest 32 = .ok (.iconst 0, 1) := by decide +kernel
theorem dX9_richest_33 : decode cX9_richest 33 = .ok (.istore 6, 2) := by decide +kernel
theorem dX9_richest_35 : decode cX9_richest 35 = .ok (.iload 6, 2) := by decide +kernel
theorem dX9_richest_37 : decode cX9_richest 37 = .ok (.aload_n 0, 1) := by decide +kernel
theorem dX9_richest_38 : decode cX9_richest 38 = .ok (.getfield 130, 3) := by decide +kernel
theorem dX9_richest_41 : decode cX9_richest 41 = .ok (.if_icmp .ge 22, 3) := by decide +kernel
theorem dX9_richest_44 : decode cX9_richest 44 = .ok (.iload 5, 2) := by decide +kernel
theorem dX9_richest_46 : decode cX9_richest 46 = .ok (.aload_n 0, 1) := by decide +kernel
theorem dX9_richest_47 : decode cX9_richest 47 = .ok (.iload 6, 2) := by decide +kernel
theorem dX9_richest_49 : decode cX9_richest 49 = .ok (.iload 4, 2) := by decide +kernel
theorem dX9_richest_51 : decode cX9_richest 51 = .ok (.invokevirtual 305, 3) := by decide +kernel
theorem dX9_richest_54 : decode cX9_richest 54 = .ok (.iadd, 1) := by decide +kernel
theorem dX9_richest_55 : decode cX9_richest 55 = .ok (.istore 5, 2) := by decide +kernel
theorem dX9_richest_57 : decode cX9_richest 57 = .ok (.iinc 6 1, 3) := by decide +kernel
theorem dX9_richest_60 : decode cX9_richest 60 = .ok (.goto (-25), 3) := by decide +kernel
theorem dX9_richest_63 : decode cX9_richest 63 = .ok (.iload_n 2, 1) := by decide +kernel
theorem dX9_richest_64 : decode cX9_richest 64 = .ok (.ifCond .lt 9, 3) := by decide +kernel
theorem dX9_richest_67 : decode cX9_richest 67 = .ok (.iload 5, 2) := by decide +kernel
theorem dX9_richest_69 : decode cX9_richest 69 = .ok (.iload_n 3, 1) := by decide +kernel
theorem dX9_richest_70 : decode cX9_richest 70 = .ok (.if_icmp .le 7, 3) := by decide +kernel
theorem dX9_richest_73 : decode cX9_richest 73 = .ok (.iconst 1, 1) := by decide +kernel
theorem dX9_richest_74 : decode cX9_richest 74 = .ok (.goto 4, 3) := by decide +kernel
theorem dX9_richest_77 : decode cX9_richest 77 = .ok (.iconst 0, 1) := by decide +kernel
theorem dX9_richest_78 : decode cX9_richest 78 = .ok (.istore 6, 2) := by decide +kernel
theorem dX9_richest_80 : decode cX9_richest 80 = .ok (.iload 6, 2) := by decide +kernel
theorem dX9_richest_82 : decode cX9_richest 82 = .ok (.ifCond .eq 8, 3) := by decide +kernel
theorem dX9_richest_85 : decode cX9_richest 85 = .ok (.iload 4, 2) := by decide +kernel
theorem dX9_richest_87 : decode cX9_richest 87 = .ok (.goto 4, 3) := by decide +kernel
theorem dX9_richest_90 : decode cX9_richest 90 = .ok (.iload_n 2, 1) := by decide +kernel
theorem dX9_richest_91 : decode cX9_richest 91 = .ok (.istore_n 2, 1) := by decide +kernel
theorem dX9_richest_92 : decode cX9_richest 92 = .ok (.iload 6, 2) := by decide +kernel
theorem dX9_richest_94 : decode cX9_richest 94 = .ok (.ifCond .eq 8, 3) := by decide +kernel
theorem dX9_richest_97 : decode cX9_richest 97 = .ok (.iload 5, 2) := by decide +kernel
theorem dX9_richest_99 : decode cX9_richest 99 = .ok (.goto 4, 3) := by decide +kernel
theorem dX9_richest_102 : decode cX9_richest 102 = .ok (.iload_n 3, 1) := by decide +kernel
theorem dX9_richest_103 : decode cX9_richest 103 = .ok (.istore_n 3, 1) := by decide +kernel
theorem dX9_richest_104 : decode cX9_richest 104 = .ok (.iinc 4 1, 3) := by decide +kernel
theorem dX9_richest_107 : decode cX9_richest 107 = .ok (.goto (-87), 3) := by decide +kernel
theorem dX9_richest_110 : decode cX9_richest 110 = .ok (.iload_n 2, 1) := by decide +kernel
theorem dX9_richest_111 : decode cX9_richest 111 = .ok (.ifCond .lt 7, 3) := by decide +kernel
theorem dX9_richest_114 : decode cX9_richest 114 = .ok (.iload_n 1, 1) := by decide +kernel
theorem dX9_richest_115 : decode cX9_richest 115 = .ok (.ifCond .ne 7, 3) := by decide +kernel
theorem dX9_richest_118 : decode cX9_richest 118 = .ok (.iload_n 2, 1) := by decide +kernel
theorem dX9_richest_119 : decode cX9_richest 119 = .ok (.goto 4, 3) := by decide +kernel
theorem dX9_richest_122 : decode cX9_richest 122 = .ok (.iload_n 3, 1) := by decide +kernel
theorem dX9_richest_123 : decode cX9_richest 123 = .ok (.ireturn, 1) := by decide +kernel
theorem dX9_tell_0 : decode cX9_tell 0 = .ok (.aload_n 0, 1) := by decide +kernel
theorem dX9_tell_1 : decode cX9_tell 1 = .ok (.iload_n 1, 1) := by decide +kernel
theorem dX9_tell_2 : decode cX9_tell 2 = .ok (.invokevirtual 317, 3) := by decide +kernel
theorem dX9_tell_5 : decode cX9_tell 5 = .ok (.ifCond .ne 7, 3) := by decide +kernel
theorem dX9_tell_8 : decode cX9_tell 8 = .ok (.ldc_w 320, 3) := by decide +kernel
theorem dX9_tell_11 : decode cX9_tell 11 = .ok (.ireturn, 1) := by decide +kernel
theorem dX9_tell_12 : decode cX9_tell 12 = .ok (.iload_n 2, 1) := by decide +kernel
theorem dX9_tell_13 : decode cX9_tell 13 = .ok (.i2l, 1) := by decide +kernel
theorem dX9_tell_14 : decode cX9_tell 14 = .ok (.lconst 0, 1) := by decide +kernel
theorem dX9_tell_15 : decode cX9_tell 15 = .ok (.ldc2_w 359, 3) := by decide +kernel
theorem dX9_tell_18 : decode cX9_tell 18 = .ok (.invokestatic 123, 3) := by decide +kernel
theorem dX9_tell_21 : decode cX9_tell 21 = .ok (.ifCond .ne 6, 3) := by decide +kernel
theorem dX9_tell_24 : decode cX9_tell 24 = .ok (.ldc 138, 2) := by decide +kernel
theorem dX9_tell_26 : decode cX9_tell 26 = .ok (.ireturn, 1) := by decide +kernel
theorem dX9_tell_27 : decode cX9_tell 27 = .ok (.aload_n 0, 1) := by decide +kernel
theorem dX9_tell_28 : decode cX9_tell 28 = .ok (.getfield 258, 3) := by decide +kernel
theorem dX9_tell_31 : decode cX9_tell 31 = .ok (.bipush 10, 2) := by decide +kernel
theorem dX9_tell_33 : decode cX9_tell 33 = .ok (.if_icmp .ne 6, 3) := by decide +kernel
theorem dX9_tell_36 : decode cX9_tell 36 = .ok (.ldc 142, 2) := by decide +kernel
theorem dX9_tell_38 : decode cX9_tell 38 = .ok (.ireturn, 1) := by decide +kernel
theorem dX9_tell_39 : decode cX9_tell 39 = .ok (.aload_n 0, 1) := by decide +kernel
theorem dX9_tell_40 : decode cX9_tell 40 = .ok (.getfield 99, 3) := by decide +kernel
theorem dX9_tell_43 : decode cX9_tell 43 = .ok (.aload_n 0, 1) := by decide +kernel
theorem dX9_tell_44 : decode cX9_tell 44 = .ok (.getfield 258, 3) := by decide +kernel
theorem dX9_tell_47 : decode cX9_tell 47 = .ok (.iload_n 1, 1) := by decide +kernel
theorem dX9_tell_48 : decode cX9_tell 48 = .ok (.iastore, 1) := by decide +kernel
theorem dX9_tell_49 : decode cX9_tell 49 = .ok (.aload_n 0, 1) := by decide +kernel
theorem dX9_tell_50 : decode cX9_tell 50 = .ok (.getfield 102, 3) := by decide +kernel
theorem dX9_tell_53 : decode cX9_tell 53 = .ok (.aload_n 0, 1) := by decide +kernel
theorem dX9_tell_54 : decode cX9_tell 54 = .ok (.getfield 258, 3) := by decide +kernel
theorem dX9_tell_57 : decode cX9_tell 57 = .ok (.iload_n 2, 1) := by decide +kernel
theorem dX9_tell_58 : decode cX9_tell 58 = .ok (.iastore, 1) := by decide +kernel
theorem dX9_tell_59 : decode cX9_tell 59 = .ok (.aload_n 0, 1) := by decide +kernel
theorem dX9_tell_60 : decode cX9_tell 60 = .ok (.dup, 1) := by decide +kernel
theorem dX9_tell_61 : decode cX9_tell 61 = .ok (.getfield 258, 3) := by decide +kernel
theorem dX9_tell_64 : decode cX9_tell 64 = .ok (.iconst 1, 1) := by decide +kernel
theorem dX9_tell_65 : decode cX9_tell 65 = .ok (.iadd, 1) := by decide +kernel
theorem dX9_tell_66 : decode cX9_tell 66 = .ok (.putfield 258, 3) := by decide +kernel
theorem dX9_tell_69 : decode cX9_tell 69 = .ok (.aload_n 0, 1) := by decide +kernel
theorem dX9_tell_70 : decode cX9_tell 70 = .ok (.getfield 258, 3) := by decide +kernel
theorem dX9_tell_73 : decode cX9_tell 73 = .ok (.ireturn, 1) := by decide +kernel
theorem dX9_isAsTold_0 : decode cX9_isAsTold 0 = .ok (.iconst 1, 1) := by decide +kernel
theorem dX9_isAsTold_1 : decode cX9_isAsTold 1 = .ok (.istore_n 2, 1) := by decide +kernel
theorem dX9_isAsTold_2 : decode cX9_isAsTold 2 = .ok (.iconst 0, 1) := by decide +kernel
theorem dX9_isAsTold_3 : decode cX9_isAsTold 3 = .ok (.istore_n 3, 1) := by decide +kernel
theorem dX9_isAsTold_4 : decode cX9_isAsTold 4 = .ok (.iload_n 3, 1) := by decide +kernel
theorem dX9_isAsTold_5 : decode cX9_isAsTold 5 = .ok (.aload_n 0, 1) := by decide +kernel
theorem dX9_isAsTold_6 : decode cX9_isAsTold 6 = .ok (.getfield 258, 3) := by decide +kernel
theorem dX9_isAsTold_9 : decode cX9_isAsTold 9 = .ok (.if_icmp .ge 39, 3) := by decide +kernel
theorem dX9_isAsTold_12 : decode cX9_isAsTold 12 = .ok (.iload_n 2, 1) := by decide +kernel
theorem dX9_isAsTold_13 : decode cX9_isAsTold 13 = .ok (.ifCond .eq 35, 3) := by decide +kernel
theorem dX9_isAsTold_16 : decode cX9_isAsTold 16 = .ok (.aload_n 0, 1) := by decide +kernel
theorem dX9_isAsTold_17 : decode cX9_isAsTold 17 = .ok (.iload_n 1, 1) := by decide +kernel
theorem dX9_isAsTold_18 : decode cX9_isAsTold 18 = .ok (.aload_n 0, 1) := by decide +kernel
theorem dX9_isAsTold_19 : decode cX9_isAsTold 19 = .ok (.getfield 99, 3) := by decide +kernel
theorem dX9_isAsTold_22 : decode cX9_isAsTold 22 = .ok (.iload_n 3, 1) := by decide +kernel
theorem dX9_isAsTold_23 : decode cX9_isAsTold 23 = .ok (.iaload, 1) := by decide +kernel
theorem dX9_isAsTold_24 : decode cX9_isAsTold 24 = .ok (.invokevirtual 305, 3) := by decide +kernel
theorem dX9_isAsTold_27 : decode cX9_isAsTold 27 = .ok (.aload_n 0, 1) := by decide +kernel
theorem dX9_isAsTold_28 : decode cX9_isAsTold 28 = .ok (.getfield 102, 3) := by decide +kernel
theorem dX9_isAsTold_31 : decode cX9_isAsTold 31 = .ok (.iload_n 3, 1) := by decide +kernel
theorem dX9_isAsTold_32 : decode cX9_isAsTold 32 = .ok (.iaload, 1) := by decide +kernel
theorem dX9_isAsTold_33 : decode cX9_isAsTold 33 = .ok (.if_icmp .ne 7, 3) := by decide +kernel
theorem dX9_isAsTold_36 : decode cX9_isAsTold 36 = .ok (.iconst 1, 1) := by decide +kernel
theorem dX9_isAsTold_37 : decode cX9_isAsTold 37 = .ok (.goto 4, 3) := by decide +kernel
theorem dX9_isAsTold_40 : decode cX9_isAsTold 40 = .ok (.iconst 0, 1) := by decide +kernel
theorem dX9_isAsTold_41 : decode cX9_isAsTold 41 = .ok (.istore_n 2, 1) := by decide +kernel
theorem dX9_isAsTold_42 : decode cX9_isAsTold 42 = .ok (.iinc 3 1, 3) := by decide +kernel
theorem dX9_isAsTold_45 : decode cX9_isAsTold 45 = .ok (.goto (-41), 3) := by decide +kernel
theorem dX9_isAsTold_48 : decode cX9_isAsTold 48 = .ok (.iload_n 2, 1) := by decide +kernel
theorem dX9_isAsTold_49 : decode cX9_isAsTold 49 = .ok (.ireturn, 1) := by decide +kernel
theorem dX9_stood_0 : decode cX9_stood 0 = .ok (.aload_n 0, 1) := by decide +kernel
theorem dX9_stood_1 : decode cX9_stood 1 = .ok (.iload_n 1, 1) := by decide +kernel
theorem dX9_stood_2 : decode cX9_stood 2 = .ok (.invokevirtual 324, 3) := by decide +kernel
theorem dX9_stood_5 : decode cX9_stood 5 = .ok (.ifCond .ne 7, 3) := by decide +kernel
theorem dX9_stood_8 : decode cX9_stood 8 = .ok (.ldc_w 320, 3) := by decide +kernel
theorem dX9_stood_11 : decode cX9_stood 11 = .ok (.ireturn, 1) := by decide +kernel
theorem dX9_stood_12 : decode cX9_stood 12 = .ok (.aload_n 0, 1) := by decide +kernel
theorem dX9_stood_13 : decode cX9_stood 13 = .ok (.getfield 25, 3) := by decide +kernel
theorem dX9_stood_16 : decode cX9_stood 16 = .ok (.iload_n 1, 1) := by decide +kernel
theorem dX9_stood_17 : decode cX9_stood 17 = .ok (.iaload, 1) := by decide +kernel
theorem dX9_stood_18 : decode cX9_stood 18 = .ok (.istore_n 3, 1) := by decide +kernel
theorem dX9_stood_19 : decode cX9_stood 19 = .ok (.iconst 0, 1) := by decide +kernel
theorem dX9_stood_20 : decode cX9_stood 20 = .ok (.istore 4, 2) := by decide +kernel
theorem dX9_stood_22 : decode cX9_stood 22 = .ok (.iconst (-1), 1) := by decide +kernel
theorem dX9_stood_23 : decode cX9_stood 23 = .ok (.istore 5, 2) := by decide +kernel
theorem dX9_stood_25 : decode cX9_stood 25 = .ok (.iconst 0, 1) := by decide +kernel
theorem dX9_stood_26 : decode cX9_stood 26 = .ok (.istore 6, 2) := by decide +kernel
theorem dX9_stood_28 : decode cX9_stood 28 = .ok (.iload 6, 2) := by decide +kernel
theorem dX9_stood_30 : decode cX9_stood 30 = .ok (.aload_n 0, 1) := by decide +kernel
theorem dX9_stood_31 : decode cX9_stood 31 = .ok (.invokevirtual 264, 3) := by decide +kernel
theorem dX9_stood_34 : decode cX9_stood 34 = .ok (.if_icmp .ge 57, 3) := by decide +kernel
theorem dX9_stood_37 : decode cX9_stood 37 = .ok (.aload_n 0, 1) := by decide +kernel
theorem dX9_stood_38 : decode cX9_stood 38 = .ok (.getfield 25, 3) := by decide +kernel
theorem dX9_stood_41 : decode cX9_stood 41 = .ok (.iload_n 1, 1) := by decide +kernel
theorem dX9_stood_42 : decode cX9_stood 42 = .ok (.iload 6, 2) := by decide +kernel
theorem dX9_stood_44 : decode cX9_stood 44 = .ok (.iastore, 1) := by decide +kernel
theorem dX9_stood_45 : decode cX9_stood 45 = .ok (.aload_n 0, 1) := by decide +kernel
theorem dX9_stood_46 : decode cX9_stood 46 = .ok (.getfield 7, 3) := by decide +kernel
theorem dX9_stood_49 : decode cX9_stood 49 = .ok (.iload 6, 2) := by decide +kernel
theorem dX9_stood_51 : decode cX9_stood 51 = .ok (.iaload, 1) := by decide +kernel
theorem dX9_stood_52 : decode cX9_stood 52 = .ok (.ifCond .ne 33, 3) := by decide +kernel
theorem dX9_stood_55 : decode cX9_stood 55 = .ok (.aload_n 0, 1) := by decide +kernel
theorem dX9_stood_56 : decode cX9_stood 56 = .ok (.iload_n 1, 1) := by decide +kernel
theorem dX9_stood_57 : decode cX9_stood 57 = .ok (.invokevirtual 384, 3) := by decide +kernel
theorem dX9_stood_60 : decode cX9_stood 60 = .ok (.ifCond .eq 25, 3) := by decide +kernel
theorem dX9_stood_63 : decode cX9_stood 63 = .ok (.iload 4, 2) := by decide +kernel
theorem dX9_stood_65 : decode cX9_stood 65 = .ok (.iload_n 2, 1) := by decide +kernel
theorem dX9_stood_66 : decode cX9_stood 66 = .ok (.if_icmp .ne 12, 3) := by decide +kernel
theorem dX9_stood_69 : decode cX9_stood 69 = .ok (.aload_n 0, 1) := by decide +kernel
theorem dX9_stood_70 : decode cX9_stood 70 = .ok (.iload 6, 2) := by decide +kernel
theorem dX9_stood_72 : decode cX9_stood 72 = .ok (.invokevirtual 331, 3) := by decide +kernel
theorem dX9_stood_75 : decode cX9_stood 75 = .ok (.goto 5, 3) := by decide +kernel
theorem dX9_stood_78 : decode cX9_stood 78 = .ok (.iload 5, 2) := by decide +kernel
theorem dX9_stood_80 : decode cX9_stood 80 = .ok (.istore 5, 2) := by decide +kernel
theorem dX9_stood_82 : decode cX9_stood 82 = .ok (.iinc 4 1, 3) := by decide +kernel
theorem dX9_stood_85 : decode cX9_stood 85 = .ok (.iinc 6 1, 3) := by decide +kernel
theorem dX9_stood_88 : decode cX9_stood 88 = .ok (.goto (-60), 3) := by decide +kernel
theorem dX9_stood_91 : decode cX9_stood 91 = .ok (.aload_n 0, 1) := by decide +kernel
theorem dX9_stood_92 : decode cX9_stood 92 = .ok (.getfield 25, 3) := by decide +kernel
theorem dX9_stood_95 : decode cX9_stood 95 = .ok (.iload_n 1, 1) := by decide +kernel
theorem dX9_stood_96 : decode cX9_stood 96 = .ok (.iload_n 3, 1) := by decide +kernel
theorem dX9_stood_97 : decode cX9_stood 97 = .ok (.iastore, 1) := by decide +kernel
theorem dX9_stood_98 : decode cX9_stood 98 = .ok (.iload_n 2, 1) := by decide +kernel
theorem dX9_stood_99 : decode cX9_stood 99 = .ok (.iconst (-1), 1) := by decide +kernel
theorem dX9_stood_100 : decode cX9_stood 100 = .ok (.if_icmp .ne 8, 3) := by decide +kernel
theorem dX9_stood_103 : decode cX9_stood 103 = .ok (.iload 4, 2) := by decide +kernel
theorem dX9_stood_105 : decode cX9_stood 105 = .ok (.goto 5, 3) := by decide +kernel
theorem dX9_stood_108 : decode cX9_stood 108 = .ok (.iload 5, 2) := by decide +kernel
theorem dX9_stood_110 : decode cX9_stood 110 = .ok (.ireturn, 1) := by decide +kernel
theorem dX9_write_0 : decode cX9_write 0 = .ok (.aload_n 0, 1) := by decide +kernel
theorem dX9_write_1 : decode cX9_write 1 = .ok (.iload_n 1, 1) := by decide +kernel
theorem dX9_write_2 : decode cX9_write 2 = .ok (.invokevirtual 317, 3) := by decide +kernel
theorem dX9_write_5 : decode cX9_write 5 = .ok (.ifCond .eq 11, 3) := by decide +kernel
theorem dX9_write_8 : decode cX9_write 8 = .ok (.aload_n 0, 1) := by decide +kernel
theorem dX9_write_9 : decode cX9_write 9 = .ok (.iload_n 2, 1) := by decide +kernel
theorem dX9_write_10 : decode cX9_write 10 = .ok (.invokevirtual 324, 3) := by decide +kernel
theorem dX9_write_13 : decode cX9_write 13 = .ok (.ifCond .ne 7, 3) := by decide +kernel
theorem dX9_write_16 : decode cX9_write 16 = .ok (.ldc_w 320, 3) := by decide +kernel
theorem dX9_write_19 : decode cX9_write 19 = .ok (.ireturn, 1) := by decide +kernel
theorem dX9_write_20 : decode cX9_write 20 = .ok (.iload_n 3, 1) := by decide +kernel
theorem dX9_write_21 : decode cX9_write 21 = .ok (.i2l, 1) := by decide +kernel
theorem dX9_write_22 : decode cX9_write 22 = .ok (.lconst 0, 1) := by decide +kernel
theorem dX9_write_23 : decode cX9_write 23 = .ok (.ldc2_w 359, 3) := by decide +kernel
theorem dX9_write_26 : decode cX9_write 26 = .ok (.invokestatic 123, 3) := by decide +kernel
theorem dX9_write_29 : decode cX9_write 29 = .ok (.ifCond .ne 6, 3) := by decide +kernel
theorem dX9_write_32 : decode cX9_write 32 = .ok (.ldc 138, 2) := by decide +kernel
theorem dX9_write_34 : decode cX9_write 34 = .ok (.ireturn, 1) := by decide +kernel
theorem dX9_write_35 : decode cX9_write 35 = .ok (.aload_n 0, 1) := by decide +kernel
theorem dX9_write_36 : decode cX9_write 36 = .ok (.getfield 261, 3) := by decide +kernel
theorem dX9_write_39 : decode cX9_write 39 = .ok (.bipush 30, 2) := by decide +kernel
theorem dX9_write_41 : decode cX9_write 41 = .ok (.if_icmp .ne 6, 3) := by decide +kernel
theorem dX9_write_44 : decode cX9_write 44 = .ok (.ldc 142, 2) := by decide +kernel
theorem dX9_write_46 : decode cX9_write 46 = .ok (.ireturn, 1) := by decide +kernel
theorem dX9_write_47 : decode cX9_write 47 = .ok (.aload_n 0, 1) := by decide +kernel
theorem dX9_write_48 : decode cX9_write 48 = .ok (.getfield 105, 3) := by decide +kernel
theorem dX9_write_51 : decode cX9_write 51 = .ok (.aload_n 0, 1) := by decide +kernel
theorem dX9_write_52 : decode cX9_write 52 = .ok (.getfield 261, 3) := by decide +kernel
theorem dX9_write_55 : decode cX9_write 55 = .ok (.iload_n 1, 1) := by decide +kernel
theorem dX9_write_56 : decode cX9_write 56 = .ok (.iastore, 1) := by decide +kernel
theorem dX9_write_57 : decode cX9_write 57 = .ok (.aload_n 0, 1) := by decide +kernel
theorem dX9_write_58 : decode cX9_write 58 = .ok (.getfield 108, 3) := by decide +kernel
theorem dX9_write_61 : decode cX9_write 61 = .ok (.aload_n 0, 1) := by decide +kernel
theorem dX9_write_62 : decode cX9_write 62 = .ok (.getfield 261, 3) := by decide +kernel
theorem dX9_write_65 : decode cX9_write 65 = .ok (.iload_n 2, 1) := by decide +kernel
theorem dX9_write_66 : decode cX9_write 66 = .ok (.iastore, 1) := by decide +kernel
theorem dX9_write_67 : decode cX9_write 67 = .ok (.aload_n 0, 1) := by decide +kernel
theorem dX9_write_68 : decode cX9_write 68 = .ok (.getfield 111, 3) := by decide +kernel
theorem dX9_write_71 : decode cX9_write 71 = .ok (.aload_n 0, 1) := by decide +kernel
theorem dX9_write_72 : decode cX9_write 72 = .ok (.getfield 261, 3) := by decide +kernel
theorem dX9_write_75 : decode cX9_write 75 = .ok (.iload_n 3, 1) := by decide +kernel
theorem dX9_write_76 : decode cX9_write 76 = .ok (.iastore, 1) := by decide +kernel
theorem dX9_write_77 : decode cX9_write 77 = .ok (.aload_n 0, 1) := by decide +kernel
theorem dX9_write_78 : decode cX9_write 78 = .ok (.dup, 1) := by decide +kernel
theorem dX9_write_79 : decode cX9_write 79 = .ok (.getfield 261, 3) := by decide +kernel
theorem dX9_write_82 : decode cX9_write 82 = .ok (.iconst 1, 1) := by decide +kernel
theorem dX9_write_83 : decode cX9_write 83 = .ok (.iadd, 1) := by decide +kernel
theorem dX9_write_84 : decode cX9_write 84 = .ok (.putfield 261, 3) := by decide +kernel
theorem dX9_write_87 : decode cX9_write 87 = .ok (.aload_n 0, 1) := by decide +kernel
theorem dX9_write_88 : decode cX9_write 88 = .ok (.getfield 261, 3) := by decide +kernel
theorem dX9_write_91 : decode cX9_write 91 = .ok (.ireturn, 1) := by decide +kernel
theorem dX9_tear_0 : decode cX9_tear 0 = .ok (.aload_n 0, 1) := by decide +kernel
theorem dX9_tear_1 : decode cX9_tear 1 = .ok (.getfield 261, 3) := by decide +kernel
theorem dX9_tear_4 : decode cX9_tear 4 = .ok (.aload_n 0, 1) := by decide +kernel
theorem dX9_tear_5 : decode cX9_tear 5 = .ok (.getfield 258, 3) := by decide +kernel
theorem dX9_tear_8 : decode cX9_tear 8 = .ok (.iadd, 1) := by decide +kernel
theorem dX9_tear_9 : decode cX9_tear 9 = .ok (.aload_n 0, 1) := by decide +kernel
theorem dX9_tear_10 : decode cX9_tear 10 = .ok (.getfield 255, 3) := by decide +kernel
theorem dX9_tear_13 : decode cX9_tear 13 = .ok (.iadd, 1) := by decide +kernel
theorem dX9_tear_14 : decode cX9_tear 14 = .ok (.istore_n 1, 1) := by decide +kernel
theorem dX9_tear_15 : decode cX9_tear 15 = .ok (.aload_n 0, 1) := by decide +kernel
theorem dX9_tear_16 : decode cX9_tear 16 = .ok (.iconst 0, 1) := by decide +kernel
theorem dX9_tear_17 : decode cX9_tear 17 = .ok (.putfield 261, 3) := by decide +kernel
theorem dX9_tear_20 : decode cX9_tear 20 = .ok (.aload_n 0, 1) := by decide +kernel
theorem dX9_tear_21 : decode cX9_tear 21 = .ok (.iconst 0, 1) := by decide +kernel
theorem dX9_tear_22 : decode cX9_tear 22 = .ok (.putfield 258, 3) := by decide +kernel
theorem dX9_tear_25 : decode cX9_tear 25 = .ok (.aload_n 0, 1) := by decide +kernel
theorem dX9_tear_26 : decode cX9_tear 26 = .ok (.iconst 0, 1) := by decide +kernel
theorem dX9_tear_27 : decode cX9_tear 27 = .ok (.putfield 255, 3) := by decide +kernel
theorem dX9_tear_30 : decode cX9_tear 30 = .ok (.iload_n 1, 1) := by decide +kernel
theorem dX9_tear_31 : decode cX9_tear 31 = .ok (.ireturn, 1) := by decide +kernel
theorem dX9_judge_0 : decode cX9_judge 0 = .ok (.iconst 0, 1) := by decide +kernel
theorem dX9_judge_1 : decode cX9_judge 1 = .ok (.istore_n 1, 1) := by decide +kernel
theorem dX9_judge_2 : decode cX9_judge 2 = .ok (.iload_n 1, 1) := by decide +kernel
theorem dX9_judge_3 : decode cX9_judge 3 = .ok (.aload_n 0, 1) := by decide +kernel
theorem dX9_judge_4 : decode cX9_judge 4 = .ok (.getfield 261, 3) := by decide +kernel
theorem dX9_judge_7 : decode cX9_judge 7 = .ok (.if_icmp .ge 36, 3) := by decide +kernel
theorem dX9_judge_10 : decode cX9_judge 10 = .ok (.aload_n 0, 1) := by decide +kernel
theorem dX9_judge_11 : decode cX9_judge 11 = .ok (.aload_n 0, 1) := by decide +kernel
theorem dX9_judge_12 : decode cX9_judge 12 = .ok (.getfield 108, 3) := by decide +kernel
theorem dX9_judge_15 : decode cX9_judge 15 = .ok (.iload_n 1, 1) := by decide +kernel
theorem dX9_judge_16 : decode cX9_judge 16 = .ok (.iaload, 1) := by decide +kernel
theorem dX9_judge_17 : decode cX9_judge 17 = .ok (.aload_n 0, 1) := by decide +kernel
theorem dX9_judge_18 : decode cX9_judge 18 = .ok (.getfield 105, 3) := by decide +kernel
theorem dX9_judge_21 : decode cX9_judge 21 = .ok (.iload_n 1, 1) := by decide +kernel
theorem dX9_judge_22 : decode cX9_judge 22 = .ok (.iaload, 1) := by decide +kernel
theorem dX9_judge_23 : decode cX9_judge 23 = .ok (.invokevirtual 305, 3) := by decide +kernel
theorem dX9_judge_26 : decode cX9_judge 26 = .ok (.aload_n 0, 1) := by decide +kernel
theorem dX9_judge_27 : decode cX9_judge 27 = .ok (.getfield 111, 3) := by decide +kernel
theorem dX9_judge_30 : decode cX9_judge 30 = .ok (.iload_n 1, 1) := by decide +kernel
theorem dX9_judge_31 : decode cX9_judge 31 = .ok (.iaload, 1) := by decide +kernel
theorem dX9_judge_32 : decode cX9_judge 32 = .ok (.if_icmp .eq 5, 3) := by decide +kernel
theorem dX9_judge_35 : decode cX9_judge 35 = .ok (.iload_n 1, 1) := by decide +kernel
theorem dX9_judge_36 : decode cX9_judge 36 = .ok (.ireturn, 1) := by decide +kernel
theorem dX9_judge_37 : decode cX9_judge 37 = .ok (.iinc 1 1, 3) := by decide +kernel
theorem dX9_judge_40 : decode cX9_judge 40 = .ok (.goto (-38), 3) := by decide +kernel
theorem dX9_judge_43 : decode cX9_judge 43 = .ok (.iconst (-1), 1) := by decide +kernel
theorem dX9_judge_44 : decode cX9_judge 44 = .ok (.ireturn, 1) := by decide +kernel
theorem dX9_seed_0 : decode cX9_seed 0 = .ok (.iload_n 1, 1) := by decide +kernel
theorem dX9_seed_1 : decode cX9_seed 1 = .ok (.ifCond .ge 6, 3) := by decide +kernel
theorem dX9_seed_4 : decode cX9_seed 4 = .ok (.ldc 138, 2) := by decide +kernel
theorem dX9_seed_6 : decode cX9_seed 6 = .ok (.ireturn, 1) := by decide +kernel
theorem dX9_seed_7 : decode cX9_seed 7 = .ok (.aload_n 0, 1) := by decide +kernel
theorem dX9_seed_8 : decode cX9_seed 8 = .ok (.getfield 339, 3) := by decide +kernel
theorem dX9_seed_11 : decode cX9_seed 11 = .ok (.istore_n 2, 1) := by decide +kernel
theorem dX9_seed_12 : decode cX9_seed 12 = .ok (.aload_n 0, 1) := by decide +kernel
theorem dX9_seed_13 : decode cX9_seed 13 = .ok (.iload_n 1, 1) := by decide +kernel
theorem dX9_seed_14 : decode cX9_seed 14 = .ok (.putfield 339, 3) := by decide +kernel
theorem dX9_seed_17 : decode cX9_seed 17 = .ok (.iload_n 2, 1) := by decide +kernel
theorem dX9_seed_18 : decode cX9_seed 18 = .ok (.ireturn, 1) := by decide +kernel
theorem dX9_keep_0 : decode cX9_keep 0 = .ok (.iload_n 1, 1) := by decide +kernel
theorem dX9_keep_1 : decode cX9_keep 1 = .ok (.i2l, 1) := by decide +kernel
theorem dX9_keep_2 : decode cX9_keep 2 = .ok (.lconst 0, 1) := by decide +kernel
theorem dX9_keep_3 : decode cX9_keep 3 = .ok (.lconst 1, 1) := by decide +kernel
theorem dX9_keep_4 : decode cX9_keep 4 = .ok (.invokestatic 123, 3) := by decide +kernel
theorem dX9_keep_7 : decode cX9_keep 7 = .ok (.ifCond .ne 7, 3) := by decide +kernel
theorem dX9_keep_10 : decode cX9_keep 10 = .ok (.ldc_w 320, 3) := by decide +kernel
theorem dX9_keep_13 : decode cX9_keep 13 = .ok (.ireturn, 1) := by decide +kernel
theorem dX9_keep_14 : decode cX9_keep 14 = .ok (.bipush 70, 2) := by decide +kernel
theorem dX9_keep_16 : decode cX9_keep 16 = .ok (.iload_n 1, 1) := by decide +kernel
theorem dX9_keep_17 : decode cX9_keep 17 = .ok (.imul, 1) := by decide +kernel
theorem dX9_keep_18 : decode cX9_keep 18 = .ok (.istore_n 2, 1) := by decide +kernel
theorem dX9_keep_19 : decode cX9_keep 19 = .ok (.iconst 0, 1) := by decide +kernel
theorem dX9_keep_20 : decode cX9_keep 20 = .ok (.istore_n 3, 1) := by decide +kernel
theorem dX9_keep_21 : decode cX9_keep 21 = .ok (.iload_n 3, 1) := by decide +kernel
theorem dX9_keep_22 : decode cX9_keep 22 = .ok (.bipush 6, 2) := by decide +kernel
theorem dX9_keep_24 : decode cX9_keep 24 = .ok (.if_icmp .ge 65, 3) := by decide +kernel
theorem dX9_keep_27 : decode cX9_keep 27 = .ok (.aload_n 0, 1) := by decide +kernel
theorem dX9_keep_28 : decode cX9_keep 28 = .ok (.getfield 114, 3) := by decide +kernel
theorem dX9_keep_31 : decode cX9_keep 31 = .ok (.iload_n 2, 1) := by decide +kernel
theorem dX9_keep_32 : decode cX9_keep 32 = .ok (.iload_n 3, 1) := by decide +kernel
theorem dX9_keep_33 : decode cX9_keep 33 = .ok (.iadd, 1) := by decide +kernel
theorem dX9_keep_34 : decode cX9_keep 34 = .ok (.aload_n 0, 1) := by decide +kernel
theorem dX9_keep_35 : decode cX9_keep 35 = .ok (.getfield 25, 3) := by decide +kernel
theorem dX9_keep_38 : decode cX9_keep 38 = .ok (.iload_n 3, 1) := by decide +kernel
theorem dX9_keep_39 : decode cX9_keep 39 = .ok (.iaload, 1) := by decide +kernel
theorem dX9_keep_40 : decode cX9_keep 40 = .ok (.iastore, 1) := by decide +kernel
theorem dX9_keep_41 : decode cX9_keep 41 = .ok (.aload_n 0, 1) := by decide +kernel
theorem dX9_keep_42 : decode cX9_keep 42 = .ok (.getfield 114, 3) := by decide +kernel
theorem dX9_keep_45 : decode cX9_keep 45 = .ok (.iload_n 2, 1) := by decide +kernel
theorem dX9_keep_46 : decode cX9_keep 46 = .ok (.bipush 6, 2) := by decide +kernel
theorem dX9_keep_48 : decode cX9_keep 48 = .ok (.iadd, 1) := by decide +kernel
theorem dX9_keep_49 : decode cX9_keep 49 = .ok (.iload_n 3, 1) := by decide +kernel
theorem dX9_keep_50 : decode cX9_keep 50 = .ok (.iadd, 1) := by decide +kernel
theorem dX9_keep_51 : decode cX9_keep 51 = .ok (.aload_n 0, 1) := by decide +kernel
theorem dX9_keep_52 : decode cX9_keep 52 = .ok (.getfield 31, 3) := by decide +kernel
theorem dX9_keep_55 : decode cX9_keep 55 = .ok (.iload_n 3, 1) := by decide +kernel
theorem dX9_keep_56 : decode cX9_keep 56 = .ok (.baload, 1) := by decide +kernel
theorem dX9_keep_57 : decode cX9_keep 57 = .ok (.ifCond .eq 7, 3) := by decide +kernel
theorem dX9_keep_60 : decode cX9_keep 60 = .ok (.iconst 1, 1) := by decide +kernel
theorem dX9_keep_61 : decode cX9_keep 61 = .ok (.goto 4, 3) := by decide +kernel
theorem dX9_keep_64 : decode cX9_keep 64 = .ok (.iconst 0, 1) := by decide +kernel
theorem dX9_keep_65 : decode cX9_keep 65 = .ok (.iastore, 1) := by decide +kernel
theorem dX9_keep_66 : decode cX9_keep 66 = .ok (.aload_n 0, 1) := by decide +kernel
theorem dX9_keep_67 : decode cX9_keep 67 = .ok (.getfield 114, 3) := by decide +kernel
theorem dX9_keep_70 : decode cX9_keep 70 = .ok (.iload_n 2, 1) := by decide +kernel
theorem dX9_keep_71 : decode cX9_keep 71 = .ok (.bipush 12, 2) := by decide +kernel
theorem dX9_keep_73 : decode cX9_keep 73 = .ok (.iadd, 1) := by decide +kernel
theorem dX9_keep_74 : decode cX9_keep 74 = .ok (.iload_n 3, 1) := by decide +kernel
theorem dX9_keep_75 : decode cX9_keep 75 = .ok (.iadd, 1) := by decide +kernel
theorem dX9_keep_76 : decode cX9_keep 76 = .ok (.aload_n 0, 1) := by decide +kernel
theorem dX9_keep_77 : decode cX9_keep 77 = .ok (.getfield 35, 3) := by decide +kernel
theorem dX9_keep_80 : decode cX9_keep 80 = .ok (.iload_n 3, 1) := by decide +kernel
theorem dX9_keep_81 : decode cX9_keep 81 = .ok (.iaload, 1) := by decide +kernel
theorem dX9_keep_82 : decode cX9_keep 82 = .ok (.iastore, 1) := by decide +kernel
theorem dX9_keep_83 : decode cX9_keep 83 = .ok (.iinc 3 1, 3) := by decide +kernel
theorem dX9_keep_86 : decode cX9_keep 86 = .ok (.goto (-65), 3) := by decide +kernel
theorem dX9_keep_89 : decode cX9_keep 89 = .ok (.iconst 0, 1) := by decide +kernel
theorem dX9_keep_90 : decode cX9_keep 90 = .ok (.istore_n 3, 1) := by decide +kernel
theorem dX9_keep_91 : decode cX9_keep 91 = .ok (.iload_n 3, 1) := by decide +kernel
theorem dX9_keep_92 : decode cX9_keep 92 = .ok (.bipush 48, 2) := by decide +kernel
theorem dX9_keep_94 : decode cX9_keep 94 = .ok (.if_icmp .ge 26, 3) := by decide +kernel
theorem dX9_keep_97 : decode cX9_keep 97 = .ok (.aload_n 0, 1) := by decide +kernel
theorem dX9_keep_98 : decode cX9_keep 98 = .ok (.getfield 114, 3) := by decide +kernel
theorem dX9_keep_101 : decode cX9_keep 101 = .ok (.iload_n 2, 1) := by decide +kernel
theorem dX9_keep_102 : decode cX9_keep 102 = .ok (.bipush 18, 2) := by decide +kernel
theorem dX9_keep_104 : decode cX9_keep 104 = .ok (.iadd, 1) := by decide +kernel
theorem dX9_keep_105 : decode cX9_keep 105 = .ok (.iload_n 3, 1) := by decide +kernel
theorem dX9_keep_106 : decode cX9_keep 106 = .ok (.iadd, 1) := by decide +kernel
theorem dX9_keep_107 : decode cX9_keep 107 = .ok (.aload_n 0, 1) := by decide +kernel
theorem dX9_keep_108 : decode cX9_keep 108 = .ok (.getfield 7, 3) := by decide +kernel
theorem dX9_keep_111 : decode cX9_keep 111 = .ok (.iload_n 3, 1) := by decide +kernel
theorem dX9_keep_112 : decode cX9_keep 112 = .ok (.iaload, 1) := by decide +kernel
theorem dX9_keep_113 : decode cX9_keep 113 = .ok (.iastore, 1) := by decide +kernel
theorem dX9_keep_114 : decode cX9_keep 114 = .ok (.iinc 3 1, 3) := by decide +kernel
theorem dX9_keep_117 : decode cX9_keep 117 = .ok (.goto (-26), 3) := by decide +kernel
theorem dX9_keep_120 : decode cX9_keep 120 = .ok (.aload_n 0, 1) := by decide +kernel
theorem dX9_keep_121 : decode cX9_keep 121 = .ok (.getfield 114, 3) := by decide +kernel
theorem dX9_keep_124 : decode cX9_keep 124 = .ok (.iload_n 2, 1) := by decide +kernel
theorem dX9_keep_125 : decode cX9_keep 125 = .ok (.bipush 66, 2) := by decide +kernel
theorem dX9_keep_127 : decode cX9_keep 127 = .ok (.iadd, 1) := by decide +kernel
theorem dX9_keep_128 : decode cX9_keep 128 = .ok (.aload_n 0, 1) := by decide +kernel
theorem dX9_keep_129 : decode cX9_keep 129 = .ok (.getfield 252, 3) := by decide +kernel
theorem dX9_keep_132 : decode cX9_keep 132 = .ok (.iastore, 1) := by decide +kernel
theorem dX9_keep_133 : decode cX9_keep 133 = .ok (.aload_n 0, 1) := by decide +kernel
theorem dX9_keep_134 : decode cX9_keep 134 = .ok (.getfield 114, 3) := by decide +kernel
theorem dX9_keep_137 : decode cX9_keep 137 = .ok (.iload_n 2, 1) := by decide +kernel
theorem dX9_keep_138 : decode cX9_keep 138 = .ok (.bipush 67, 2) := by decide +kernel
theorem dX9_keep_140 : decode cX9_keep 140 = .ok (.iadd, 1) := by decide +kernel
theorem dX9_keep_141 : decode cX9_keep 141 = .ok (.aload_n 0, 1) := by decide +kernel
theorem dX9_keep_142 : decode cX9_keep 142 = .ok (.getfield 285, 3) := by decide +kernel
theorem dX9_keep_145 : decode cX9_keep 145 = .ok (.iastore, 1) := by decide +kernel
theorem dX9_keep_146 : decode cX9_keep 146 = .ok (.aload_n 0, 1) := by decide +kernel
theorem dX9_keep_147 : decode cX9_keep 147 = .ok (.getfield 114, 3) := by decide +kernel
theorem dX9_keep_150 : decode cX9_keep 150 = .ok (.iload_n 2, 1) := by decide +kernel
theorem dX9_keep_151 : decode cX9_keep 151 = .ok (.bipush 68, 2) := by decide +kernel
theorem dX9_keep_153 : decode cX9_keep 153 = .ok (.iadd, 1) := by decide +kernel
theorem dX9_keep_154 : decode cX9_keep 154 = .ok (.aload_n 0, 1) := by decide +kernel
theorem dX9_keep_155 : decode cX9_keep 155 = .ok (.getfield 339, 3) := by decide +kernel
theorem dX9_keep_158 : decode cX9_keep 158 = .ok (.iastore, 1) := by decide +kernel
theorem dX9_keep_159 : decode cX9_keep 159 = .ok (.aload_n 0, 1) := by decide +kernel
theorem dX9_keep_160 : decode cX9_keep 160 = .ok (.getfield 117, 3) := by decide +kernel
theorem dX9_keep_163 : decode cX9_keep 163 = .ok (.iload_n 1, 1) := by decide +kernel
theorem dX9_keep_164 : decode cX9_keep 164 = .ok (.iconst 1, 1) := by decide +kernel
theorem dX9_keep_165 : decode cX9_keep 165 = .ok (.bastore, 1) := by decide +kernel
theorem dX9_keep_166 : decode cX9_keep 166 = .ok (.iconst 1, 1) := by decide +kernel
theorem dX9_keep_167 : decode cX9_keep 167 = .ok (.ireturn, 1) := by decide +kernel
theorem dX9_goBack_0 : decode cX9_goBack 0 = .ok (.iload_n 1, 1) := by decide +kernel
theorem dX9_goBack_1 : decode cX9_goBack 1 = .ok (.i2l, 1) := by decide +kernel
theorem dX9_goBack_2 : decode cX9_goBack 2 = .ok (.lconst 0, 1) := by decide +kernel
theorem dX9_goBack_3 : decode cX9_goBack 3 = .ok (.lconst 1, 1) := by decide +kernel
theorem dX9_goBack_4 : decode cX9_goBack 4 = .ok (.invokestatic 123, 3) := by decide +kernel
theorem dX9_goBack_7 : decode cX9_goBack 7 = .ok (.ifCond .ne 7, 3) := by decide +kernel
theorem dX9_goBack_10 : decode cX9_goBack 10 = .ok (.ldc_w 320, 3) := by decide +kernel
theorem dX9_goBack_13 : decode cX9_goBack 13 = .ok (.ireturn, 1) := by decide +kernel
theorem dX9_goBack_14 : decode cX9_goBack 14 = .ok (.aload_n 0, 1) := by decide +kernel
theorem dX9_goBack_15 : decode cX9_goBack 15 = .ok (.getfield 117, 3) := by decide +kernel
theorem dX9_goBack_18 : decode cX9_goBack 18 = .ok (.iload_n 1, 1) := by decide +kernel
theorem dX9_goBack_19 : decode cX9_goBack 19 = .ok (.baload, 1) := by decide +kernel
theorem dX9_goBack_20 : decode cX9_goBack 20 = .ok (.ifCond .ne 7, 3) := by decide +kernel
theorem dX9_goBack_23 : decode cX9_goBack 23 = .ok (.ldc_w 330, 3) := by decide +kernel
theorem dX9_goBack_26 : decode cX9_goBack 26 = .ok (.ireturn, 1) := by decide +kernel
theorem dX9_goBack_27 : decode cX9_goBack 27 = .ok (.bipush 70, 2) := by decide +kernel
theorem dX9_goBack_29 : decode cX9_goBack 29 = .ok (.iload_n 1, 1) := by decide +kernel
theorem dX9_goBack_30 : decode cX9_goBack 30 = .ok (.imul, 1) := by decide +kernel
theorem dX9_goBack_31 : decode cX9_goBack 31 = .ok (.istore_n 2, 1) := by decide +kernel
theorem dX9_goBack_32 : decode cX9_goBack 32 = .ok (.iconst 0, 1) := by decide +kernel
theorem dX9_goBack_33 : decode cX9_goBack 33 = .ok (.istore_n 3, 1) := by decide +kernel
theorem dX9_goBack_34 : decode cX9_goBack 34 = .ok (.iload_n 3, 1) := by decide +kernel
theorem dX9_goBack_35 : decode cX9_goBack 35 = .ok (.bipush 6, 2) := by decide +kernel
theorem dX9_goBack_37 : decode cX9_goBack 37 = .ok (.if_icmp .ge 66, 3) := by decide +kernel
theorem dX9_goBack_40 : decode cX9_goBack 40 = .ok (.aload_n 0, 1) := by decide +kernel
theorem dX9_goBack_41 : decode cX9_goBack 41 = .ok (.getfield 25, 3) := by decide +kernel
theorem dX9_goBack_44 : decode cX9_goBack 44 = .ok (.iload_n 3, 1) := by decide +kernel
theorem dX9_goBack_45 : decode cX9_goBack 45 = .ok (.aload_n 0, 1) := by decide +kernel
theorem dX9_goBack_46 : decode cX9_goBack 46 = .ok (.getfield 114, 3) := by decide +kernel
theorem dX9_goBack_49 : decode cX9_goBack 49 = .ok (.iload_n 2, 1) := by decide +kernel
theorem dX9_goBack_50 : decode cX9_goBack 50 = .ok (.iload_n 3, 1) := by decide +kernel
theorem dX9_goBack_51 : decode cX9_goBack 51 = .ok (.iadd, 1) := by decide +kernel
theorem dX9_goBack_52 : decode cX9_goBack 52 = .ok (.iaload, 1) := by decide +kernel
theorem dX9_goBack_53 : decode cX9_goBack 53 = .ok (.iastore, 1) := by decide +kernel
theorem dX9_goBack_54 : decode cX9_goBack 54 = .ok (.aload_n 0, 1) := by decide +kernel
theorem dX9_goBack_55 : decode cX9_goBack 55 = .ok (.getfield 31, 3) := by decide +kernel
theorem dX9_goBack_58 : decode cX9_goBack 58 = .ok (.iload_n 3, 1) := by decide +kernel
theorem dX9_goBack_59 : decode cX9_goBack 59 = .ok (.aload_n 0, 1) := by decide +kernel
theorem dX9_goBack_60 : decode cX9_goBack 60 = .ok (.getfield 114, 3) := by decide +kernel
theorem dX9_goBack_63 : decode cX9_goBack 63 = .ok (.iload_n 2, 1) := by decide +kernel
theorem dX9_goBack_64 : decode cX9_goBack 64 = .ok (.bipush 6, 2) := by decide +kernel
theorem dX9_goBack_66 : decode cX9_goBack 66 = .ok (.iadd, 1) := by decide +kernel
theorem dX9_goBack_67 : decode cX9_goBack 67 = .ok (.iload_n 3, 1) := by decide +kernel
theorem dX9_goBack_68 : decode cX9_goBack 68 = .ok (.iadd, 1) := by decide +kernel
theorem dX9_goBack_69 : decode cX9_goBack 69 = .ok (.iaload, 1) := by decide +kernel
theorem dX9_goBack_70 : decode cX9_goBack 70 = .ok (.iconst 1, 1) := by decide +kernel
theorem dX9_goBack_71 : decode cX9_goBack 71 = .ok (.if_icmp .ne 7, 3) := by decide +kernel
theorem dX9_goBack_74 : decode cX9_goBack 74 = .ok (.iconst 1, 1) := by decide +kernel
theorem dX9_goBack_75 : decode cX9_goBack 75 = .ok (.goto 4, 3) := by decide +kernel
theorem dX9_goBack_78 : decode cX9_goBack 78 = .ok (.iconst 0, 1) := by decide +kernel
theorem dX9_goBack_79 : decode cX9_goBack 79 = .ok (.bastore, 1) := by decide +kernel
theorem dX9_goBack_80 : decode cX9_goBack 80 = .ok (.aload_n 0, 1) := by decide +kernel
theorem dX9_goBack_81 : decode cX9_goBack 81 = .ok (.getfield 35, 3) := by decide +kernel
theorem dX9_goBack_84 : decode cX9_goBack 84 = .ok (.iload_n 3, 1) := by decide +kernel
theorem dX9_goBack_85 : decode cX9_goBack 85 = .ok (.aload_n 0, 1) := by decide +kernel
theorem dX9_goBack_86 : decode cX9_goBack 86 = .ok (.getfield 114, 3) := by decide +kernel
theorem dX9_goBack_89 : decode cX9_goBack 89 = .ok (.iload_n 2, 1) := by decide +kernel
theorem dX9_goBack_90 : decode cX9_goBack 90 = .ok (.bipush 12, 2) := by decide +kernel
theorem dX9_goBack_92 : decode cX9_goBack 92 = .ok (.iadd, 1) := by decide +kernel
theorem dX9_goBack_93 : decode cX9_goBack 93 = .ok (.iload_n 3, 1) := by decide +kernel
theorem dX9_goBack_94 : decode cX9_goBack 94 = .ok (.iadd, 1) := by decide +kernel
theorem dX9_goBack_95 : decode cX9_goBack 95 = .ok (.iaload, 1) := by decide +kernel
theorem dX9_goBack_96 : decode cX9_goBack 96 = .ok (.iastore, 1) := by decide +kernel
theorem dX9_goBack_97 : decode cX9_goBack 97 = .ok (.iinc 3 1, 3) := by decide +kernel
theorem dX9_goBack_100 : decode cX9_goBack 100 = .ok (.goto (-66), 3) := by decide +kernel
theorem dX9_goBack_103 : decode cX9_goBack 103 = .ok (.iconst 0, 1) := by decide +kernel
theorem dX9_goBack_104 : decode cX9_goBack 104 = .ok (.istore_n 3, 1) := by decide +kernel
theorem dX9_goBack_105 : decode cX9_goBack 105 = .ok (.iload_n 3, 1) := by decide +kernel
theorem dX9_goBack_106 : decode cX9_goBack 106 = .ok (.bipush 48, 2) := by decide +kernel
theorem dX9_goBack_108 : decode cX9_goBack 108 = .ok (.if_icmp .ge 26, 3) := by decide +kernel
theorem dX9_goBack_111 : decode cX9_goBack 111 = .ok (.aload_n 0, 1) := by decide +kernel
theorem dX9_goBack_112 : decode cX9_goBack 112 = .ok (.getfield 7, 3) := by decide +kernel
theorem dX9_goBack_115 : decode cX9_goBack 115 = .ok (.iload_n 3, 1) := by decide +kernel
theorem dX9_goBack_116 : decode cX9_goBack 116 = .ok (.aload_n 0, 1) := by decide +kernel
theorem dX9_goBack_117 : decode cX9_goBack 117 = .ok (.getfield 114, 3) := by decide +kernel
theorem dX9_goBack_120 : decode cX9_goBack 120 = .ok (.iload_n 2, 1) := by decide +kernel
theorem dX9_goBack_121 : decode cX9_goBack 121 = .ok (.bipush 18, 2) := by decide +kernel
theorem dX9_goBack_123 : decode cX9_goBack 123 = .ok (.iadd, 1) := by decide +kernel
theorem dX9_goBack_124 : decode cX9_goBack 124 = .ok (.iload_n 3, 1) := by decide +kernel
theorem dX9_goBack_125 : decode cX9_goBack 125 = .ok (.iadd, 1) := by decide +kernel
theorem dX9_goBack_126 : decode cX9_goBack 126 = .ok (.iaload, 1) := by decide +kernel
theorem dX9_goBack_127 : decode cX9_goBack 127 = .ok (.iastore, 1) := by decide +kernel
theorem dX9_goBack_128 : decode cX9_goBack 128 = .ok (.iinc 3 1, 3) := by decide +kernel
theorem dX9_goBack_131 : decode cX9_goBack 131 = .ok (.goto (-26), 3) := by decide +kernel
theorem dX9_goBack_134 : decode cX9_goBack 134 = .ok (.aload_n 0, 1) := by decide +kernel
theorem dX9_goBack_135 : decode cX9_goBack 135 = .ok (.aload_n 0, 1) := by decide +kernel
theorem dX9_goBack_136 : decode cX9_goBack 136 = .ok (.getfield 114, 3) := by decide +kernel
theorem dX9_goBack_139 : decode cX9_goBack 139 = .ok (.iload_n 2, 1) := by decide +kernel
theorem dX9_goBack_140 : decode cX9_goBack 140 = .ok (.bipush 66, 2) := by decide +kernel
theorem dX9_goBack_142 : decode cX9_goBack 142 = .ok (.iadd, 1) := by decide +kernel
theorem dX9_goBack_143 : decode cX9_goBack 143 = .ok (.iaload, 1) := by decide +kernel
theorem dX9_goBack_144 : decode cX9_goBack 144 = .ok (.putfield 252, 3) := by decide +kernel
theorem dX9_goBack_147 : decode cX9_goBack 147 = .ok (.aload_n 0, 1) := by decide +kernel
theorem dX9_goBack_148 : decode cX9_goBack 148 = .ok (.aload_n 0, 1) := by decide +kernel
theorem dX9_goBack_149 : decode cX9_goBack 149 = .ok (.getfield 114, 3) := by decide +kernel
theorem dX9_goBack_152 : decode cX9_goBack 152 = .ok (.iload_n 2, 1) := by decide +kernel
theorem dX9_goBack_153 : decode cX9_goBack 153 = .ok (.bipush 67, 2) := by decide +kernel
theorem dX9_goBack_155 : decode cX9_goBack 155 = .ok (.iadd, 1) := by decide +kernel
theorem dX9_goBack_156 : decode cX9_goBack 156 = .ok (.iaload, 1) := by decide +kernel
theorem dX9_goBack_157 : decode cX9_goBack 157 = .ok (.putfield 285, 3) := by decide +kernel
theorem dX9_goBack_160 : decode cX9_goBack 160 = .ok (.aload_n 0, 1) := by decide +kernel
theorem dX9_goBack_161 : decode cX9_goBack 161 = .ok (.aload_n 0, 1) := by decide +kernel
theorem dX9_goBack_162 : decode cX9_goBack 162 = .ok (.getfield 114, 3) := by decide +kernel
theorem dX9_goBack_165 : decode cX9_goBack 165 = .ok (.iload_n 2, 1) := by decide +kernel
theorem dX9_goBack_166 : decode cX9_goBack 166 = .ok (.bipush 68, 2) := by decide +kernel
theorem dX9_goBack_168 : decode cX9_goBack 168 = .ok (.iadd, 1) := by decide +kernel
theorem dX9_goBack_169 : decode cX9_goBack 169 = .ok (.iaload, 1) := by decide +kernel
theorem dX9_goBack_170 : decode cX9_goBack 170 = .ok (.putfield 339, 3) := by decide +kernel
theorem dX9_goBack_173 : decode cX9_goBack 173 = .ok (.iconst 1, 1) := by decide +kernel
theorem dX9_goBack_174 : decode cX9_goBack 174 = .ok (.ireturn, 1) := by decide +kernel
