theorem dX9_drops_0 : decode cX9_drops 0 = .ok (.aload_n 0, 1) := by decide +kernel
theorem dX9_drops_1 : decode cX9_drops 1 = .ok (.getfield 13, 3) := by decide +kernel
theorem dX9_drops_4 : decode cX9_drops 4 = .ok (.aload_n 0, 1) := by decide +kernel
theorem dX9_drops_5 : decode cX9_drops 5 = .ok (.getfield 51, 3) := by decide +kernel
theorem dX9_drops_8 : decode cX9_drops 8 = .ok (.iaload, 1) := by decide +kernel
theorem dX9_drops_9 : decode cX9_drops 9 = .ok (.iconst 2, 1) := by decide +kernel
theorem dX9_drops_10 : decode cX9_drops 10 = .ok (.if_icmp .ne 44, 3) := by decide +kernel
theorem dX9_drops_13 : decode cX9_drops 13 = .ok (.aload_n 0, 1) := by decide +kernel
theorem dX9_drops_14 : decode cX9_drops 14 = .ok (.getfield 17, 3) := by decide +kernel
theorem dX9_drops_17 : decode cX9_drops 17 = .ok (.aload_n 0, 1) := by decide +kernel
theorem dX9_drops_18 : decode cX9_drops 18 = .ok (.getfield 51, 3) := by decide +kernel
theorem dX9_drops_21 : decode cX9_drops 21 = .ok (.iaload, 1) := by decide +kernel
theorem dX9_drops_22 : decode cX9_drops 22 = .ok (.iconst 1, 1) := by decide +kernel
theorem dX9_drops_23 : decode cX9_drops 23 = .ok (.if_icmp .ne 31, 3) := by decide +kernel
theorem dX9_drops_26 : decode cX9_drops 26 = .ok (.aload_n 0, 1) := by decide +kernel
theorem dX9_drops_27 : decode cX9_drops 27 = .ok (.getfield 51, 3) := by decide +kernel
theorem dX9_drops_30 : decode cX9_drops 30 = .ok (.istore_n 1, 1) := by decide +kernel
theorem dX9_drops_31 : decode cX9_drops 31 = .ok (.aload_n 0, 1) := by decide +kernel
theorem dX9_drops_32 : decode cX9_drops 32 = .ok (.aload_n 0, 1) := by decide +kernel
theorem dX9_drops_33 : decode cX9_drops 33 = .ok (.getfield 26, 3) := by decide +kernel
theorem dX9_drops_36 : decode cX9_drops 36 = .ok (.bipush 24, 2) := by decide +kernel
theorem dX9_drops_38 : decode cX9_drops 38 = .ok (.iload_n 1, 1) := by decide +kernel
theorem dX9_drops_39 : decode cX9_drops 39 = .ok (.imul, 1) := by decide +kernel
theorem dX9_drops_40 : decode cX9_drops 40 = .ok (.iaload, 1) := by decide +kernel
theorem dX9_drops_41 : decode cX9_drops 41 = .ok (.putfield 51, 3) := by decide +kernel
theorem dX9_drops_44 : decode cX9_drops 44 = .ok (.aload_n 0, 1) := by decide +kernel
theorem dX9_drops_45 : decode cX9_drops 45 = .ok (.getfield 13, 3) := by decide +kernel
theorem dX9_drops_48 : decode cX9_drops 48 = .ok (.iload_n 1, 1) := by decide +kernel
theorem dX9_drops_49 : decode cX9_drops 49 = .ok (.iconst 0, 1) := by decide +kernel
theorem dX9_drops_50 : decode cX9_drops 50 = .ok (.iastore, 1) := by decide +kernel
theorem dX9_drops_51 : decode cX9_drops 51 = .ok (.goto (-51), 3) := by decide +kernel
theorem dX9_drops_54 : decode cX9_drops 54 = .ok (.return_, 1) := by decide +kernel
theorem dX9_mend_0 : decode cX9_mend 0 = .ok (.iload_n 2, 1) := by decide +kernel
theorem dX9_mend_1 : decode cX9_mend 1 = .ok (.ifCond .le 7, 3) := by decide +kernel
theorem dX9_mend_4 : decode cX9_mend 4 = .ok (.iload_n 2, 1) := by decide +kernel
theorem dX9_mend_5 : decode cX9_mend 5 = .ok (.goto 4, 3) := by decide +kernel
theorem dX9_mend_8 : decode cX9_mend 8 = .ok (.iconst 1, 1) := by decide +kernel
theorem dX9_mend_9 : decode cX9_mend 9 = .ok (.istore_n 3, 1) := by decide +kernel
theorem dX9_mend_10 : decode cX9_mend 10 = .ok (.aload_n 0, 1) := by decide +kernel
theorem dX9_mend_11 : decode cX9_mend 11 = .ok (.getfield 26, 3) := by decide +kernel
theorem dX9_mend_14 : decode cX9_mend 14 = .ok (.bipush 24, 2) := by decide +kernel
theorem dX9_mend_16 : decode cX9_mend 16 = .ok (.iload_n 1, 1) := by decide +kernel
theorem dX9_mend_17 : decode cX9_mend 17 = .ok (.imul, 1) := by decide +kernel
theorem dX9_mend_18 : decode cX9_mend 18 = .ok (.iload_n 3, 1) := by decide +kernel
theorem dX9_mend_19 : decode cX9_mend 19 = .ok (.iadd, 1) := by decide +kernel
theorem dX9_mend_20 : decode cX9_mend 20 = .ok (.iconst 1, 1) := by decide +kernel
theorem dX9_mend_21 : decode cX9_mend 21 = .ok (.isub, 1) := by decide +kernel
theorem dX9_mend_22 : decode cX9_mend 22 = .ok (.iaload, 1) := by decide +kernel
theorem dX9_mend_23 : decode cX9_mend 23 = .ok (.istore 4, 2) := by decide +kernel
theorem dX9_mend_25 : decode cX9_mend 25 = .ok (.aload_n 0, 1) := by decide +kernel
theorem dX9_mend_26 : decode cX9_mend 26 = .ok (.getfield 26, 3) := by decide +kernel
theorem dX9_mend_29 : decode cX9_mend 29 = .ok (.bipush 24, 2) := by decide +kernel
theorem dX9_mend_31 : decode cX9_mend 31 = .ok (.iload_n 1, 1) := by decide +kernel
theorem dX9_mend_32 : decode cX9_mend 32 = .ok (.imul, 1) := by decide +kernel
theorem dX9_mend_33 : decode cX9_mend 33 = .ok (.iload_n 3, 1) := by decide +kernel
theorem dX9_mend_34 : decode cX9_mend 34 = .ok (.iadd, 1) := by decide +kernel
theorem dX9_mend_35 : decode cX9_mend 35 = .ok (.iaload, 1) := by decide +kernel
theorem dX9_mend_36 : decode cX9_mend 36 = .ok (.istore 5, 2) := by decide +kernel
theorem dX9_mend_38 : decode cX9_mend 38 = .ok (.aload_n 0, 1) := by decide +kernel
theorem dX9_mend_39 : decode cX9_mend 39 = .ok (.getfield 23, 3) := by decide +kernel
theorem dX9_mend_42 : decode cX9_mend 42 = .ok (.bipush 24, 2) := by decide +kernel
theorem dX9_mend_44 : decode cX9_mend 44 = .ok (.iload_n 1, 1) := by decide +kernel
theorem dX9_mend_45 : decode cX9_mend 45 = .ok (.imul, 1) := by decide +kernel
theorem dX9_mend_46 : decode cX9_mend 46 = .ok (.iload_n 3, 1) := by decide +kernel
theorem dX9_mend_47 : decode cX9_mend 47 = .ok (.iadd, 1) := by decide +kernel
theorem dX9_mend_48 : decode cX9_mend 48 = .ok (.iaload, 1) := by decide +kernel
theorem dX9_mend_49 : decode cX9_mend 49 = .ok (.istore 6, 2) := by decide +kernel
theorem dX9_mend_51 : decode cX9_mend 51 = .ok (.iconst 0, 1) := by decide +kernel
theorem dX9_mend_52 : decode cX9_mend 52 = .ok (.istore 7, 2) := by decide +kernel
theorem dX9_mend_54 : decode cX9_mend 54 = .ok (.iconst 0, 1) := by decide +kernel
theorem dX9_mend_55 : decode cX9_mend 55 = .ok (.istore 8, 2) := by decide +kernel
theorem dX9_mend_57 : decode cX9_mend 57 = .ok (.iload 8, 2) := by decide +kernel
theorem dX9_mend_59 : decode cX9_mend 59 = .ok (.aload_n 0, 1) := by decide +kernel
theorem dX9_mend_60 : decode cX9_mend 60 = .ok (.getfield 17, 3) := by decide +kernel
theorem dX9_mend_63 : decode cX9_mend 63 = .ok (.iload 4, 2) := by decide +kernel
theorem dX9_mend_65 : decode cX9_mend 65 = .ok (.iaload, 1) := by decide +kernel
theorem dX9_mend_66 : decode cX9_mend 66 = .ok (.if_icmp .ge 52, 3) := by decide +kernel
theorem dX9_mend_69 : decode cX9_mend 69 = .ok (.aload_n 0, 1) := by decide +kernel
theorem dX9_mend_70 : decode cX9_mend 70 = .ok (.getfield 85, 3) := by decide +kernel
theorem dX9_mend_73 : decode cX9_mend 73 = .ok (.iload 7, 2) := by decide +kernel
theorem dX9_mend_75 : decode cX9_mend 75 = .ok (.aload_n 0, 1) := by decide +kernel
theorem dX9_mend_76 : decode cX9_mend 76 = .ok (.getfield 23, 3) := by decide +kernel
theorem dX9_mend_79 : decode cX9_mend 79 = .ok (.bipush 24, 2) := by decide +kernel
theorem dX9_mend_81 : decode cX9_mend 81 = .ok (.iload 4, 2) := by decide +kernel
theorem dX9_mend_83 : decode cX9_mend 83 = .ok (.imul, 1) := by decide +kernel
theorem dX9_mend_84 : decode cX9_mend 84 = .ok (.iload 8, 2) := by decide +kernel
theorem dX9_mend_86 : decode cX9_mend 86 = .ok (.iadd, 1) := by decide +kernel
theorem dX9_mend_87 : decode cX9_mend 87 = .ok (.iaload, 1) := by decide +kernel
theorem dX9_mend_88 : decode cX9_mend 88 = .ok (.iastore, 1) := by decide +kernel
theorem dX9_mend_89 : decode cX9_mend 89 = .ok (.aload_n 0, 1) := by decide +kernel
theorem dX9_mend_90 : decode cX9_mend 90 = .ok (.getfield 88, 3) := by decide +kernel
theorem dX9_mend_93 : decode cX9_mend 93 = .ok (.iload 7, 2) := by decide +kernel
theorem dX9_mend_95 : decode cX9_mend 95 = .ok (.aload_n 0, 1) := by decide +kernel
theorem dX9_mend_96 : decode cX9_mend 96 = .ok (.getfield 26, 3) := by decide +kernel
theorem dX9_mend_99 : decode cX9_mend 99 = .ok (.bipush 24, 2) := by decide +kernel
theorem dX9_mend_101 : decode cX9_mend 101 = .ok (.iload 4, 2) := by decide +kernel
theorem dX9_mend_103 : decode cX9_mend 103 = .ok (.imul, 1) := by decide +kernel
theorem dX9_mend_104 : decode cX9_mend 104 = .ok (.iload 8, 2) := by decide +kernel
theorem dX9_mend_106 : decode cX9_mend 106 = .ok (.iadd, 1) := by decide +kernel
theorem dX9_mend_107 : decode cX9_mend 107 = .ok (.iaload, 1) := by decide +kernel
theorem dX9_mend_108 : decode cX9_mend 108 = .ok (.iastore, 1) := by decide +kernel
theorem dX9_mend_109 : decode cX9_mend 109 = .ok (.iinc 7 1, 3) := by decide +kernel
theorem dX9_mend_112 : decode cX9_mend 112 = .ok (.iinc 8 1, 3) := by decide +kernel
theorem dX9_mend_115 : decode cX9_mend 115 = .ok (.goto (-58), 3) := by decide +kernel
theorem dX9_mend_118 : decode cX9_mend 118 = .ok (.iconst 0, 1) := by decide +kernel
theorem dX9_mend_119 : decode cX9_mend 119 = .ok (.istore 8, 2) := by decide +kernel
theorem dX9_mend_121 : decode cX9_mend 121 = .ok (.iload 8, 2) := by decide +kernel
theorem dX9_mend_123 : decode cX9_mend 123 = .ok (.aload_n 0, 1) := by decide +kernel
theorem dX9_mend_124 : decode cX9_mend 124 = .ok (.getfield 17, 3) := by decide +kernel
theorem dX9_mend_127 : decode cX9_mend 127 = .ok (.iload 5, 2) := by decide +kernel
theorem dX9_mend_129 : decode cX9_mend 129 = .ok (.iaload, 1) := by decide +kernel
theorem dX9_mend_130 : decode cX9_mend 130 = .ok (.if_icmp .ge 73, 3) := by decide +kernel
theorem dX9_mend_133 : decode cX9_mend 133 = .ok (.aload_n 0, 1) := by decide +kernel
theorem dX9_mend_134 : decode cX9_mend 134 = .ok (.getfield 85, 3) := by decide +kernel
theorem dX9_mend_137 : decode cX9_mend 137 = .ok (.iload 7, 2) := by decide +kernel
theorem dX9_mend_139 : decode cX9_mend 139 = .ok (.iload 8, 2) := by decide +kernel
theorem dX9_mend_141 : decode cX9_mend 141 = .ok (.ifCond .ne 19, 3) := by decide +kernel
theorem dX9_mend_144 : decode cX9_mend 144 = .ok (.aload_n 0, 1) := by decide +kernel
theorem dX9_mend_145 : decode cX9_mend 145 = .ok (.getfield 13, 3) := by decide +kernel
theorem dX9_mend_148 : decode cX9_mend 148 = .ok (.iload 5, 2) := by decide +kernel
theorem dX9_mend_150 : decode cX9_mend 150 = .ok (.iaload, 1) := by decide +kernel
theorem dX9_mend_151 : decode cX9_mend 151 = .ok (.iconst 2, 1) := by decide +kernel
theorem dX9_mend_152 : decode cX9_mend 152 = .ok (.if_icmp .ne 8, 3) := by decide +kernel
theorem dX9_mend_155 : decode cX9_mend 155 = .ok (.iload 6, 2) := by decide +kernel
theorem dX9_mend_157 : decode cX9_mend 157 = .ok (.goto 16, 3) := by decide +kernel
theorem dX9_mend_160 : decode cX9_mend 160 = .ok (.aload_n 0, 1) := by decide +kernel
theorem dX9_mend_161 : decode cX9_mend 161 = .ok (.getfield 23, 3) := by decide +kernel
theorem dX9_mend_164 : decode cX9_mend 164 = .ok (.bipush 24, 2) := by decide +kernel
theorem dX9_mend_166 : decode cX9_mend 166 = .ok (.iload 5, 2) := by decide +kernel
theorem dX9_mend_168 : decode cX9_mend 168 = .ok (.imul, 1) := by decide +kernel
theorem dX9_mend_169 : decode cX9_mend 169 = .ok (.iload 8, 2) := by decide +kernel
theorem dX9_mend_171 : decode cX9_mend 171 = .ok (.iadd, 1) := by decide +kernel
theorem dX9_mend_172 : decode cX9_mend 172 = .ok (.iaload, 1) := by decide +kernel
theorem dX9_mend_173 : decode cX9_mend 173 = .ok (.iastore, 1) := by decide +kernel
theorem dX9_mend_174 : decode cX9_mend 174 = .ok (.aload_n 0, 1) := by decide +kernel
theorem dX9_mend_175 : decode cX9_mend 175 = .ok (.getfield 88, 3) := by decide +kernel
theorem dX9_mend_178 : decode cX9_mend 178 = .ok (.iload 7, 2) := by decide +kernel
theorem dX9_mend_180 : decode cX9_mend 180 = .ok (.aload_n 0, 1) := by decide +kernel
theorem dX9_mend_181 : decode cX9_mend 181 = .ok (.getfield 26, 3) := by decide +kernel
theorem dX9_mend_184 : decode cX9_mend 184 = .ok (.bipush 24, 2) := by decide +kernel
theorem dX9_mend_186 : decode cX9_mend 186 = .ok (.iload 5, 2) := by decide +kernel
theorem dX9_mend_188 : decode cX9_mend 188 = .ok (.imul, 1) := by decide +kernel
theorem dX9_mend_189 : decode cX9_mend 189 = .ok (.iload 8, 2) := by decide +kernel
theorem dX9_mend_191 : decode cX9_mend 191 = .ok (.iadd, 1) := by decide +kernel
theorem dX9_mend_192 : decode cX9_mend 192 = .ok (.iaload, 1) := by decide +kernel
theorem dX9_mend_193 : decode cX9_mend 193 = .ok (.iastore, 1) := by decide +kernel
theorem dX9_mend_194 : decode cX9_mend 194 = .ok (.iinc 7 1, 3) := by decide +kernel
theorem dX9_mend_197 : decode cX9_mend 197 = .ok (.iinc 8 1, 3) := by decide +kernel
theorem dX9_mend_200 : decode cX9_mend 200 = .ok (.goto (-79), 3) := by decide +kernel
theorem dX9_mend_203 : decode cX9_mend 203 = .ok (.iload 7, 2) := by decide +kernel
theorem dX9_mend_205 : decode cX9_mend 205 = .ok (.aload_n 0, 1) := by decide +kernel
theorem dX9_mend_206 : decode cX9_mend 206 = .ok (.getfield 13, 3) := by decide +kernel
theorem dX9_mend_209 : decode cX9_mend 209 = .ok (.iload 4, 2) := by decide +kernel
theorem dX9_mend_211 : decode cX9_mend 211 = .ok (.iaload, 1) := by decide +kernel
theorem dX9_mend_212 : decode cX9_mend 212 = .ok (.iconst 1, 1) := by decide +kernel
theorem dX9_mend_213 : decode cX9_mend 213 = .ok (.if_icmp .ne 10, 3) := by decide +kernel
theorem dX9_mend_216 : decode cX9_mend 216 = .ok (.aload_n 0, 1) := by decide +kernel
theorem dX9_mend_217 : decode cX9_mend 217 = .ok (.getfield 106, 3) := by decide +kernel
theorem dX9_mend_220 : decode cX9_mend 220 = .ok (.goto 7, 3) := by decide +kernel
theorem dX9_mend_223 : decode cX9_mend 223 = .ok (.aload_n 0, 1) := by decide +kernel
theorem dX9_mend_224 : decode cX9_mend 224 = .ok (.getfield 109, 3) := by decide +kernel
theorem dX9_mend_227 : decode cX9_mend 227 = .ok (.if_icmp .gt 7, 3) := by decide +kernel
theorem dX9_mend_230 : decode cX9_mend 230 = .ok (.iconst 1, 1) := by decide +kernel
theorem dX9_mend_231 : decode cX9_mend 231 = .ok (.goto 4, 3) := by decide +kernel
theorem dX9_mend_234 : decode cX9_mend 234 = .ok (.iconst 0, 1) := by decide +kernel
theorem dX9_mend_235 : decode cX9_mend 235 = .ok (.istore 8, 2) := by decide +kernel
theorem dX9_mend_237 : decode cX9_mend 237 = .ok (.iload 8, 2) := by decide +kernel
theorem dX9_mend_239 : decode cX9_mend 239 = .ok (.ifCond .eq 8, 3) := by decide +kernel
theorem dX9_mend_242 : decode cX9_mend 242 = .ok (.iload 7, 2) := by decide +kernel
theorem dX9_mend_244 : decode cX9_mend 244 = .ok (.goto 9, 3) := by decide +kernel
theorem dX9_mend_247 : decode cX9_mend 247 = .ok (.iload 7, 2) := by decide +kernel
theorem dX9_mend_249 : decode cX9_mend 249 = .ok (.iconst 1, 1) := by decide +kernel
theorem dX9_mend_250 : decode cX9_mend 250 = .ok (.iadd, 1) := by decide +kernel
theorem dX9_mend_251 : decode cX9_mend 251 = .ok (.iconst 2, 1) := by decide +kernel
theorem dX9_mend_252 : decode cX9_mend 252 = .ok (.idiv, 1) := by decide +kernel
theorem dX9_mend_253 : decode cX9_mend 253 = .ok (.istore 9, 2) := by decide +kernel
theorem dX9_mend_255 : decode cX9_mend 255 = .ok (.iconst 0, 1) := by decide +kernel
theorem dX9_mend_256 : decode cX9_mend 256 = .ok (.istore 10, 2) := by decide +kernel
theorem dX9_mend_258 : decode cX9_mend 258 = .ok (.iload 10, 2) := by decide +kernel
theorem dX9_mend_260 : decode cX9_mend 260 = .ok (.iload 9, 2) := by decide +kernel
theorem dX9_mend_262 : decode cX9_mend 262 = .ok (.if_icmp .ge 49, 3) := by decide +kernel
theorem dX9_mend_265 : decode cX9_mend 265 = .ok (.aload_n 0, 1) := by decide +kernel
theorem dX9_mend_266 : decode cX9_mend 266 = .ok (.getfield 23, 3) := by decide +kernel
theorem dX9_mend_269 : decode cX9_mend 269 = .ok (.bipush 24, 2) := by decide +kernel
theorem dX9_mend_271 : decode cX9_mend 271 = .ok (.iload 4, 2) := by decide +kernel
theorem dX9_mend_273 : decode cX9_mend 273 = .ok (.imul, 1) := by decide +kernel
theorem dX9_mend_274 : decode cX9_mend 274 = .ok (.iload 10, 2) := by decide +kernel
theorem dX9_mend_276 : decode cX9_mend 276 = .ok (.iadd, 1) := by decide +kernel
theorem dX9_mend_277 : decode cX9_mend 277 = .ok (.aload_n 0, 1) := by decide +kernel
theorem dX9_mend_278 : decode cX9_mend 278 = .ok (.getfield 85, 3) := by decide +kernel
theorem dX9_mend_281 : decode cX9_mend 281 = .ok (.iload 10, 2) := by decide +kernel
theorem dX9_mend_283 : decode cX9_mend 283 = .ok (.iaload, 1) := by decide +kernel
theorem dX9_mend_284 : decode cX9_mend 284 = .ok (.iastore, 1) := by decide +kernel
theorem dX9_mend_285 : decode cX9_mend 285 = .ok (.aload_n 0, 1) := by decide +kernel
theorem dX9_mend_286 : decode cX9_mend 286 = .ok (.getfield 26, 3) := by decide +kernel
theorem dX9_mend_289 : decode cX9_mend 289 = .ok (.bipush 24, 2) := by decide +kernel
theorem dX9_mend_291 : decode cX9_mend 291 = .ok (.iload 4, 2) := by decide +kernel
theorem dX9_mend_293 : decode cX9_mend 293 = .ok (.imul, 1) := by decide +kernel
theorem dX9_mend_294 : decode cX9_mend 294 = .ok (.iload 10, 2) := by decide +kernel
theorem dX9_mend_296 : decode cX9_mend 296 = .ok (.iadd, 1) := by decide +kernel
theorem dX9_mend_297 : decode cX9_mend 297 = .ok (.aload_n 0, 1) := by decide +kernel
theorem dX9_mend_298 : decode cX9_mend 298 = .ok (.getfield 88, 3) := by decide +kernel
theorem dX9_mend_301 : decode cX9_mend 301 = .ok (.iload 10, 2) := by decide +kernel
theorem dX9_mend_303 : decode cX9_mend 303 = .ok (.iaload, 1) := by decide +kernel
theorem dX9_mend_304 : decode cX9_mend 304 = .ok (.iastore, 1) := by decide +kernel
theorem dX9_mend_305 : decode cX9_mend 305 = .ok (.iinc 10 1, 3) := by decide +kernel
theorem dX9_mend_308 : decode cX9_mend 308 = .ok (.goto (-50), 3) := by decide +kernel
theorem dX9_mend_311 : decode cX9_mend 311 = .ok (.aload_n 0, 1) := by decide +kernel
theorem dX9_mend_312 : decode cX9_mend 312 = .ok (.getfield 17, 3) := by decide +kernel
theorem dX9_mend_315 : decode cX9_mend 315 = .ok (.iload 4, 2) := by decide +kernel
theorem dX9_mend_317 : decode cX9_mend 317 = .ok (.iload 9, 2) := by decide +kernel
theorem dX9_mend_319 : decode cX9_mend 319 = .ok (.iastore, 1) := by decide +kernel
theorem dX9_mend_320 : decode cX9_mend 320 = .ok (.aload_n 0, 1) := by decide +kernel
theorem dX9_mend_321 : decode cX9_mend 321 = .ok (.iload 4, 2) := by decide +kernel
theorem dX9_mend_323 : decode cX9_mend 323 = .ok (.invokevirtual 200, 3) := by decide +kernel
theorem dX9_mend_326 : decode cX9_mend 326 = .ok (.aload_n 0, 1) := by decide +kernel
theorem dX9_mend_327 : decode cX9_mend 327 = .ok (.aload_n 0, 1) := by decide +kernel
theorem dX9_mend_328 : decode cX9_mend 328 = .ok (.getfield 29, 3) := by decide +kernel
theorem dX9_mend_331 : decode cX9_mend 331 = .ok (.iload 4, 2) := by decide +kernel
theorem dX9_mend_333 : decode cX9_mend 333 = .ok (.baload, 1) := by decide +kernel
theorem dX9_mend_334 : decode cX9_mend 334 = .ok (.ifCond .ne 7, 3) := by decide +kernel
theorem dX9_mend_337 : decode cX9_mend 337 = .ok (.iconst 1, 1) := by decide +kernel
theorem dX9_mend_338 : decode cX9_mend 338 = .ok (.goto 4, 3) := by decide +kernel
theorem dX9_mend_341 : decode cX9_mend 341 = .ok (.iconst 0, 1) := by decide +kernel
theorem dX9_mend_342 : decode cX9_mend 342 = .ok (.putfield 208, 3) := by decide +kernel
theorem dX9_mend_345 : decode cX9_mend 345 = .ok (.iload 8, 2) := by decide +kernel
theorem dX9_mend_347 : decode cX9_mend 347 = .ok (.ifCond .eq 23, 3) := by decide +kernel
theorem dX9_mend_350 : decode cX9_mend 350 = .ok (.aload_n 0, 1) := by decide +kernel
theorem dX9_mend_351 : decode cX9_mend 351 = .ok (.getfield 13, 3) := by decide +kernel
theorem dX9_mend_354 : decode cX9_mend 354 = .ok (.iload 5, 2) := by decide +kernel
theorem dX9_mend_356 : decode cX9_mend 356 = .ok (.iconst 0, 1) := by decide +kernel
theorem dX9_mend_357 : decode cX9_mend 357 = .ok (.iastore, 1) := by decide +kernel
theorem dX9_mend_358 : decode cX9_mend 358 = .ok (.aload_n 0, 1) := by decide +kernel
theorem dX9_mend_359 : decode cX9_mend 359 = .ok (.iload_n 1, 1) := by decide +kernel
theorem dX9_mend_360 : decode cX9_mend 360 = .ok (.iload_n 3, 1) := by decide +kernel
theorem dX9_mend_361 : decode cX9_mend 361 = .ok (.invokevirtual 211, 3) := by decide +kernel
theorem dX9_mend_364 : decode cX9_mend 364 = .ok (.aload_n 0, 1) := by decide +kernel
theorem dX9_mend_365 : decode cX9_mend 365 = .ok (.iconst 1, 1) := by decide +kernel
theorem dX9_mend_366 : decode cX9_mend 366 = .ok (.putfield 215, 3) := by decide +kernel
theorem dX9_mend_369 : decode cX9_mend 369 = .ok (.return_, 1) := by decide +kernel
theorem dX9_mend_370 : decode cX9_mend 370 = .ok (.iload 9, 2) := by decide +kernel
theorem dX9_mend_372 : decode cX9_mend 372 = .ok (.istore 10, 2) := by decide +kernel
theorem dX9_mend_374 : decode cX9_mend 374 = .ok (.iload 10, 2) := by decide +kernel
theorem dX9_mend_376 : decode cX9_mend 376 = .ok (.iload 7, 2) := by decide +kernel
theorem dX9_mend_378 : decode cX9_mend 378 = .ok (.if_icmp .ge 55, 3) := by decide +kernel
theorem dX9_mend_381 : decode cX9_mend 381 = .ok (.aload_n 0, 1) := by decide +kernel
theorem dX9_mend_382 : decode cX9_mend 382 = .ok (.getfield 23, 3) := by decide +kernel
theorem dX9_mend_385 : decode cX9_mend 385 = .ok (.bipush 24, 2) := by decide +kernel
theorem dX9_mend_387 : decode cX9_mend 387 = .ok (.iload 5, 2) := by decide +kernel
theorem dX9_mend_389 : decode cX9_mend 389 = .ok (.imul, 1) := by decide +kernel
theorem dX9_mend_390 : decode cX9_mend 390 = .ok (.iload 10, 2) := by decide +kernel
theorem dX9_mend_392 : decode cX9_mend 392 = .ok (.iadd, 1) := by decide +kernel
theorem dX9_mend_393 : decode cX9_mend 393 = .ok (.iload 9, 2) := by decide +kernel
theorem dX9_mend_395 : decode cX9_mend 395 = .ok (.isub, 1) := by decide +kernel
theorem dX9_mend_396 : decode cX9_mend 396 = .ok (.aload_n 0, 1) := by decide +kernel
theorem dX9_mend_397 : decode cX9_mend 397 = .ok (.getfield 85, 3) := by decide +kernel
theorem dX9_mend_400 : decode cX9_mend 400 = .ok (.iload 10, 2) := by decide +kernel
theorem dX9_mend_402 : decode cX9_mend 402 = .ok (.iaload, 1) := by decide +kernel
theorem dX9_mend_403 : decode cX9_mend 403 = .ok (.iastore, 1) := by decide +kernel
theorem dX9_mend_404 : decode cX9_mend 404 = .ok (.aload_n 0, 1) := by decide +kernel
theorem dX9_mend_405 : decode cX9_mend 405 = .ok (.getfield 26, 3) := by decide +kernel
theorem dX9_mend_408 : decode cX9_mend 408 = .ok (.bipush 24, 2) := by decide +kernel
theorem dX9_mend_410 : decode cX9_mend 410 = .ok (.iload 5, 2) := by decide +kernel
theorem dX9_mend_412 : decode cX9_mend 412 = .ok (.imul, 1) := by decide +kernel
theorem dX9_mend_413 : decode cX9_mend 413 = .ok (.iload 10, 2) := by decide +kernel
theorem dX9_mend_415 : decode cX9_mend 415 = .ok (.iadd, 1) := by decide +kernel
theorem dX9_mend_416 : decode cX9_mend 416 = .ok (.iload 9, 2) := by decide +kernel
theorem dX9_mend_418 : decode cX9_mend 418 = .ok (.isub, 1) := by decide +kernel
theorem dX9_mend_419 : decode cX9_mend 419 = .ok (.aload_n 0, 1) := by decide +kernel
theorem dX9_mend_420 : decode cX9_mend 420 = .ok (.getfield 88, 3) := by decide +kernel
theorem dX9_mend_423 : decode cX9_mend 423 = .ok (.iload 10, 2) := by decide +kernel
theorem dX9_mend_425 : decode cX9_mend 425 = .ok (.iaload, 1) := by decide +kernel
theorem dX9_mend_426 : decode cX9_mend 426 = .ok (.iastore, 1) := by decide +kernel
theorem dX9_mend_427 : decode cX9_mend 427 = .ok (.iinc 10 1, 3) := by decide +kernel
theorem dX9_mend_430 : decode cX9_mend 430 = .ok (.goto (-56), 3) := by decide +kernel
theorem dX9_mend_433 : decode cX9_mend 433 = .ok (.aload_n 0, 1) := by decide +kernel
theorem dX9_mend_434 : decode cX9_mend 434 = .ok (.getfield 17, 3) := by decide +kernel
theorem dX9_mend_437 : decode cX9_mend 437 = .ok (.iload 5, 2) := by decide +kernel
theorem dX9_mend_439 : decode cX9_mend 439 = .ok (.iload 7, 2) := by decide +kernel
theorem dX9_mend_441 : decode cX9_mend 441 = .ok (.iload 9, 2) := by decide +kernel
theorem dX9_mend_443 : decode cX9_mend 443 = .ok (.isub, 1) := by decide +kernel
theorem dX9_mend_444 : decode cX9_mend 444 = .ok (.iastore, 1) := by decide +kernel
theorem dX9_mend_445 : decode cX9_mend 445 = .ok (.aload_n 0, 1) := by decide +kernel
theorem dX9_mend_446 : decode cX9_mend 446 = .ok (.iload 5, 2) := by decide +kernel
theorem dX9_mend_448 : decode cX9_mend 448 = .ok (.invokevirtual 200, 3) := by decide +kernel
theorem dX9_mend_451 : decode cX9_mend 451 = .ok (.aload_n 0, 1) := by decide +kernel
theorem dX9_mend_452 : decode cX9_mend 452 = .ok (.aload_n 0, 1) := by decide +kernel
theorem dX9_mend_453 : decode cX9_mend 453 = .ok (.getfield 208, 3) := by decide +kernel
theorem dX9_mend_456 : decode cX9_mend 456 = .ok (.ifCond .ne 13, 3) := by decide +kernel
theorem dX9_mend_459 : decode cX9_mend 459 = .ok (.aload_n 0, 1) := by decide +kernel
theorem dX9_mend_460 : decode cX9_mend 460 = .ok (.getfield 29, 3) := by decide +kernel
theorem dX9_mend_463 : decode cX9_mend 463 = .ok (.iload 5, 2) := by decide +kernel
theorem dX9_mend_465 : decode cX9_mend 465 = .ok (.baload, 1) := by decide +kernel
theorem dX9_mend_466 : decode cX9_mend 466 = .ok (.ifCond .ne 7, 3) := by decide +kernel
theorem dX9_mend_469 : decode cX9_mend 469 = .ok (.iconst 1, 1) := by decide +kernel
theorem dX9_mend_470 : decode cX9_mend 470 = .ok (.goto 4, 3) := by decide +kernel
theorem dX9_mend_473 : decode cX9_mend 473 = .ok (.iconst 0, 1) := by decide +kernel
theorem dX9_mend_474 : decode cX9_mend 474 = .ok (.putfield 208, 3) := by decide +kernel
theorem dX9_mend_477 : decode cX9_mend 477 = .ok (.aload_n 0, 1) := by decide +kernel
theorem dX9_mend_478 : decode cX9_mend 478 = .ok (.aload_n 0, 1) := by decide +kernel
theorem dX9_mend_479 : decode cX9_mend 479 = .ok (.getfield 85, 3) := by decide +kernel
theorem dX9_mend_482 : decode cX9_mend 482 = .ok (.iload 9, 2) := by decide +kernel
theorem dX9_mend_484 : decode cX9_mend 484 = .ok (.iaload, 1) := by decide +kernel
theorem dX9_mend_485 : decode cX9_mend 485 = .ok (.iload 6, 2) := by decide +kernel
theorem dX9_mend_487 : decode cX9_mend 487 = .ok (.if_icmp .eq 7, 3) := by decide +kernel
theorem dX9_mend_490 : decode cX9_mend 490 = .ok (.iconst 1, 1) := by decide +kernel
theorem dX9_mend_491 : decode cX9_mend 491 = .ok (.goto 4, 3) := by decide +kernel
theorem dX9_mend_494 : decode cX9_mend 494 = .ok (.iconst 0, 1) := by decide +kernel
theorem dX9_mend_495 : decode cX9_mend 495 = .ok (.putfield 215, 3) := by decide +kernel
theorem dX9_mend_498 : decode cX9_mend 498 = .ok (.aload_n 0, 1) := by decide +kernel
theorem dX9_mend_499 : decode cX9_mend 499 = .ok (.getfield 23, 3) := by decide +kernel
theorem dX9_mend_502 : decode cX9_mend 502 = .ok (.bipush 24, 2) := by decide +kernel
theorem dX9_mend_504 : decode cX9_mend 504 = .ok (.iload_n 1, 1) := by decide +kernel
theorem dX9_mend_505 : decode cX9_mend 505 = .ok (.imul, 1) := by decide +kernel
theorem dX9_mend_506 : decode cX9_mend 506 = .ok (.iload_n 3, 1) := by decide +kernel
theorem dX9_mend_507 : decode cX9_mend 507 = .ok (.iadd, 1) := by decide +kernel
theorem dX9_mend_508 : decode cX9_mend 508 = .ok (.aload_n 0, 1) := by decide +kernel
theorem dX9_mend_509 : decode cX9_mend 509 = .ok (.getfield 85, 3) := by decide +kernel
theorem dX9_mend_512 : decode cX9_mend 512 = .ok (.iload 9, 2) := by decide +kernel
theorem dX9_mend_514 : decode cX9_mend 514 = .ok (.iaload, 1) := by decide +kernel
theorem dX9_mend_515 : decode cX9_mend 515 = .ok (.iastore, 1) := by decide +kernel
theorem dX9_mend_516 : decode cX9_mend 516 = .ok (.return_, 1) := by decide +kernel
def v_X9_mend : List Cond := .code yX9_mend cX9_mend 11 none :: ([.fieldLink RX9 26 "TwinRootsModel" "vals" "[I", .fieldLink RX9 23 "TwinRootsModel" "keys" "[I", .fieldLink RX9 17 "TwinRootsModel" "many" "[I", .code yX9_writes cX9_writes 2 none, .fieldLink RX9 73 "TwinRootsModel" "written" "[I", .fieldLink RX9 167 "TwinRootsModel" "writtenMany" "I", .methodLink RX9 200 yX9_writes, .instanceMethod yX9_writes, .selects RX9 yX9_writes yX9_writes, .initialized RX9, .fieldLink RX9 208 "TwinRootsModel" "moved" "Z", .fieldLink RX9 13 "TwinRootsModel" "kind" "[I", .code yX9_erase cX9_erase 4 none, .methodLink RX9 211 yX9_erase, .instanceMethod yX9_erase, .selects RX9 yX9_erase yX9_erase, .fieldLink RX9 215 "TwinRootsModel" "isOther" "Z", .fieldLink RX9 29 "TwinRootsModel" "isFresh" "[Z", .fieldLink RX9 85 "TwinRootsModel" "bothKeys" "[I", .fieldLink RX9 88 "TwinRootsModel" "bothVals" "[I", .fieldLink RX9 109 "TwinRootsModel" "cmost" "I", .fieldLink RX9 106 "TwinRootsModel" "lmost" "I"] ++ (wsX90 ++ ([])))
set_option maxRecDepth 20000 in
theorem g_X9_mend_X9_writes : GoodIn v_X9_mend (wsV RX9 200 RX9 yX9_writes v_X9_writes) := goodIn_r _ [7, 8, 9, 10, 4, 5, 6, 23, 24, 25, 26, 27, 28, 29, 30, 31, 32, 33, 34, 35, 36, 37, 38, 39, 40, 41, 42, 43, 44, 45, 46, 47, 48, 49, 50, 51, 52, 53, 54, 55, 56, 57, 58, 59, 60, 61, 62, 63, 64, 65, 66, 67, 68, 69, 70, 71, 72] (by decide +kernel) (by decide +kernel)
set_option maxRecDepth 20000 in
theorem g_X9_mend_X9_erase : GoodIn v_X9_mend (wsV RX9 211 RX9 yX9_erase v_X9_erase) := goodIn_r _ [14, 15, 16, 10, 13, 3, 2, 1, 23, 24, 25, 26, 27, 28, 29, 30, 31, 32, 33, 34, 35, 36, 37, 38, 39, 40, 41, 42, 43, 44, 45, 46, 47, 48, 49, 50, 51, 52, 53, 54, 55, 56, 57, 58, 59, 60, 61, 62, 63, 64, 65, 66, 67, 68, 69, 70, 71, 72] (by decide +kernel) (by decide +kernel)
set_option maxHeartbeats 4000000 in
set_option maxRecDepth 100000 in
/-- X9_mend -/
theorem c_X9_mend (l : Launch) (dC : Nat → ClassId) (dI : Nat → Nat → Nat) (sz : Nat) (h0 : Nat) (w : Nat) (b : Nat) (lm : Nat) (cm : Nat) (li : Nat) (ci : Nat) (a_disk : Nat) (a_kind : Nat) (a_many : Nat) (a_block : Nat) (a_keys : Nat) (a_vals : Nat) (a_isFresh : Nat) (a_kindWas : Nat) (a_manyWas : Nat) (a_blockWas : Nat) (a_keysWas : Nat) (a_valsWas : Nat) (a_freshWas : Nat) (a_reached : Nat) (a_oldKeys : Nat) (a_oldVals : Nat) (a_allKeys : Nat) (a_allVals : Nat) (a_row : Nat) (a_written : Nat) (a_path : Nat) (a_place : Nat) (a_freeRow : Nat) (a_bothKeys : Nat) (a_bothVals : Nat) (v_isDown : Int32) (v_isArmed : Int32) (v_armedWrites : Int32) (v_armedWords : Int32) (v_writes : Int32) (v_root : Int32) (v_rootWas : Int32) (v_latest : Int32) (v_epoch : Int32) (v_oldMany : Int32) (v_allMany : Int32) (v_depth : Int32) (v_isOther : Int32) (v_moved : Int32) (v_leafDepth : Int32) (v_found : Int32) (v_lastKey : Int32) (v_hasLast : Int32) (cI : ClassId) (cZ : ClassId) (k : Nat → Int32) (mm : Nat → Int32) (ks : Nat → Int32) (vl : Nat → Int32) (fr : Nat → Int32) (wt : Nat → Int32) (bK : Nat → Int32) (bV : Nat → Int32) (x0 : Nat) (a0 : Nat) (r0 : Nat) (l0 : Nat) (r1 : Nat) (np : Nat) (nl : Nat) (nr : Nat) (wm : Nat) (hxx : x0 < 140) (hr0 : (0 < a0 ∧ r0 = a0) ∨ (a0 = 0 ∧ r0 = 1)) (hrn : r0 < np) (hr2 : 1 ≤ r0) (hnp : np ≤ 19) (hmp : mm x0 = nI np) (hl0 : vl (24 * x0 + r0 - 1) = nI l0) (hr1 : vl (24 * x0 + r0) = nI r1) (hb1 : l0 < 140) (hb2 : r1 < 140) (hne : l0 ≠ r1) (hxl : x0 ≠ l0) (hmL : mm l0 = nI nl) (hmR : mm r1 = nI nr) (hnl : nl ≤ 19) (hnr : nr ≤ 19) (hwm : wm ≤ 60) (zlm : lm ≤ 18) (zcm0 : 5 ≤ cm) (zcm : cm ≤ 19) : Met l yX9_mend v_X9_mend ({ frames := 1, cells := 0, slots := 0, locals := 23 } : Room) (va_Pc [.ref h0, .int (nI x0), .int (nI a0)] (fun U => U.heap.size = sz ∧ va_P (dC, dI) vwCl [MO9 h0 (nI w) (nI b) (nI lm) (nI cm) (nI li) (nI ci) a_disk v_isDown v_isArmed v_armedWrites v_armedWords v_writes a_kind a_many a_block a_keys a_vals a_isFresh a_kindWas a_manyWas a_blockWas a_keysWas a_valsWas a_freshWas v_root v_rootWas v_latest v_epoch a_reached a_oldKeys a_oldVals a_allKeys a_allVals v_oldMany v_allMany a_row a_written (nI wm) a_path a_place v_depth a_freeRow v_isOther v_moved a_bothKeys a_bothVals v_leafDepth v_found v_lastKey v_hasLast, MA9 a_kind cI 140 k, MA9 a_many cI 140 mm, MA9 a_keys cI 3360 ks, MA9 a_vals cI 3360 vl, MA9 a_isFresh cZ 140 fr, MA9 a_written cI 64 wt, MA9 a_bothKeys cI 48 bK, MA9 a_bothVals cI 48 bV] U.heap ∧ va_K (dC, dI) vwCl [(cI, .int), (cZ, .boolean)] U ∧ va_D (fun _ => True) [MO9 h0 (nI w) (nI b) (nI lm) (nI cm) (nI li) (nI ci) a_disk v_isDown v_isArmed v_armedWrites v_armedWords v_writes a_kind a_many a_block a_keys a_vals a_isFresh a_kindWas a_manyWas a_blockWas a_keysWas a_valsWas a_freshWas v_root v_rootWas v_latest v_epoch a_reached a_oldKeys a_oldVals a_allKeys a_allVals v_oldMany v_allMany a_row a_written (nI wm) a_path a_place v_depth a_freeRow v_isOther v_moved a_bothKeys a_bothVals v_leafDepth v_found v_lastKey v_hasLast, MA9 a_kind cI 140 k, MA9 a_many cI 140 mm, MA9 a_keys cI 3360 ks, MA9 a_vals cI 3360 vl, MA9 a_isFresh cZ 140 fr, MA9 a_written cI 64 wt, MA9 a_bothKeys cI 48 bK, MA9 a_bothVals cI 48 bV])) (va_Qv (fun (u : Int32 × Int32 × (Nat → Int32) × (Nat → Int32) × (Nat → Int32) × (Nat → Int32) × (Nat → Int32) × (Nat → Int32) × (Nat → Int32) × Nat) => match u with | (v_isOther2, v_moved2, k2, mm2, ks2, vl2, wt2, bK2, bV2, wm2) => MendR k mm vl wt k2 mm2 vl2 wt2 x0 r0 l0 r1 np nl nr wm wm2 v_isOther2) (fun (u : Int32 × Int32 × (Nat → Int32) × (Nat → Int32) × (Nat → Int32) × (Nat → Int32) × (Nat → Int32) × (Nat → Int32) × (Nat → Int32) × Nat) (t : State) => match u with | (v_isOther2, v_moved2, k2, mm2, ks2, vl2, wt2, bK2, bV2, wm2) => va_P (dC, dI) vwCl [MO9 h0 (nI w) (nI b) (nI lm) (nI cm) (nI li) (nI ci) a_disk v_isDown v_isArmed v_armedWrites v_armedWords v_writes a_kind a_many a_block a_keys a_vals a_isFresh a_kindWas a_manyWas a_blockWas a_keysWas a_valsWas a_freshWas v_root v_rootWas v_latest v_epoch a_reached a_oldKeys a_oldVals a_allKeys a_allVals v_oldMany v_allMany a_row a_written (nI wm2) a_path a_place v_depth a_freeRow v_isOther2 v_moved2 a_bothKeys a_bothVals v_leafDepth v_found v_lastKey v_hasLast, MA9 a_kind cI 140 k2, MA9 a_many cI 140 mm2, MA9 a_keys cI 3360 ks2, MA9 a_vals cI 3360 vl2, MA9 a_isFresh cZ 140 fr, MA9 a_written cI 64 wt2, MA9 a_bothKeys cI 48 bK2, MA9 a_bothVals cI 48 bV2] t.heap ∧ va_K (dC, dI) vwCl [(cI, .int), (cZ, .boolean)] t ∧ va_D (va_A [MO9 h0 (nI w) (nI b) (nI lm) (nI cm) (nI li) (nI ci) a_disk v_isDown v_isArmed v_armedWrites v_armedWords v_writes a_kind a_many a_block a_keys a_vals a_isFresh a_kindWas a_manyWas a_blockWas a_keysWas a_valsWas a_freshWas v_root v_rootWas v_latest v_epoch a_reached a_oldKeys a_oldVals a_allKeys a_allVals v_oldMany v_allMany a_row a_written (nI wm) a_path a_place v_depth a_freeRow v_isOther v_moved a_bothKeys a_bothVals v_leafDepth v_found v_lastKey v_hasLast, MA9 a_kind cI 140 k, MA9 a_many cI 140 mm, MA9 a_keys cI 3360 ks, MA9 a_vals cI 3360 vl, MA9 a_isFresh cZ 140 fr, MA9 a_written cI 64 wt, MA9 a_bothKeys cI 48 bK, MA9 a_bothVals cI 48 bV] sz) [MO9 h0 (nI w) (nI b) (nI lm) (nI cm) (nI li) (nI ci) a_disk v_isDown v_isArmed v_armedWrites v_armedWords v_writes a_kind a_many a_block a_keys a_vals a_isFresh a_kindWas a_manyWas a_blockWas a_keysWas a_valsWas a_freshWas v_root v_rootWas v_latest v_epoch a_reached a_oldKeys a_oldVals a_allKeys a_allVals v_oldMany v_allMany a_row a_written (nI wm2) a_path a_place v_depth a_freeRow v_isOther2 v_moved2 a_bothKeys a_bothVals v_leafDepth v_found v_lastKey v_hasLast, MA9 a_kind cI 140 k2, MA9 a_many cI 140 mm2, MA9 a_keys cI 3360 ks2, MA9 a_vals cI 3360 vl2, MA9 a_isFresh cZ 140 fr, MA9 a_written cI 64 wt2, MA9 a_bothKeys cI 48 bK2, MA9 a_bothVals cI 48 bV2]) (va_A [MO9 h0 (nI w) (nI b) (nI lm) (nI cm) (nI li) (nI ci) a_disk v_isDown v_isArmed v_armedWrites v_armedWords v_writes a_kind a_many a_block a_keys a_vals a_isFresh a_kindWas a_manyWas a_blockWas a_keysWas a_valsWas a_freshWas v_root v_rootWas v_latest v_epoch a_reached a_oldKeys a_oldVals a_allKeys a_allVals v_oldMany v_allMany a_row a_written (nI wm) a_path a_place v_depth a_freeRow v_isOther v_moved a_bothKeys a_bothVals v_leafDepth v_found v_lastKey v_hasLast, MA9 a_kind cI 140 k, MA9 a_many cI 140 mm, MA9 a_keys cI 3360 ks, MA9 a_vals cI 3360 vl, MA9 a_isFresh cZ 140 fr, MA9 a_written cI 64 wt, MA9 a_bothKeys cI 48 bK, MA9 a_bothVals cI 48 bV] sz)) 0 0 (va_A [MO9 h0 (nI w) (nI b) (nI lm) (nI cm) (nI li) (nI ci) a_disk v_isDown v_isArmed v_armedWrites v_armedWords v_writes a_kind a_many a_block a_keys a_vals a_isFresh a_kindWas a_manyWas a_blockWas a_keysWas a_valsWas a_freshWas v_root v_rootWas v_latest v_epoch a_reached a_oldKeys a_oldVals a_allKeys a_allVals v_oldMany v_allMany a_row a_written (nI wm) a_path a_place v_depth a_freeRow v_isOther v_moved a_bothKeys a_bothVals v_leafDepth v_found v_lastKey v_hasLast, MA9 a_kind cI 140 k, MA9 a_many cI 140 mm, MA9 a_keys cI 3360 ks, MA9 a_vals cI 3360 vl, MA9 a_isFresh cZ 140 fr, MA9 a_written cI 64 wt, MA9 a_bothKeys cI 48 bK, MA9 a_bothVals cI 48 bV] sz) := by
  refine Met.ofW (cc := cX9_mend) (maxL := 11) (ret := none) (by decide) rfl ?_
  intro p e s m args below meth c s₁ B hml hv
  obtain ⟨rfl, hsz, hP, hK, hD0⟩ := hv
  have hx := B.exec
  have hb := B.bytes
  have hr := B.returns
  have hts := atoms_spec (ws := v_X9_mend) B.pre
  have hown : s.vm.findClass RX9 = some m.cls := findClass_of_methodNamed B.named
  have hlocks := B.notSynchronized
  subst hsz
  have hD := hD0.self (sz := s.heap.size)
  generalize hAe : va_A [MO9 h0 (nI w) (nI b) (nI lm) (nI cm) (nI li) (nI ci) a_disk v_isDown v_isArmed v_armedWrites v_armedWords v_writes a_kind a_many a_block a_keys a_vals a_isFresh a_kindWas a_manyWas a_blockWas a_keysWas a_valsWas a_freshWas v_root v_rootWas v_latest v_epoch a_reached a_oldKeys a_oldVals a_allKeys a_allVals v_oldMany v_allMany a_row a_written (nI wm) a_path a_place v_depth a_freeRow v_isOther v_moved a_bothKeys a_bothVals v_leafDepth v_found v_lastKey v_hasLast, MA9 a_kind cI 140 k, MA9 a_many cI 140 mm, MA9 a_keys cI 3360 ks, MA9 a_vals cI 3360 vl, MA9 a_isFresh cZ 140 fr, MA9 a_written cI 64 wt, MA9 a_bothKeys cI 48 bK, MA9 a_bothVals cI 48 bV] s.heap.size = A at hD ⊢
  have hA : ∀ q : Nat, s.heap.size ≤ q → A q := fun q h => by rw [← hAe]; exact Or.inr h
  have hS : va_S A s.heap s.heap [] := va_S.rf
  have hP : va_P (dC, dI) vwCl [MO9 h0 (nI w) (nI b) (nI lm) (nI cm) (nI li) (nI ci) a_disk v_isDown v_isArmed v_armedWrites v_armedWords v_writes a_kind a_many a_block a_keys a_vals a_isFresh a_kindWas a_manyWas a_blockWas a_keysWas a_valsWas a_freshWas v_root v_rootWas v_latest v_epoch a_reached a_oldKeys a_oldVals a_allKeys a_allVals v_oldMany v_allMany a_row a_written (nI wm) a_path a_place v_depth a_freeRow v_isOther v_moved a_bothKeys a_bothVals v_leafDepth v_found v_lastKey v_hasLast, MA9 a_kind cI 140 k, MA9 a_many cI 140 mm, MA9 a_keys cI 3360 ks, MA9 a_vals cI 3360 vl, MA9 a_isFresh cZ 140 fr, MA9 a_written cI 64 wt, MA9 a_bothKeys cI 48 bK, MA9 a_bothVals cI 48 bV] s.heap := hP
  have hl := lv_entry ([.ref h0, .int (nI x0), .int (nI a0)]) (n := 11) (Nat.le_of_ble_eq_true rfl)
  rw [lg_entry_eq]
  generalize (lg_sl ([.ref h0, .int (nI x0), .int (nI a0)]) ++ List.replicate (11 - (lg_sl ([.ref h0, .int (nI x0), .int (nI a0)])).length) Slot.unset).toArray = ls at hl ⊢
  have hl : lv_has ls 11 [(0, .ref h0), (1, .int (nI x0)), (2, .int (nI a0))] := hl
  have k_1 := (fun _ h => List.mem_cons_of_mem _ (List.mem_append_right _ (List.mem_append_left _ h)) : ∀ w ∈ wsX90, w ∈ v_X9_mend)
  have k_2 := hts (.fieldLink RX9 26 "TwinRootsModel" "vals" "[I") (List.mem_of_getElem? (i := 1) rfl)
  have k_3 := hts (.fieldLink RX9 23 "TwinRootsModel" "keys" "[I") (List.mem_of_getElem? (i := 2) rfl)
  have k_4 := hts (.fieldLink RX9 17 "TwinRootsModel" "many" "[I") (List.mem_of_getElem? (i := 3) rfl)
  have k_5 := hts (.fieldLink RX9 208 "TwinRootsModel" "moved" "Z") (List.mem_of_getElem? (i := 11) rfl)
  have k_6 := hts (.fieldLink RX9 13 "TwinRootsModel" "kind" "[I") (List.mem_of_getElem? (i := 12) rfl)
  have k_7 := hts (.fieldLink RX9 215 "TwinRootsModel" "isOther" "Z") (List.mem_of_getElem? (i := 17) rfl)
  have k_8 := hts (.fieldLink RX9 29 "TwinRootsModel" "isFresh" "[Z") (List.mem_of_getElem? (i := 18) rfl)
  have k_9 := hts (.fieldLink RX9 85 "TwinRootsModel" "bothKeys" "[I") (List.mem_of_getElem? (i := 19) rfl)
  have k_10 := hts (.fieldLink RX9 88 "TwinRootsModel" "bothVals" "[I") (List.mem_of_getElem? (i := 20) rfl)
  have k_11 := hts (.fieldLink RX9 109 "TwinRootsModel" "cmost" "I") (List.mem_of_getElem? (i := 21) rfl)
  have k_12 := hts (.fieldLink RX9 106 "TwinRootsModel" "lmost" "I") (List.mem_of_getElem? (i := 22) rfl)
  refine jn_cut (P := fun Q => ∀ (rq : Int32) (H : Heap) (locs : List Loc) (ls : Array Slot), (rq = nI r0) → va_P (dC, dI) vwCl [MO9 h0 (nI w) (nI b) (nI lm) (nI cm) (nI li) (nI ci) a_disk v_isDown v_isArmed v_armedWrites v_armedWords v_writes a_kind a_many a_block a_keys a_vals a_isFresh a_kindWas a_manyWas a_blockWas a_keysWas a_valsWas a_freshWas v_root v_rootWas v_latest v_epoch a_reached a_oldKeys a_oldVals a_allKeys a_allVals v_oldMany v_allMany a_row a_written (nI wm) a_path a_place v_depth a_freeRow v_isOther v_moved a_bothKeys a_bothVals v_leafDepth v_found v_lastKey v_hasLast, MA9 a_kind cI 140 k, MA9 a_many cI 140 mm, MA9 a_keys cI 3360 ks, MA9 a_vals cI 3360 vl, MA9 a_isFresh cZ 140 fr, MA9 a_written cI 64 wt, MA9 a_bothKeys cI 48 bK, MA9 a_bothVals cI 48 bV] H → va_D A [MO9 h0 (nI w) (nI b) (nI lm) (nI cm) (nI li) (nI ci) a_disk v_isDown v_isArmed v_armedWrites v_armedWords v_writes a_kind a_many a_block a_keys a_vals a_isFresh a_kindWas a_manyWas a_blockWas a_keysWas a_valsWas a_freshWas v_root v_rootWas v_latest v_epoch a_reached a_oldKeys a_oldVals a_allKeys a_allVals v_oldMany v_allMany a_row a_written (nI wm) a_path a_place v_depth a_freeRow v_isOther v_moved a_bothKeys a_bothVals v_leafDepth v_found v_lastKey v_hasLast, MA9 a_kind cI 140 k, MA9 a_many cI 140 mm, MA9 a_keys cI 3360 ks, MA9 a_vals cI 3360 vl, MA9 a_isFresh cZ 140 fr, MA9 a_written cI 64 wt, MA9 a_bothKeys cI 48 bK, MA9 a_bothVals cI 48 bV] → va_S A s.heap H locs → lv_has ls 11 [(0, .ref h0), (1, .int (nI x0)), (2, .int (nI a0))] → W p l e (headSpec v_X9_mend ({ frames := 1, cells := 0, slots := 0, locals := 23 } : Room)).room s m ([.ref h0, .int (nI x0), .int (nI a0)] : List Value).toArray below meth c H locs 0 0 Q (F0 m 9 ls [.int rq])) ?_ (fun jn_1 => ?_)
  · intro rq H locs ls hrq hP hD hS hl
    subst hrq
    refine lv_istore_n (lv' := [(3, .int (nI r0)), (0, .ref h0), (1, .int (nI x0)), (2, .int (nI a0))]) hx hb dX9_mend_9 rfl hl (by decide) rfl (fun ls hl9 => ?_)
    replace hl := hl9
    clear hl9
    refine lv_aload_n hx hb dX9_mend_10 rfl (lv_at hl 1 rfl) ?_
    refine va_get (D := (dC, dI)) (ci := 9) (v := .ref a_vals) (C := RX9) (T := TX9) (N := 50) hx hb hts k_1 hown hK hP 0 rfl rfl 16 (by decide) k_2 (fun _ h9 => h9) rfl dX9_mend_11 ?_
    refine lv_bipush (v := 24) hx hb dX9_mend_14 (by decide) ?_
    refine lv_iload_n hx hb dX9_mend_16 rfl (lv_at hl 2 rfl) ?_
    refine lv_imul hx hb dX9_mend_17 ?_
    refine lv_topi (fun z_2 ez_2 => ?_)
    obtain rfl : z_2 = nI (24 * x0) := ez_2.trans (pk_mul 24 x0)
    refine lv_iload_n hx hb dX9_mend_18 rfl (lv_at hl 0 rfl) ?_
    refine lv_iadd hx hb dX9_mend_19 ?_
    refine lv_topi (fun z_3 ez_3 => ?_)
    obtain rfl : z_3 = nI (24 * x0 + r0) := ez_3.trans (nI_add (24 * x0) r0)
    refine lv_iconst (v := 1) hx hb dX9_mend_20 (by decide) ?_
    refine lv_isub hx hb dX9_mend_21 ?_
    refine lv_topi (fun z_4 ez_4 => ?_)
    obtain rfl : z_4 = nI (24 * x0 + r0 - 1) := ez_4.trans (pk_sub (a := 24 * x0 + r0) (b := 1) (by omega))
    refine va_iald hx hb hK hP 4 0 rfl rfl (show vp_in (nI (24 * x0 + r0 - 1)) 3360 from vp_in_nI (by omega) (by omega)) dX9_mend_22 ?_
    refine lv_topi (fun z_5 ez_5 => ?_)
    obtain rfl : z_5 = nI l0 := ez_5.trans ((congrArg vl (nI_clamp (by omega))).trans (hl0))
    refine lv_istore (lv' := [(4, .int (nI l0)), (3, .int (nI r0)), (0, .ref h0), (1, .int (nI x0)), (2, .int (nI a0))]) hx hb dX9_mend_23 hl (by decide) rfl (fun ls hl9 => ?_)
    replace hl := hl9
    clear hl9
    refine lv_aload_n hx hb dX9_mend_25 rfl (lv_at hl 2 rfl) ?_
    refine va_get (D := (dC, dI)) (ci := 9) (v := .ref a_vals) (C := RX9) (T := TX9) (N := 50) hx hb hts k_1 hown hK hP 0 rfl rfl 16 (by decide) k_2 (fun _ h9 => h9) rfl dX9_mend_26 ?_
    refine lv_bipush (v := 24) hx hb dX9_mend_29 (by decide) ?_
    refine lv_iload_n hx hb dX9_mend_31 rfl (lv_at hl 3 rfl) ?_
    refine lv_imul hx hb dX9_mend_32 ?_
    refine lv_topi (fun z_6 ez_6 => ?_)
    obtain rfl : z_6 = nI (24 * x0) := ez_6.trans (pk_mul 24 x0)
    refine lv_iload_n hx hb dX9_mend_33 rfl (lv_at hl 1 rfl) ?_
    refine lv_iadd hx hb dX9_mend_34 ?_
    refine lv_topi (fun z_7 ez_7 => ?_)
    obtain rfl : z_7 = nI (24 * x0 + r0) := ez_7.trans (nI_add (24 * x0) r0)
    refine va_iald hx hb hK hP 4 0 rfl rfl (show vp_in (nI (24 * x0 + r0)) 3360 from vp_in_nI (by omega) (by omega)) dX9_mend_35 ?_
    refine lv_topi (fun z_8 ez_8 => ?_)
    obtain rfl : z_8 = nI r1 := ez_8.trans ((congrArg vl (nI_clamp (by omega))).trans (hr1))
    refine lv_istore (lv' := [(5, .int (nI r1)), (4, .int (nI l0)), (3, .int (nI r0)), (0, .ref h0), (1, .int (nI x0)), (2, .int (nI a0))]) hx hb dX9_mend_36 hl (by decide) rfl (fun ls hl9 => ?_)
    replace hl := hl9
    clear hl9
    refine lv_aload_n hx hb dX9_mend_38 rfl (lv_at hl 3 rfl) ?_
    refine va_get (D := (dC, dI)) (ci := 9) (v := .ref a_keys) (C := RX9) (T := TX9) (N := 50) hx hb hts k_1 hown hK hP 0 rfl rfl 15 (by decide) k_3 (fun _ h9 => h9) rfl dX9_mend_39 ?_
    refine lv_bipush (v := 24) hx hb dX9_mend_42 (by decide) ?_
    refine lv_iload_n hx hb dX9_mend_44 rfl (lv_at hl 4 rfl) ?_
    refine lv_imul hx hb dX9_mend_45 ?_
    refine lv_topi (fun z_9 ez_9 => ?_)
    obtain rfl : z_9 = nI (24 * x0) := ez_9.trans (pk_mul 24 x0)
    refine lv_iload_n hx hb dX9_mend_46 rfl (lv_at hl 2 rfl) ?_
    refine lv_iadd hx hb dX9_mend_47 ?_
    refine lv_topi (fun z_10 ez_10 => ?_)
    obtain rfl : z_10 = nI (24 * x0 + r0) := ez_10.trans (nI_add (24 * x0) r0)
    refine va_iald hx hb hK hP 3 0 rfl rfl (show vp_in (nI (24 * x0 + r0)) 3360 from vp_in_nI (by omega) (by omega)) dX9_mend_48 ?_
    refine lv_topi (fun z_11 ez_11 => ?_)
    obtain rfl : z_11 = ks (24 * x0 + r0) := ez_11.trans (congrArg ks (nI_clamp (by omega)))
    refine lv_istore (lv' := [(6, .int (ks (24 * x0 + r0))), (5, .int (nI r1)), (4, .int (nI l0)), (3, .int (nI r0)), (0, .ref h0), (1, .int (nI x0)), (2, .int (nI a0))]) hx hb dX9_mend_49 hl (by decide) rfl (fun ls hl9 => ?_)
    replace hl := hl9
    clear hl9
    refine lv_iconst (v := 0) hx hb dX9_mend_51 (by decide) ?_
    refine lv_istore (lv' := [(7, .int 0), (6, .int (ks (24 * x0 + r0))), (5, .int (nI r1)), (4, .int (nI l0)), (3, .int (nI r0)), (0, .ref h0), (1, .int (nI x0)), (2, .int (nI a0))]) hx hb dX9_mend_52 hl (by decide) rfl (fun ls hl9 => ?_)
    replace hl := hl9
    clear hl9
    refine lv_iconst (v := 0) hx hb dX9_mend_54 (by decide) ?_
    refine lv_istore (lv' := [(8, .int 0), (7, .int 0), (6, .int (ks (24 * x0 + r0))), (5, .int (nI r1)), (4, .int (nI l0)), (3, .int (nI r0)), (0, .ref h0), (1, .int (nI x0)), (2, .int (nI a0))]) hx hb dX9_mend_55 hl (by decide) rfl (fun ls hl9 => ?_)
    replace hl := hl9
    clear hl9
    refine jn_cut (P := fun Q => ∀ (nf i : Nat) (bkv : Nat → Int32) (bvv : Nat → Int32) (H : Heap) (locs : List Loc) (ls : Array Slot), i ≤ nl → nl + 1 ≤ i + nf → (BoF vl bvv l0 r1 nl i) → va_P (dC, dI) vwCl [MO9 h0 (nI w) (nI b) (nI lm) (nI cm) (nI li) (nI ci) a_disk v_isDown v_isArmed v_armedWrites v_armedWords v_writes a_kind a_many a_block a_keys a_vals a_isFresh a_kindWas a_manyWas a_blockWas a_keysWas a_valsWas a_freshWas v_root v_rootWas v_latest v_epoch a_reached a_oldKeys a_oldVals a_allKeys a_allVals v_oldMany v_allMany a_row a_written (nI wm) a_path a_place v_depth a_freeRow v_isOther v_moved a_bothKeys a_bothVals v_leafDepth v_found v_lastKey v_hasLast, MA9 a_kind cI 140 k, MA9 a_many cI 140 mm, MA9 a_keys cI 3360 ks, MA9 a_vals cI 3360 vl, MA9 a_isFresh cZ 140 fr, MA9 a_written cI 64 wt, MA9 a_bothKeys cI 48 bkv, MA9 a_bothVals cI 48 bvv] H → va_D A [MO9 h0 (nI w) (nI b) (nI lm) (nI cm) (nI li) (nI ci) a_disk v_isDown v_isArmed v_armedWrites v_armedWords v_writes a_kind a_many a_block a_keys a_vals a_isFresh a_kindWas a_manyWas a_blockWas a_keysWas a_valsWas a_freshWas v_root v_rootWas v_latest v_epoch a_reached a_oldKeys a_oldVals a_allKeys a_allVals v_oldMany v_allMany a_row a_written (nI wm) a_path a_place v_depth a_freeRow v_isOther v_moved a_bothKeys a_bothVals v_leafDepth v_found v_lastKey v_hasLast, MA9 a_kind cI 140 k, MA9 a_many cI 140 mm, MA9 a_keys cI 3360 ks, MA9 a_vals cI 3360 vl, MA9 a_isFresh cZ 140 fr, MA9 a_written cI 64 wt, MA9 a_bothKeys cI 48 bkv, MA9 a_bothVals cI 48 bvv] → va_S A s.heap H locs → lv_has ls 11 [(0, .ref h0), (1, .int (nI x0)), (2, .int (nI a0)), (3, .int (nI r0)), (4, .int (nI l0)), (5, .int (nI r1)), (6, .int (ks (24 * x0 + r0))), (7, .int (nI i)), (8, .int (nI i))] → W p l e (headSpec v_X9_mend ({ frames := 1, cells := 0, slots := 0, locals := 23 } : Room)).room s m ([.ref h0, .int (nI x0), .int (nI a0)] : List Value).toArray below meth c H locs 0 0 Q (F0 m 57 ls [])) ?_ (fun loop_57 => ?_)
    · intro nf
      induction nf with
      | zero =>
        intro i bkv bvv H locs ls h1 h2
        exact absurd h2 (by omega)
      | succ nf ih_57 =>
        intro i bkv bvv H locs ls hi hn hbo1 hP hD hS hl
        refine lv_iload hx hb dX9_mend_57 (lv_at hl 8 rfl) ?_
        refine lv_aload_n hx hb dX9_mend_59 rfl (lv_at hl 0 rfl) ?_
        refine va_get (D := (dC, dI)) (ci := 9) (v := .ref a_many) (C := RX9) (T := TX9) (N := 50) hx hb hts k_1 hown hK hP 0 rfl rfl 13 (by decide) k_4 (fun _ h9 => h9) rfl dX9_mend_60 ?_
        refine lv_iload hx hb dX9_mend_63 (lv_at hl 4 rfl) ?_
        refine va_iald hx hb hK hP 2 0 rfl rfl (show vp_in (nI l0) 140 from vp_in_nI (by omega) (by omega)) dX9_mend_65 ?_
        refine lv_topi (fun z_12 ez_12 => ?_)
        obtain rfl : z_12 = nI nl := ez_12.trans ((congrArg mm (nI_clamp (by omega))).trans (hmL))
        refine lv_icmp_ge (tgt := 118) hx hb dX9_mend_66 (by decide) (fun c_13 => ?_) (fun c_13 => ?_)
        · have n_c_13 : nl ≤ i := (nI_leI (a := nl) (b := i) (by omega) (by omega)).mp c_13
          refine lv_iconst (v := 0) hx hb dX9_mend_118 (by decide) ?_
          refine lv_istore (lv' := [(8, .int 0), (0, .ref h0), (1, .int (nI x0)), (2, .int (nI a0)), (3, .int (nI r0)), (4, .int (nI l0)), (5, .int (nI r1)), (6, .int (ks (24 * x0 + r0))), (7, .int (nI i))]) hx hb dX9_mend_119 hl (by decide) rfl (fun ls hl9 => ?_)
          replace hl := hl9
          clear hl9
          refine jn_cut (P := fun Q => ∀ (nf jj : Nat) (n7 : Nat) (bkw : Nat → Int32) (bvw : Nat → Int32) (H : Heap) (locs : List Loc) (ls : Array Slot), jj ≤ nr → nr + 1 ≤ jj + nf → (n7 = nl + jj) → (BoF vl bvw l0 r1 nl n7) → va_P (dC, dI) vwCl [MO9 h0 (nI w) (nI b) (nI lm) (nI cm) (nI li) (nI ci) a_disk v_isDown v_isArmed v_armedWrites v_armedWords v_writes a_kind a_many a_block a_keys a_vals a_isFresh a_kindWas a_manyWas a_blockWas a_keysWas a_valsWas a_freshWas v_root v_rootWas v_latest v_epoch a_reached a_oldKeys a_oldVals a_allKeys a_allVals v_oldMany v_allMany a_row a_written (nI wm) a_path a_place v_depth a_freeRow v_isOther v_moved a_bothKeys a_bothVals v_leafDepth v_found v_lastKey v_hasLast, MA9 a_kind cI 140 k, MA9 a_many cI 140 mm, MA9 a_keys cI 3360 ks, MA9 a_vals cI 3360 vl, MA9 a_isFresh cZ 140 fr, MA9 a_written cI 64 wt, MA9 a_bothKeys cI 48 bkw, MA9 a_bothVals cI 48 bvw] H → va_D A [MO9 h0 (nI w) (nI b) (nI lm) (nI cm) (nI li) (nI ci) a_disk v_isDown v_isArmed v_armedWrites v_armedWords v_writes a_kind a_many a_block a_keys a_vals a_isFresh a_kindWas a_manyWas a_blockWas a_keysWas a_valsWas a_freshWas v_root v_rootWas v_latest v_epoch a_reached a_oldKeys a_oldVals a_allKeys a_allVals v_oldMany v_allMany a_row a_written (nI wm) a_path a_place v_depth a_freeRow v_isOther v_moved a_bothKeys a_bothVals v_leafDepth v_found v_lastKey v_hasLast, MA9 a_kind cI 140 k, MA9 a_many cI 140 mm, MA9 a_keys cI 3360 ks, MA9 a_vals cI 3360 vl, MA9 a_isFresh cZ 140 fr, MA9 a_written cI 64 wt, MA9 a_bothKeys cI 48 bkw, MA9 a_bothVals cI 48 bvw] → va_S A s.heap H locs → lv_has ls 11 [(0, .ref h0), (1, .int (nI x0)), (2, .int (nI a0)), (3, .int (nI r0)), (4, .int (nI l0)), (5, .int (nI r1)), (6, .int (ks (24 * x0 + r0))), (7, .int (nI n7)), (8, .int (nI jj))] → W p l e (headSpec v_X9_mend ({ frames := 1, cells := 0, slots := 0, locals := 23 } : Room)).room s m ([.ref h0, .int (nI x0), .int (nI a0)] : List Value).toArray below meth c H locs 0 0 Q (F0 m 121 ls [])) ?_ (fun loop_121 => ?_)
          · intro nf
            induction nf with
            | zero =>
              intro jj n7 bkw bvw H locs ls h1 h2
              exact absurd h2 (by omega)
            | succ nf ih_121 =>
              intro jj n7 bkw bvw H locs ls hi hn hn7 hbo2 hP hD hS hl
              refine lv_iload hx hb dX9_mend_121 (lv_at hl 8 rfl) ?_
              refine lv_aload_n hx hb dX9_mend_123 rfl (lv_at hl 0 rfl) ?_
              refine va_get (D := (dC, dI)) (ci := 9) (v := .ref a_many) (C := RX9) (T := TX9) (N := 50) hx hb hts k_1 hown hK hP 0 rfl rfl 13 (by decide) k_4 (fun _ h9 => h9) rfl dX9_mend_124 ?_
              refine lv_iload hx hb dX9_mend_127 (lv_at hl 5 rfl) ?_
              refine va_iald hx hb hK hP 2 0 rfl rfl (show vp_in (nI r1) 140 from vp_in_nI (by omega) (by omega)) dX9_mend_129 ?_
              refine lv_topi (fun z_14 ez_14 => ?_)
              obtain rfl : z_14 = nI nr := ez_14.trans ((congrArg mm (nI_clamp (by omega))).trans (hmR))
              refine lv_icmp_ge (tgt := 203) hx hb dX9_mend_130 (by decide) (fun c_15 => ?_) (fun c_15 => ?_)
              · have n_c_15 : nr ≤ jj := (nI_leI (a := nr) (b := jj) (by omega) (by omega)).mp c_15
                have hn8 : n7 = nl + nr := by omega
                subst hn8
                refine jn_cut (P := fun Q => ∀ (jo : Int32) (H : Heap) (locs : List Loc) (ls : Array Slot), ((jo = 1 ∧ nl + nr ≤ 19) ∨ (jo = 0 ∧ (k l0 = 2 → 5 < nl + nr))) → va_P (dC, dI) vwCl [MO9 h0 (nI w) (nI b) (nI lm) (nI cm) (nI li) (nI ci) a_disk v_isDown v_isArmed v_armedWrites v_armedWords v_writes a_kind a_many a_block a_keys a_vals a_isFresh a_kindWas a_manyWas a_blockWas a_keysWas a_valsWas a_freshWas v_root v_rootWas v_latest v_epoch a_reached a_oldKeys a_oldVals a_allKeys a_allVals v_oldMany v_allMany a_row a_written (nI wm) a_path a_place v_depth a_freeRow v_isOther v_moved a_bothKeys a_bothVals v_leafDepth v_found v_lastKey v_hasLast, MA9 a_kind cI 140 k, MA9 a_many cI 140 mm, MA9 a_keys cI 3360 ks, MA9 a_vals cI 3360 vl, MA9 a_isFresh cZ 140 fr, MA9 a_written cI 64 wt, MA9 a_bothKeys cI 48 bkw, MA9 a_bothVals cI 48 bvw] H → va_D A [MO9 h0 (nI w) (nI b) (nI lm) (nI cm) (nI li) (nI ci) a_disk v_isDown v_isArmed v_armedWrites v_armedWords v_writes a_kind a_many a_block a_keys a_vals a_isFresh a_kindWas a_manyWas a_blockWas a_keysWas a_valsWas a_freshWas v_root v_rootWas v_latest v_epoch a_reached a_oldKeys a_oldVals a_allKeys a_allVals v_oldMany v_allMany a_row a_written (nI wm) a_path a_place v_depth a_freeRow v_isOther v_moved a_bothKeys a_bothVals v_leafDepth v_found v_lastKey v_hasLast, MA9 a_kind cI 140 k, MA9 a_many cI 140 mm, MA9 a_keys cI 3360 ks, MA9 a_vals cI 3360 vl, MA9 a_isFresh cZ 140 fr, MA9 a_written cI 64 wt, MA9 a_bothKeys cI 48 bkw, MA9 a_bothVals cI 48 bvw] → va_S A s.heap H locs → lv_has ls 11 [(0, .ref h0), (1, .int (nI x0)), (2, .int (nI a0)), (3, .int (nI r0)), (4, .int (nI l0)), (5, .int (nI r1)), (6, .int (ks (24 * x0 + r0))), (7, .int (nI (nl + nr))), (8, .int (nI jj))] → W p l e (headSpec v_X9_mend ({ frames := 1, cells := 0, slots := 0, locals := 23 } : Room)).room s m ([.ref h0, .int (nI x0), .int (nI a0)] : List Value).toArray below meth c H locs 0 0 Q (F0 m 235 ls [.int jo])) ?_ (fun jn_16 => ?_)
                · intro jo H locs ls hjo hP hD hS hl
                  rcases hjo with ⟨rfl, hj1⟩ | ⟨rfl, hj2⟩
                  · replace hP : va_P (dC, dI) vwCl [MO9 h0 (nI w) (nI b) (nI lm) (nI cm) (nI li) (nI ci) a_disk v_isDown v_isArmed v_armedWrites v_armedWords v_writes a_kind a_many a_block a_keys a_vals a_isFresh a_kindWas a_manyWas a_blockWas a_keysWas a_valsWas a_freshWas v_root v_rootWas v_latest v_epoch a_reached a_oldKeys a_oldVals a_allKeys a_allVals v_oldMany v_allMany a_row a_written (nI wm) a_path a_place v_depth a_freeRow v_isOther v_moved a_bothKeys a_bothVals v_leafDepth v_found v_lastKey v_hasLast, MA9 a_kind cI 140 k, MA9 a_many cI 140 mm, MA9 a_keys cI 3360 ks, MA9 a_vals cI 3360 vl, MA9 a_isFresh cZ 140 fr, MA9 a_written cI 64 wt, MA9 a_bothKeys cI 48 bkw, MA9 a_bothVals cI 48 bvw] H := hP
                    replace hD : va_D A [MO9 h0 (nI w) (nI b) (nI lm) (nI cm) (nI li) (nI ci) a_disk v_isDown v_isArmed v_armedWrites v_armedWords v_writes a_kind a_many a_block a_keys a_vals a_isFresh a_kindWas a_manyWas a_blockWas a_keysWas a_valsWas a_freshWas v_root v_rootWas v_latest v_epoch a_reached a_oldKeys a_oldVals a_allKeys a_allVals v_oldMany v_allMany a_row a_written (nI wm) a_path a_place v_depth a_freeRow v_isOther v_moved a_bothKeys a_bothVals v_leafDepth v_found v_lastKey v_hasLast, MA9 a_kind cI 140 k, MA9 a_many cI 140 mm, MA9 a_keys cI 3360 ks, MA9 a_vals cI 3360 vl, MA9 a_isFresh cZ 140 fr, MA9 a_written cI 64 wt, MA9 a_bothKeys cI 48 bkw, MA9 a_bothVals cI 48 bvw] := hD
                    refine lv_istore (lv' := [(8, .int 1), (0, .ref h0), (1, .int (nI x0)), (2, .int (nI a0)), (3, .int (nI r0)), (4, .int (nI l0)), (5, .int (nI r1)), (6, .int (ks (24 * x0 + r0))), (7, .int (nI (nl + nr)))]) hx hb dX9_mend_235 hl (by decide) rfl (fun ls hl9 => ?_)
                    replace hl := hl9
                    clear hl9
                    refine lv_iload hx hb dX9_mend_237 (lv_at hl 0 rfl) ?_
                    refine lv_if_eq (tgt := 247) hx hb dX9_mend_239 (by decide) (fun c_17 => ?_) (fun c_17 => ?_)
                    · exact absurd c_17 (by decide)
                    refine lv_iload hx hb dX9_mend_242 (lv_at hl 8 rfl) ?_
                    refine lv_goto (tgt := 253) hx hb dX9_mend_244 (by decide) ?_
                    refine lv_istore (lv' := [(9, .int (nI (nl + nr))), (8, .int 1), (0, .ref h0), (1, .int (nI x0)), (2, .int (nI a0)), (3, .int (nI r0)), (4, .int (nI l0)), (5, .int (nI r1)), (6, .int (ks (24 * x0 + r0))), (7, .int (nI (nl + nr)))]) hx hb dX9_mend_253 hl (by decide) rfl (fun ls hl9 => ?_)
                    replace hl := hl9
                    clear hl9
                    refine lv_iconst (v := 0) hx hb dX9_mend_255 (by decide) ?_
                    refine lv_istore (lv' := [(10, .int 0), (9, .int (nI (nl + nr))), (8, .int 1), (0, .ref h0), (1, .int (nI x0)), (2, .int (nI a0)), (3, .int (nI r0)), (4, .int (nI l0)), (5, .int (nI r1)), (6, .int (ks (24 * x0 + r0))), (7, .int (nI (nl + nr)))]) hx hb dX9_mend_256 hl (by decide) rfl (fun ls hl9 => ?_)
                    replace hl := hl9
                    clear hl9
                    refine jn_cut (P := fun Q => ∀ (nf t7 : Nat) (kkt : Nat → Int32) (vvt : Nat → Int32) (H : Heap) (locs : List Loc) (ls : Array Slot), t7 ≤ 20 → 20 + 1 ≤ t7 + nf → (LeF vl vvt bvw l0 t7) → va_P (dC, dI) vwCl [MO9 h0 (nI w) (nI b) (nI lm) (nI cm) (nI li) (nI ci) a_disk v_isDown v_isArmed v_armedWrites v_armedWords v_writes a_kind a_many a_block a_keys a_vals a_isFresh a_kindWas a_manyWas a_blockWas a_keysWas a_valsWas a_freshWas v_root v_rootWas v_latest v_epoch a_reached a_oldKeys a_oldVals a_allKeys a_allVals v_oldMany v_allMany a_row a_written (nI wm) a_path a_place v_depth a_freeRow v_isOther v_moved a_bothKeys a_bothVals v_leafDepth v_found v_lastKey v_hasLast, MA9 a_kind cI 140 k, MA9 a_many cI 140 mm, MA9 a_keys cI 3360 kkt, MA9 a_vals cI 3360 vvt, MA9 a_isFresh cZ 140 fr, MA9 a_written cI 64 wt, MA9 a_bothKeys cI 48 bkw, MA9 a_bothVals cI 48 bvw] H → va_D A [MO9 h0 (nI w) (nI b) (nI lm) (nI cm) (nI li) (nI ci) a_disk v_isDown v_isArmed v_armedWrites v_armedWords v_writes a_kind a_many a_block a_keys a_vals a_isFresh a_kindWas a_manyWas a_blockWas a_keysWas a_valsWas a_freshWas v_root v_rootWas v_latest v_epoch a_reached a_oldKeys a_oldVals a_allKeys a_allVals v_oldMany v_allMany a_row a_written (nI wm) a_path a_place v_depth a_freeRow v_isOther v_moved a_bothKeys a_bothVals v_leafDepth v_found v_lastKey v_hasLast, MA9 a_kind cI 140 k, MA9 a_many cI 140 mm, MA9 a_keys cI 3360 kkt, MA9 a_vals cI 3360 vvt, MA9 a_isFresh cZ 140 fr, MA9 a_written cI 64 wt, MA9 a_bothKeys cI 48 bkw, MA9 a_bothVals cI 48 bvw] → va_S A s.heap H locs → lv_has ls 11 [(0, .ref h0), (1, .int (nI x0)), (2, .int (nI a0)), (3, .int (nI r0)), (4, .int (nI l0)), (5, .int (nI r1)), (6, .int (ks (24 * x0 + r0))), (7, .int (nI (nl + nr))), (8, .int 1), (9, .int (nI (nl + nr))), (10, .int (nI t7))] → W p l e (headSpec v_X9_mend ({ frames := 1, cells := 0, slots := 0, locals := 23 } : Room)).room s m ([.ref h0, .int (nI x0), .int (nI a0)] : List Value).toArray below meth c H locs 0 0 Q (F0 m 258 ls [])) ?_ (fun loop_258 => ?_)
                    · intro nf
                      induction nf with
                      | zero =>
                        intro t7 kkt vvt H locs ls h1 h2
                        exact absurd h2 (by omega)
                      | succ nf ih_258 =>
                        intro t7 kkt vvt H locs ls hi hn hv1 hP hD hS hl
                        refine lv_iload hx hb dX9_mend_258 (lv_at hl 10 rfl) ?_
                        refine lv_iload hx hb dX9_mend_260 (lv_at hl 9 rfl) ?_
                        refine lv_icmp_ge (tgt := 311) hx hb dX9_mend_262 (by decide) (fun c_18 => ?_) (fun c_18 => ?_)
                        · have n_c_18 : (nl + nr) ≤ t7 := (nI_leI (a := nl + nr) (b := t7) (by omega) (by omega)).mp c_18
                          refine lv_aload_n hx hb dX9_mend_311 rfl (lv_at hl 0 rfl) ?_
                          refine va_get (D := (dC, dI)) (ci := 9) (v := .ref a_many) (C := RX9) (T := TX9) (N := 50) hx hb hts k_1 hown hK hP 0 rfl rfl 13 (by decide) k_4 (fun _ h9 => h9) rfl dX9_mend_312 ?_
                          refine lv_iload hx hb dX9_mend_315 (lv_at hl 4 rfl) ?_
                          refine lv_iload hx hb dX9_mend_317 (lv_at hl 9 rfl) ?_
                          refine va_iast hx hb hK hP hD hS 2 0 rfl rfl (show vp_in (nI l0) 140 from vp_in_nI (by omega) (by omega)) dX9_mend_319 (fun H locs hP9 hD9 hS9 => ?_)
                          replace hP := hP9
                          replace hD := hD9
                          replace hS := hS9
                          clear hP9 hD9 hS9
                          replace hP : va_P (dC, dI) vwCl [MO9 h0 (nI w) (nI b) (nI lm) (nI cm) (nI li) (nI ci) a_disk v_isDown v_isArmed v_armedWrites v_armedWords v_writes a_kind a_many a_block a_keys a_vals a_isFresh a_kindWas a_manyWas a_blockWas a_keysWas a_valsWas a_freshWas v_root v_rootWas v_latest v_epoch a_reached a_oldKeys a_oldVals a_allKeys a_allVals v_oldMany v_allMany a_row a_written (nI wm) a_path a_place v_depth a_freeRow v_isOther v_moved a_bothKeys a_bothVals v_leafDepth v_found v_lastKey v_hasLast, MA9 a_kind cI 140 k, MA9 a_many cI 140 (upd mm ((nI l0).toNatClampNeg) (nI (nl + nr))), MA9 a_keys cI 3360 kkt, MA9 a_vals cI 3360 vvt, MA9 a_isFresh cZ 140 fr, MA9 a_written cI 64 wt, MA9 a_bothKeys cI 48 bkw, MA9 a_bothVals cI 48 bvw] H := hP
                          replace hD : va_D A [MO9 h0 (nI w) (nI b) (nI lm) (nI cm) (nI li) (nI ci) a_disk v_isDown v_isArmed v_armedWrites v_armedWords v_writes a_kind a_many a_block a_keys a_vals a_isFresh a_kindWas a_manyWas a_blockWas a_keysWas a_valsWas a_freshWas v_root v_rootWas v_latest v_epoch a_reached a_oldKeys a_oldVals a_allKeys a_allVals v_oldMany v_allMany a_row a_written (nI wm) a_path a_place v_depth a_freeRow v_isOther v_moved a_bothKeys a_bothVals v_leafDepth v_found v_lastKey v_hasLast, MA9 a_kind cI 140 k, MA9 a_many cI 140 (upd mm ((nI l0).toNatClampNeg) (nI (nl + nr))), MA9 a_keys cI 3360 kkt, MA9 a_vals cI 3360 vvt, MA9 a_isFresh cZ 140 fr, MA9 a_written cI 64 wt, MA9 a_bothKeys cI 48 bkw, MA9 a_bothVals cI 48 bvw] := hD
                          rw [show (nI l0).toNatClampNeg = l0 from nI_clamp (by omega)] at hP hD
                          obtain ⟨f_19, ef_19⟩ : ∃ g9, g9 = upd mm l0 (nI (nl + nr)) := ⟨_, rfl⟩
                          rw [← ef_19] at hP hD
                          refine lv_aload_n hx hb dX9_mend_320 rfl (lv_at hl 0 rfl) ?_
                          refine lv_iload hx hb dX9_mend_321 (lv_at hl 4 rfl) ?_
                          have hPc := hP.sub (ws' := [MO9 h0 (nI w) (nI b) (nI lm) (nI cm) (nI li) (nI ci) a_disk v_isDown v_isArmed v_armedWrites v_armedWords v_writes a_kind a_many a_block a_keys a_vals a_isFresh a_kindWas a_manyWas a_blockWas a_keysWas a_valsWas a_freshWas v_root v_rootWas v_latest v_epoch a_reached a_oldKeys a_oldVals a_allKeys a_allVals v_oldMany v_allMany a_row a_written (nI wm) a_path a_place v_depth a_freeRow v_isOther v_moved a_bothKeys a_bothVals v_leafDepth v_found v_lastKey v_hasLast, MA9 a_written cI 64 wt]) [0, 6] rfl
                          have hDc := hD.sub (ws' := [MO9 h0 (nI w) (nI b) (nI lm) (nI cm) (nI li) (nI ci) a_disk v_isDown v_isArmed v_armedWrites v_armedWords v_writes a_kind a_many a_block a_keys a_vals a_isFresh a_kindWas a_manyWas a_blockWas a_keysWas a_valsWas a_freshWas v_root v_rootWas v_latest v_epoch a_reached a_oldKeys a_oldVals a_allKeys a_allVals v_oldMany v_allMany a_row a_written (nI wm) a_path a_place v_depth a_freeRow v_isOther v_moved a_bothKeys a_bothVals v_leafDepth v_found v_lastKey v_hasLast, MA9 a_written cI 64 wt]) [0, 6] (by decide) rfl
                          have hKc := hK.sub (tys' := [(cI, .int)]) [0] rfl
                          have hFc := va_free (wc := [MO9 h0 (nI w) (nI b) (nI lm) (nI cm) (nI li) (nI ci) a_disk v_isDown v_isArmed v_armedWrites v_armedWords v_writes a_kind a_many a_block a_keys a_vals a_isFresh a_kindWas a_manyWas a_blockWas a_keysWas a_valsWas a_freshWas v_root v_rootWas v_latest v_epoch a_reached a_oldKeys a_oldVals a_allKeys a_allVals v_oldMany v_allMany a_row a_written (nI wm) a_path a_place v_depth a_freeRow v_isOther v_moved a_bothKeys a_bothVals v_leafDepth v_found v_lastKey v_hasLast, MA9 a_written cI 64 wt]) hD hS hA [0, 6] rfl
                          refine va_callv (va_runV (As := [.int (nI l0)]) (rest := []) ⟨hx, hb, hml, hown, hts⟩ (c_X9_writes l dC dI H.size h0 w b lm cm li ci a_disk a_kind a_many a_block a_keys a_vals a_isFresh a_kindWas a_manyWas a_blockWas a_keysWas a_valsWas a_freshWas a_reached a_oldKeys a_oldVals a_allKeys a_allVals a_row a_written a_path a_place a_freeRow a_bothKeys a_bothVals v_isDown v_isArmed v_armedWrites v_armedWords v_writes v_root v_rootWas v_latest v_epoch v_oldMany v_allMany v_depth v_isOther v_moved v_leafDepth v_found v_lastKey v_hasLast cI wt (nI l0) wm (by first | assumption | omega | decide)) (cwV 1 hts g_X9_mend_X9_writes rfl rfl rfl (by decide +kernel) ⟨Nat.le_of_ble_eq_true rfl, Nat.le_of_ble_eq_true rfl⟩) ⟨fun a U g mk q => by obtain ⟨q0, q1, qP, qK, qD⟩ := q; exact ⟨q0, q1, qP, va_K.moved (u := U) (U := U.calling g mk a) (Vm.Alike.refl U.vm) qK, qD⟩, va_recv hKc hPc (ci := 9) (q0 := 0) rfl rfl, fun U hU hW => ⟨rfl, by rw [hU], by rw [hU]; exact hPc, va_K.moved hW.alike hKc, hDc.weaken (fun _ _ _ _ => trivial)⟩⟩ rfl rfl hl.1 rfl (lv_room (Nat.le_of_ble_eq_true rfl)) dX9_mend_323 ⟨(show 0 + 0 ≤ 0 by omega), (show 0 + 0 ≤ 0 by omega)⟩) hS (fun q _ h => hFc q h) hFc (fun u t H1 locs ht hvm hw hB hz1 hk1 hS9 => ?_)
                          replace hS := hS9
                          clear hS9
                          obtain ⟨wtA, rfl⟩ : ∃ z, z = u := ⟨_, rfl⟩
                          obtain ⟨hP1, hK1, hD1⟩ := hB
                          rw [ht] at hP1
                          replace hK1 := va_K.moved hvm.symm hK1
                          try dsimp only at hw
                          obtain ⟨hP9, hD9⟩ := va_join (wr := [MA9 a_kind cI 140 k, MA9 a_many cI 140 f_19, MA9 a_keys cI 3360 kkt, MA9 a_vals cI 3360 vvt, MA9 a_isFresh cZ 140 fr, MA9 a_bothKeys cI 48 bkw, MA9 a_bothVals cI 48 bvw]) (w1 := [MO9 h0 (nI w) (nI b) (nI lm) (nI cm) (nI li) (nI ci) a_disk v_isDown v_isArmed v_armedWrites v_armedWords v_writes a_kind a_many a_block a_keys a_vals a_isFresh a_kindWas a_manyWas a_blockWas a_keysWas a_valsWas a_freshWas v_root v_rootWas v_latest v_epoch a_reached a_oldKeys a_oldVals a_allKeys a_allVals v_oldMany v_allMany a_row a_written (nI (wm + 1)) a_path a_place v_depth a_freeRow v_isOther v_moved a_bothKeys a_bothVals v_leafDepth v_found v_lastKey v_hasLast, MA9 a_written cI 64 wtA]) hP hD [0, 6] [1, 2, 3, 4, 5, 7, 8] rfl rfl (by decide) (by decide) hk1 hFc hP1 hD1
                          replace hP := hP9
                          replace hD := hD9
                          clear hP9 hD9
                          replace hK := (hK.sub (tys' := [(cZ, .boolean)]) [1] rfl).app hK1
                          clear hP1 hD1 hK1 hPc hDc hKc hFc hk1 hz1 hvm ht
                          generalize H1 = H at hP hS ⊢
                          replace hP : va_P (dC, dI) vwCl [MA9 a_kind cI 140 k, MA9 a_many cI 140 f_19, MA9 a_keys cI 3360 kkt, MA9 a_vals cI 3360 vvt, MA9 a_isFresh cZ 140 fr, MA9 a_bothKeys cI 48 bkw, MA9 a_bothVals cI 48 bvw, MO9 h0 (nI w) (nI b) (nI lm) (nI cm) (nI li) (nI ci) a_disk v_isDown v_isArmed v_armedWrites v_armedWords v_writes a_kind a_many a_block a_keys a_vals a_isFresh a_kindWas a_manyWas a_blockWas a_keysWas a_valsWas a_freshWas v_root v_rootWas v_latest v_epoch a_reached a_oldKeys a_oldVals a_allKeys a_allVals v_oldMany v_allMany a_row a_written (nI (wm + 1)) a_path a_place v_depth a_freeRow v_isOther v_moved a_bothKeys a_bothVals v_leafDepth v_found v_lastKey v_hasLast, MA9 a_written cI 64 wtA] H := hP
                          replace hD : va_D A [MA9 a_kind cI 140 k, MA9 a_many cI 140 f_19, MA9 a_keys cI 3360 kkt, MA9 a_vals cI 3360 vvt, MA9 a_isFresh cZ 140 fr, MA9 a_bothKeys cI 48 bkw, MA9 a_bothVals cI 48 bvw, MO9 h0 (nI w) (nI b) (nI lm) (nI cm) (nI li) (nI ci) a_disk v_isDown v_isArmed v_armedWrites v_armedWords v_writes a_kind a_many a_block a_keys a_vals a_isFresh a_kindWas a_manyWas a_blockWas a_keysWas a_valsWas a_freshWas v_root v_rootWas v_latest v_epoch a_reached a_oldKeys a_oldVals a_allKeys a_allVals v_oldMany v_allMany a_row a_written (nI (wm + 1)) a_path a_place v_depth a_freeRow v_isOther v_moved a_bothKeys a_bothVals v_leafDepth v_found v_lastKey v_hasLast, MA9 a_written cI 64 wtA] := hD
                          replace hK : va_K (dC, dI) vwCl [(cZ, .boolean), (cI, .int)] s := hK
                          have hw_r_20 := hw
                          have hwA := hw
                          refine jn_cut (P := fun Q => ∀ (mvd : Int32) (H : Heap) (locs : List Loc) (ls : Array Slot), (mvd = 0 ∨ mvd = 1) → va_P (dC, dI) vwCl [MA9 a_kind cI 140 k, MA9 a_many cI 140 f_19, MA9 a_keys cI 3360 kkt, MA9 a_vals cI 3360 vvt, MA9 a_isFresh cZ 140 fr, MA9 a_bothKeys cI 48 bkw, MA9 a_bothVals cI 48 bvw, MO9 h0 (nI w) (nI b) (nI lm) (nI cm) (nI li) (nI ci) a_disk v_isDown v_isArmed v_armedWrites v_armedWords v_writes a_kind a_many a_block a_keys a_vals a_isFresh a_kindWas a_manyWas a_blockWas a_keysWas a_valsWas a_freshWas v_root v_rootWas v_latest v_epoch a_reached a_oldKeys a_oldVals a_allKeys a_allVals v_oldMany v_allMany a_row a_written (nI (wm + 1)) a_path a_place v_depth a_freeRow v_isOther v_moved a_bothKeys a_bothVals v_leafDepth v_found v_lastKey v_hasLast, MA9 a_written cI 64 wtA] H → va_D A [MA9 a_kind cI 140 k, MA9 a_many cI 140 f_19, MA9 a_keys cI 3360 kkt, MA9 a_vals cI 3360 vvt, MA9 a_isFresh cZ 140 fr, MA9 a_bothKeys cI 48 bkw, MA9 a_bothVals cI 48 bvw, MO9 h0 (nI w) (nI b) (nI lm) (nI cm) (nI li) (nI ci) a_disk v_isDown v_isArmed v_armedWrites v_armedWords v_writes a_kind a_many a_block a_keys a_vals a_isFresh a_kindWas a_manyWas a_blockWas a_keysWas a_valsWas a_freshWas v_root v_rootWas v_latest v_epoch a_reached a_oldKeys a_oldVals a_allKeys a_allVals v_oldMany v_allMany a_row a_written (nI (wm + 1)) a_path a_place v_depth a_freeRow v_isOther v_moved a_bothKeys a_bothVals v_leafDepth v_found v_lastKey v_hasLast, MA9 a_written cI 64 wtA] → va_S A s.heap H locs → lv_has ls 11 [(0, .ref h0), (1, .int (nI x0)), (2, .int (nI a0)), (3, .int (nI r0)), (4, .int (nI l0)), (5, .int (nI r1)), (6, .int (ks (24 * x0 + r0))), (7, .int (nI (nl + nr))), (8, .int 1), (9, .int (nI (nl + nr))), (10, .int (nI t7))] → W p l e (headSpec v_X9_mend ({ frames := 1, cells := 0, slots := 0, locals := 23 } : Room)).room s m ([.ref h0, .int (nI x0), .int (nI a0)] : List Value).toArray below meth c H locs 0 0 Q (F0 m 342 ls [.int mvd, .ref h0])) ?_ (fun jn_21 => ?_)
                          · intro mvd H locs ls hmvd hP hD hS hl
                            refine va_put (D := (dC, dI)) (ci := 9) (v := .int mvd) (ty := .boolean) (C := RX9) (T := TX9) (N := 50) hx hb hts k_1 tyX9 tyX9_ok nmX9 hown hK hP hD hS 7 rfl rfl 43 (by decide) k_5 (fun _ h9 => h9) rfl (by decide +kernel) (b01_nar hmvd) (b01_fit hmvd) (Nat.le_of_ble_eq_true rfl) dX9_mend_342 (fun H locs hP9 hD9 hS9 => ?_)
                            replace hP := hP9
                            replace hD := hD9
                            replace hS := hS9
                            clear hP9 hD9 hS9
                            replace hP : va_P (dC, dI) vwCl [MA9 a_kind cI 140 k, MA9 a_many cI 140 f_19, MA9 a_keys cI 3360 kkt, MA9 a_vals cI 3360 vvt, MA9 a_isFresh cZ 140 fr, MA9 a_bothKeys cI 48 bkw, MA9 a_bothVals cI 48 bvw, MO9 h0 (nI w) (nI b) (nI lm) (nI cm) (nI li) (nI ci) a_disk v_isDown v_isArmed v_armedWrites v_armedWords v_writes a_kind a_many a_block a_keys a_vals a_isFresh a_kindWas a_manyWas a_blockWas a_keysWas a_valsWas a_freshWas v_root v_rootWas v_latest v_epoch a_reached a_oldKeys a_oldVals a_allKeys a_allVals v_oldMany v_allMany a_row a_written (nI (wm + 1)) a_path a_place v_depth a_freeRow v_isOther mvd a_bothKeys a_bothVals v_leafDepth v_found v_lastKey v_hasLast, MA9 a_written cI 64 wtA] H := hP
                            replace hD : va_D A [MA9 a_kind cI 140 k, MA9 a_many cI 140 f_19, MA9 a_keys cI 3360 kkt, MA9 a_vals cI 3360 vvt, MA9 a_isFresh cZ 140 fr, MA9 a_bothKeys cI 48 bkw, MA9 a_bothVals cI 48 bvw, MO9 h0 (nI w) (nI b) (nI lm) (nI cm) (nI li) (nI ci) a_disk v_isDown v_isArmed v_armedWrites v_armedWords v_writes a_kind a_many a_block a_keys a_vals a_isFresh a_kindWas a_manyWas a_blockWas a_keysWas a_valsWas a_freshWas v_root v_rootWas v_latest v_epoch a_reached a_oldKeys a_oldVals a_allKeys a_allVals v_oldMany v_allMany a_row a_written (nI (wm + 1)) a_path a_place v_depth a_freeRow v_isOther mvd a_bothKeys a_bothVals v_leafDepth v_found v_lastKey v_hasLast, MA9 a_written cI 64 wtA] := hD
                            refine lv_iload hx hb dX9_mend_345 (lv_at hl 8 rfl) ?_
                            refine lv_if_eq (tgt := 370) hx hb dX9_mend_347 (by decide) (fun c_22 => ?_) (fun c_22 => ?_)
                            · exact absurd c_22 (by decide)
                            refine lv_aload_n hx hb dX9_mend_350 rfl (lv_at hl 0 rfl) ?_
                            refine va_get (D := (dC, dI)) (ci := 9) (v := .ref a_kind) (C := RX9) (T := TX9) (N := 50) hx hb hts k_1 hown hK hP 7 rfl rfl 12 (by decide) k_6 (fun _ h9 => h9) rfl dX9_mend_351 ?_
                            refine lv_iload hx hb dX9_mend_354 (lv_at hl 5 rfl) ?_
                            refine lv_iconst (v := 0) hx hb dX9_mend_356 (by decide) ?_
                            refine va_iast hx hb hK hP hD hS 0 1 rfl rfl (show vp_in (nI r1) 140 from vp_in_nI (by omega) (by omega)) dX9_mend_357 (fun H locs hP9 hD9 hS9 => ?_)
                            replace hP := hP9
                            replace hD := hD9
                            replace hS := hS9
                            clear hP9 hD9 hS9
                            replace hP : va_P (dC, dI) vwCl [MA9 a_kind cI 140 (upd k ((nI r1).toNatClampNeg) 0), MA9 a_many cI 140 f_19, MA9 a_keys cI 3360 kkt, MA9 a_vals cI 3360 vvt, MA9 a_isFresh cZ 140 fr, MA9 a_bothKeys cI 48 bkw, MA9 a_bothVals cI 48 bvw, MO9 h0 (nI w) (nI b) (nI lm) (nI cm) (nI li) (nI ci) a_disk v_isDown v_isArmed v_armedWrites v_armedWords v_writes a_kind a_many a_block a_keys a_vals a_isFresh a_kindWas a_manyWas a_blockWas a_keysWas a_valsWas a_freshWas v_root v_rootWas v_latest v_epoch a_reached a_oldKeys a_oldVals a_allKeys a_allVals v_oldMany v_allMany a_row a_written (nI (wm + 1)) a_path a_place v_depth a_freeRow v_isOther mvd a_bothKeys a_bothVals v_leafDepth v_found v_lastKey v_hasLast, MA9 a_written cI 64 wtA] H := hP
                            replace hD : va_D A [MA9 a_kind cI 140 (upd k ((nI r1).toNatClampNeg) 0), MA9 a_many cI 140 f_19, MA9 a_keys cI 3360 kkt, MA9 a_vals cI 3360 vvt, MA9 a_isFresh cZ 140 fr, MA9 a_bothKeys cI 48 bkw, MA9 a_bothVals cI 48 bvw, MO9 h0 (nI w) (nI b) (nI lm) (nI cm) (nI li) (nI ci) a_disk v_isDown v_isArmed v_armedWrites v_armedWords v_writes a_kind a_many a_block a_keys a_vals a_isFresh a_kindWas a_manyWas a_blockWas a_keysWas a_valsWas a_freshWas v_root v_rootWas v_latest v_epoch a_reached a_oldKeys a_oldVals a_allKeys a_allVals v_oldMany v_allMany a_row a_written (nI (wm + 1)) a_path a_place v_depth a_freeRow v_isOther mvd a_bothKeys a_bothVals v_leafDepth v_found v_lastKey v_hasLast, MA9 a_written cI 64 wtA] := hD
                            rw [show (nI r1).toNatClampNeg = r1 from nI_clamp (by omega)] at hP hD
                            obtain ⟨f_23, ef_23⟩ : ∃ g9, g9 = upd k r1 0 := ⟨_, rfl⟩
                            rw [← ef_23] at hP hD
                            have hmp2 : f_19 x0 = nI np := by rw [ef_19, pk_un hxl]; exact hmp
                            refine lv_aload_n hx hb dX9_mend_358 rfl (lv_at hl 0 rfl) ?_
                            refine lv_iload_n hx hb dX9_mend_359 rfl (lv_at hl 1 rfl) ?_
                            refine lv_iload_n hx hb dX9_mend_360 rfl (lv_at hl 3 rfl) ?_
                            have hPc := hP.sub (ws' := [MO9 h0 (nI w) (nI b) (nI lm) (nI cm) (nI li) (nI ci) a_disk v_isDown v_isArmed v_armedWrites v_armedWords v_writes a_kind a_many a_block a_keys a_vals a_isFresh a_kindWas a_manyWas a_blockWas a_keysWas a_valsWas a_freshWas v_root v_rootWas v_latest v_epoch a_reached a_oldKeys a_oldVals a_allKeys a_allVals v_oldMany v_allMany a_row a_written (nI (wm + 1)) a_path a_place v_depth a_freeRow v_isOther mvd a_bothKeys a_bothVals v_leafDepth v_found v_lastKey v_hasLast, MA9 a_many cI 140 f_19, MA9 a_keys cI 3360 kkt, MA9 a_vals cI 3360 vvt]) [7, 1, 2, 3] rfl
                            have hDc := hD.sub (ws' := [MO9 h0 (nI w) (nI b) (nI lm) (nI cm) (nI li) (nI ci) a_disk v_isDown v_isArmed v_armedWrites v_armedWords v_writes a_kind a_many a_block a_keys a_vals a_isFresh a_kindWas a_manyWas a_blockWas a_keysWas a_valsWas a_freshWas v_root v_rootWas v_latest v_epoch a_reached a_oldKeys a_oldVals a_allKeys a_allVals v_oldMany v_allMany a_row a_written (nI (wm + 1)) a_path a_place v_depth a_freeRow v_isOther mvd a_bothKeys a_bothVals v_leafDepth v_found v_lastKey v_hasLast, MA9 a_many cI 140 f_19, MA9 a_keys cI 3360 kkt, MA9 a_vals cI 3360 vvt]) [7, 1, 2, 3] (by decide) rfl
                            have hKc := hK.sub (tys' := [(cI, .int)]) [1] rfl
                            have hFc := va_free (wc := [MO9 h0 (nI w) (nI b) (nI lm) (nI cm) (nI li) (nI ci) a_disk v_isDown v_isArmed v_armedWrites v_armedWords v_writes a_kind a_many a_block a_keys a_vals a_isFresh a_kindWas a_manyWas a_blockWas a_keysWas a_valsWas a_freshWas v_root v_rootWas v_latest v_epoch a_reached a_oldKeys a_oldVals a_allKeys a_allVals v_oldMany v_allMany a_row a_written (nI (wm + 1)) a_path a_place v_depth a_freeRow v_isOther mvd a_bothKeys a_bothVals v_leafDepth v_found v_lastKey v_hasLast, MA9 a_many cI 140 f_19, MA9 a_keys cI 3360 kkt, MA9 a_vals cI 3360 vvt]) hD hS hA [7, 1, 2, 3] rfl
                            refine va_callv (va_runV (As := [.int (nI x0), .int (nI r0)]) (rest := []) ⟨hx, hb, hml, hown, hts⟩ (c_X9_erase l dC dI H.size h0 w b lm cm li ci a_disk a_kind a_many a_block a_keys a_vals a_isFresh a_kindWas a_manyWas a_blockWas a_keysWas a_valsWas a_freshWas a_reached a_oldKeys a_oldVals a_allKeys a_allVals a_row a_written a_path a_place a_freeRow a_bothKeys a_bothVals v_isDown v_isArmed v_armedWrites v_armedWords v_writes v_root v_rootWas v_latest v_epoch v_oldMany v_allMany (nI (wm + 1)) v_depth v_isOther mvd v_leafDepth v_found v_lastKey v_hasLast cI f_19 kkt vvt x0 r0 np (by first | assumption | omega | decide) (by first | assumption | omega | decide) (by first | assumption | omega | decide) (by first | assumption | omega | decide)) (cwV 2 hts g_X9_mend_X9_erase rfl rfl rfl (by decide +kernel) ⟨Nat.le_of_ble_eq_true rfl, Nat.le_of_ble_eq_true rfl⟩) ⟨fun a U g mk q => by obtain ⟨q0, q1, qP, qK, qD⟩ := q; exact ⟨q0, q1, qP, va_K.moved (u := U) (U := U.calling g mk a) (Vm.Alike.refl U.vm) qK, qD⟩, va_recv hKc hPc (ci := 9) (q0 := 0) rfl rfl, fun U hU hW => ⟨rfl, by rw [hU], by rw [hU]; exact hPc, va_K.moved hW.alike hKc, hDc.weaken (fun _ _ _ _ => trivial)⟩⟩ rfl rfl hl.1 rfl (lv_room (Nat.le_of_ble_eq_true rfl)) dX9_mend_361 ⟨(show 0 + 0 ≤ 0 by omega), (show 0 + 0 ≤ 0 by omega)⟩) hS (fun q _ h => hFc q h) hFc (fun u t H1 locs ht hvm hw hB hz1 hk1 hS9 => ?_)
                            replace hS := hS9
                            clear hS9
                            obtain ⟨mE, kE, vE⟩ := u
                            obtain ⟨hP1, hK1, hD1⟩ := hB
                            rw [ht] at hP1
                            replace hK1 := va_K.moved hvm.symm hK1
                            try dsimp only at hw
                            obtain ⟨hP9, hD9⟩ := va_join (wr := [MA9 a_kind cI 140 f_23, MA9 a_isFresh cZ 140 fr, MA9 a_bothKeys cI 48 bkw, MA9 a_bothVals cI 48 bvw, MA9 a_written cI 64 wtA]) (w1 := [MO9 h0 (nI w) (nI b) (nI lm) (nI cm) (nI li) (nI ci) a_disk v_isDown v_isArmed v_armedWrites v_armedWords v_writes a_kind a_many a_block a_keys a_vals a_isFresh a_kindWas a_manyWas a_blockWas a_keysWas a_valsWas a_freshWas v_root v_rootWas v_latest v_epoch a_reached a_oldKeys a_oldVals a_allKeys a_allVals v_oldMany v_allMany a_row a_written (nI (wm + 1)) a_path a_place v_depth a_freeRow v_isOther mvd a_bothKeys a_bothVals v_leafDepth v_found v_lastKey v_hasLast, MA9 a_many cI 140 mE, MA9 a_keys cI 3360 kE, MA9 a_vals cI 3360 vE]) hP hD [7, 1, 2, 3] [0, 4, 5, 6, 8] rfl rfl (by decide) (by decide) hk1 hFc hP1 hD1
                            replace hP := hP9
                            replace hD := hD9
                            clear hP9 hD9
                            replace hK := (hK.sub (tys' := [(cZ, .boolean)]) [0] rfl).app hK1
                            clear hP1 hD1 hK1 hPc hDc hKc hFc hk1 hz1 hvm ht
                            generalize H1 = H at hP hS ⊢
                            replace hP : va_P (dC, dI) vwCl [MA9 a_kind cI 140 f_23, MA9 a_isFresh cZ 140 fr, MA9 a_bothKeys cI 48 bkw, MA9 a_bothVals cI 48 bvw, MA9 a_written cI 64 wtA, MO9 h0 (nI w) (nI b) (nI lm) (nI cm) (nI li) (nI ci) a_disk v_isDown v_isArmed v_armedWrites v_armedWords v_writes a_kind a_many a_block a_keys a_vals a_isFresh a_kindWas a_manyWas a_blockWas a_keysWas a_valsWas a_freshWas v_root v_rootWas v_latest v_epoch a_reached a_oldKeys a_oldVals a_allKeys a_allVals v_oldMany v_allMany a_row a_written (nI (wm + 1)) a_path a_place v_depth a_freeRow v_isOther mvd a_bothKeys a_bothVals v_leafDepth v_found v_lastKey v_hasLast, MA9 a_many cI 140 mE, MA9 a_keys cI 3360 kE, MA9 a_vals cI 3360 vE] H := hP
                            replace hD : va_D A [MA9 a_kind cI 140 f_23, MA9 a_isFresh cZ 140 fr, MA9 a_bothKeys cI 48 bkw, MA9 a_bothVals cI 48 bvw, MA9 a_written cI 64 wtA, MO9 h0 (nI w) (nI b) (nI lm) (nI cm) (nI li) (nI ci) a_disk v_isDown v_isArmed v_armedWrites v_armedWords v_writes a_kind a_many a_block a_keys a_vals a_isFresh a_kindWas a_manyWas a_blockWas a_keysWas a_valsWas a_freshWas v_root v_rootWas v_latest v_epoch a_reached a_oldKeys a_oldVals a_allKeys a_allVals v_oldMany v_allMany a_row a_written (nI (wm + 1)) a_path a_place v_depth a_freeRow v_isOther mvd a_bothKeys a_bothVals v_leafDepth v_found v_lastKey v_hasLast, MA9 a_many cI 140 mE, MA9 a_keys cI 3360 kE, MA9 a_vals cI 3360 vE] := hD
                            replace hK : va_K (dC, dI) vwCl [(cZ, .boolean), (cI, .int)] s := hK
                            have hw_r_24 := hw
                            have hE := hw
                            refine lv_aload_n hx hb dX9_mend_364 rfl (lv_at hl 0 rfl) ?_
                            refine lv_iconst (v := 1) hx hb dX9_mend_365 (by decide) ?_
                            refine va_put (D := (dC, dI)) (ci := 9) (v := .int 1) (ty := .boolean) (C := RX9) (T := TX9) (N := 50) hx hb hts k_1 tyX9 tyX9_ok nmX9 hown hK hP hD hS 5 rfl rfl 42 (by decide) k_7 (fun _ h9 => h9) rfl (by decide +kernel) rfl rfl (Nat.le_of_ble_eq_true rfl) dX9_mend_366 (fun H locs hP9 hD9 hS9 => ?_)
                            replace hP := hP9
                            replace hD := hD9
                            replace hS := hS9
                            clear hP9 hD9 hS9
                            replace hP : va_P (dC, dI) vwCl [MA9 a_kind cI 140 f_23, MA9 a_isFresh cZ 140 fr, MA9 a_bothKeys cI 48 bkw, MA9 a_bothVals cI 48 bvw, MA9 a_written cI 64 wtA, MO9 h0 (nI w) (nI b) (nI lm) (nI cm) (nI li) (nI ci) a_disk v_isDown v_isArmed v_armedWrites v_armedWords v_writes a_kind a_many a_block a_keys a_vals a_isFresh a_kindWas a_manyWas a_blockWas a_keysWas a_valsWas a_freshWas v_root v_rootWas v_latest v_epoch a_reached a_oldKeys a_oldVals a_allKeys a_allVals v_oldMany v_allMany a_row a_written (nI (wm + 1)) a_path a_place v_depth a_freeRow 1 mvd a_bothKeys a_bothVals v_leafDepth v_found v_lastKey v_hasLast, MA9 a_many cI 140 mE, MA9 a_keys cI 3360 kE, MA9 a_vals cI 3360 vE] H := hP
                            replace hD : va_D A [MA9 a_kind cI 140 f_23, MA9 a_isFresh cZ 140 fr, MA9 a_bothKeys cI 48 bkw, MA9 a_bothVals cI 48 bvw, MA9 a_written cI 64 wtA, MO9 h0 (nI w) (nI b) (nI lm) (nI cm) (nI li) (nI ci) a_disk v_isDown v_isArmed v_armedWrites v_armedWords v_writes a_kind a_many a_block a_keys a_vals a_isFresh a_kindWas a_manyWas a_blockWas a_keysWas a_valsWas a_freshWas v_root v_rootWas v_latest v_epoch a_reached a_oldKeys a_oldVals a_allKeys a_allVals v_oldMany v_allMany a_row a_written (nI (wm + 1)) a_path a_place v_depth a_freeRow 1 mvd a_bothKeys a_bothVals v_leafDepth v_found v_lastKey v_hasLast, MA9 a_many cI 140 mE, MA9 a_keys cI 3360 kE, MA9 a_vals cI 3360 vE] := hD
                            have hP9 := hP.sub (ws' := [MO9 h0 (nI w) (nI b) (nI lm) (nI cm) (nI li) (nI ci) a_disk v_isDown v_isArmed v_armedWrites v_armedWords v_writes a_kind a_many a_block a_keys a_vals a_isFresh a_kindWas a_manyWas a_blockWas a_keysWas a_valsWas a_freshWas v_root v_rootWas v_latest v_epoch a_reached a_oldKeys a_oldVals a_allKeys a_allVals v_oldMany v_allMany a_row a_written (nI (wm + 1)) a_path a_place v_depth a_freeRow 1 mvd a_bothKeys a_bothVals v_leafDepth v_found v_lastKey v_hasLast, MA9 a_kind cI 140 f_23, MA9 a_many cI 140 mE, MA9 a_keys cI 3360 kE, MA9 a_vals cI 3360 vE, MA9 a_isFresh cZ 140 fr, MA9 a_written cI 64 wtA, MA9 a_bothKeys cI 48 bkw, MA9 a_bothVals cI 48 bvw]) [5, 0, 6, 7, 8, 1, 4, 2, 3] rfl
                            have hD9 := hD.sub (ws' := [MO9 h0 (nI w) (nI b) (nI lm) (nI cm) (nI li) (nI ci) a_disk v_isDown v_isArmed v_armedWrites v_armedWords v_writes a_kind a_many a_block a_keys a_vals a_isFresh a_kindWas a_manyWas a_blockWas a_keysWas a_valsWas a_freshWas v_root v_rootWas v_latest v_epoch a_reached a_oldKeys a_oldVals a_allKeys a_allVals v_oldMany v_allMany a_row a_written (nI (wm + 1)) a_path a_place v_depth a_freeRow 1 mvd a_bothKeys a_bothVals v_leafDepth v_found v_lastKey v_hasLast, MA9 a_kind cI 140 f_23, MA9 a_many cI 140 mE, MA9 a_keys cI 3360 kE, MA9 a_vals cI 3360 vE, MA9 a_isFresh cZ 140 fr, MA9 a_written cI 64 wtA, MA9 a_bothKeys cI 48 bkw, MA9 a_bothVals cI 48 bvw]) [5, 0, 6, 7, 8, 1, 4, 2, 3] (by decide) rfl
                            have hK9 := hK.sub (tys' := [(cI, .int), (cZ, .boolean)]) [1, 0] rfl
                            exact W.vret hx hb hr (fun t ht hW => ⟨⟨(1, mvd, f_23, mE, kE, vE, wtA, bkw, bvw, wm + 1), rfl, (mend_join hxl hj1 hbo2 hv1 (by omega) ef_19 ef_23 hwA hE (by omega) (by omega)), by rw [ht]; exact hP9, va_K.moved hW.alike hK9, hD9⟩, hS.F ht⟩) hS.2.2 dX9_mend_369
                          refine lv_aload_n hx hb dX9_mend_326 rfl (lv_at hl 0 rfl) ?_
                          refine lv_aload_n hx hb dX9_mend_327 rfl (lv_at hl 0 rfl) ?_
                          refine va_get (D := (dC, dI)) (ci := 9) (v := .ref a_isFresh) (C := RX9) (T := TX9) (N := 50) hx hb hts k_1 hown hK hP 7 rfl rfl 17 (by decide) k_8 (fun _ h9 => h9) rfl dX9_mend_328 ?_
                          refine lv_iload hx hb dX9_mend_331 (lv_at hl 4 rfl) ?_
                          refine va_zald hx hb hK hP 4 0 rfl rfl (show vp_in (nI l0) 140 from vp_in_nI (by omega) (by omega)) dX9_mend_333 ?_
                          refine lv_topi (fun z_25 ez_25 => ?_)
                          obtain rfl : z_25 = fr l0 := ez_25.trans (congrArg fr (nI_clamp (by omega)))
                          refine lv_if_ne (tgt := 341) hx hb dX9_mend_334 (by decide) (fun c_26 => ?_) (fun c_26 => ?_)
                          · refine lv_iconst (v := 0) hx hb dX9_mend_341 (by decide) ?_
                            exact jn_21 0 _ _ _ (Or.inl rfl) hP hD hS (lv_sub hl [0, 1, 2, 3, 4, 5, 6, 7, 8, 9, 10] rfl)
                          · refine lv_iconst (v := 1) hx hb dX9_mend_337 (by decide) ?_
                            refine lv_goto (tgt := 342) hx hb dX9_mend_338 (by decide) ?_
                            exact jn_21 1 _ _ _ (Or.inr rfl) hP hD hS (lv_sub hl [0, 1, 2, 3, 4, 5, 6, 7, 8, 9, 10] rfl)
                        · have n_c_18 : ¬ (nl + nr) ≤ t7 := fun h9 => c_18 ((nI_leI (a := nl + nr) (b := t7) (by omega) (by omega)).mpr h9)
                          refine lv_aload_n hx hb dX9_mend_265 rfl (lv_at hl 0 rfl) ?_
                          refine va_get (D := (dC, dI)) (ci := 9) (v := .ref a_keys) (C := RX9) (T := TX9) (N := 50) hx hb hts k_1 hown hK hP 0 rfl rfl 15 (by decide) k_3 (fun _ h9 => h9) rfl dX9_mend_266 ?_
                          refine lv_bipush (v := 24) hx hb dX9_mend_269 (by decide) ?_
                          refine lv_iload hx hb dX9_mend_271 (lv_at hl 4 rfl) ?_
                          refine lv_imul hx hb dX9_mend_273 ?_
                          refine lv_topi (fun z_27 ez_27 => ?_)
                          obtain rfl : z_27 = nI (24 * l0) := ez_27.trans (pk_mul 24 l0)
                          refine lv_iload hx hb dX9_mend_274 (lv_at hl 10 rfl) ?_
                          refine lv_iadd hx hb dX9_mend_276 ?_
                          refine lv_topi (fun z_28 ez_28 => ?_)
                          obtain rfl : z_28 = nI (24 * l0 + t7) := ez_28.trans (nI_add (24 * l0) t7)
                          refine lv_aload_n hx hb dX9_mend_277 rfl (lv_at hl 0 rfl) ?_
                          refine va_get (D := (dC, dI)) (ci := 9) (v := .ref a_bothKeys) (C := RX9) (T := TX9) (N := 50) hx hb hts k_1 hown hK hP 0 rfl rfl 44 (by decide) k_9 (fun _ h9 => h9) rfl dX9_mend_278 ?_
                          refine lv_iload hx hb dX9_mend_281 (lv_at hl 10 rfl) ?_
                          refine va_iald hx hb hK hP 7 0 rfl rfl (show vp_in (nI t7) 48 from vp_in_nI (by omega) (by omega)) dX9_mend_283 ?_
                          refine lv_topi (fun z_29 ez_29 => ?_)
                          obtain rfl : z_29 = bkw t7 := ez_29.trans (congrArg bkw (nI_clamp (by omega)))
                          refine va_iast hx hb hK hP hD hS 3 0 rfl rfl (show vp_in (nI (24 * l0 + t7)) 3360 from vp_in_nI (by omega) (by omega)) dX9_mend_284 (fun H locs hP9 hD9 hS9 => ?_)
                          replace hP := hP9
                          replace hD := hD9
                          replace hS := hS9
                          clear hP9 hD9 hS9
                          replace hP : va_P (dC, dI) vwCl [MO9 h0 (nI w) (nI b) (nI lm) (nI cm) (nI li) (nI ci) a_disk v_isDown v_isArmed v_armedWrites v_armedWords v_writes a_kind a_many a_block a_keys a_vals a_isFresh a_kindWas a_manyWas a_blockWas a_keysWas a_valsWas a_freshWas v_root v_rootWas v_latest v_epoch a_reached a_oldKeys a_oldVals a_allKeys a_allVals v_oldMany v_allMany a_row a_written (nI wm) a_path a_place v_depth a_freeRow v_isOther v_moved a_bothKeys a_bothVals v_leafDepth v_found v_lastKey v_hasLast, MA9 a_kind cI 140 k, MA9 a_many cI 140 mm, MA9 a_keys cI 3360 (upd kkt ((nI (24 * l0 + t7)).toNatClampNeg) (bkw t7)), MA9 a_vals cI 3360 vvt, MA9 a_isFresh cZ 140 fr, MA9 a_written cI 64 wt, MA9 a_bothKeys cI 48 bkw, MA9 a_bothVals cI 48 bvw] H := hP
                          replace hD : va_D A [MO9 h0 (nI w) (nI b) (nI lm) (nI cm) (nI li) (nI ci) a_disk v_isDown v_isArmed v_armedWrites v_armedWords v_writes a_kind a_many a_block a_keys a_vals a_isFresh a_kindWas a_manyWas a_blockWas a_keysWas a_valsWas a_freshWas v_root v_rootWas v_latest v_epoch a_reached a_oldKeys a_oldVals a_allKeys a_allVals v_oldMany v_allMany a_row a_written (nI wm) a_path a_place v_depth a_freeRow v_isOther v_moved a_bothKeys a_bothVals v_leafDepth v_found v_lastKey v_hasLast, MA9 a_kind cI 140 k, MA9 a_many cI 140 mm, MA9 a_keys cI 3360 (upd kkt ((nI (24 * l0 + t7)).toNatClampNeg) (bkw t7)), MA9 a_vals cI 3360 vvt, MA9 a_isFresh cZ 140 fr, MA9 a_written cI 64 wt, MA9 a_bothKeys cI 48 bkw, MA9 a_bothVals cI 48 bvw] := hD
                          rw [show (nI (24 * l0 + t7)).toNatClampNeg = 24 * l0 + t7 from nI_clamp (by omega)] at hP hD
                          obtain ⟨f_30, ef_30⟩ : ∃ g9, g9 = upd kkt (24 * l0 + t7) (bkw t7) := ⟨_, rfl⟩
                          rw [← ef_30] at hP hD
                          refine lv_aload_n hx hb dX9_mend_285 rfl (lv_at hl 0 rfl) ?_
                          refine va_get (D := (dC, dI)) (ci := 9) (v := .ref a_vals) (C := RX9) (T := TX9) (N := 50) hx hb hts k_1 hown hK hP 0 rfl rfl 16 (by decide) k_2 (fun _ h9 => h9) rfl dX9_mend_286 ?_
                          refine lv_bipush (v := 24) hx hb dX9_mend_289 (by decide) ?_
                          refine lv_iload hx hb dX9_mend_291 (lv_at hl 4 rfl) ?_
                          refine lv_imul hx hb dX9_mend_293 ?_
                          refine lv_topi (fun z_31 ez_31 => ?_)
                          obtain rfl : z_31 = nI (24 * l0) := ez_31.trans (pk_mul 24 l0)
                          refine lv_iload hx hb dX9_mend_294 (lv_at hl 10 rfl) ?_
                          refine lv_iadd hx hb dX9_mend_296 ?_
                          refine lv_topi (fun z_32 ez_32 => ?_)
                          obtain rfl : z_32 = nI (24 * l0 + t7) := ez_32.trans (nI_add (24 * l0) t7)
                          refine lv_aload_n hx hb dX9_mend_297 rfl (lv_at hl 0 rfl) ?_
                          refine va_get (D := (dC, dI)) (ci := 9) (v := .ref a_bothVals) (C := RX9) (T := TX9) (N := 50) hx hb hts k_1 hown hK hP 0 rfl rfl 45 (by decide) k_10 (fun _ h9 => h9) rfl dX9_mend_298 ?_
                          refine lv_iload hx hb dX9_mend_301 (lv_at hl 10 rfl) ?_
                          refine va_iald hx hb hK hP 8 0 rfl rfl (show vp_in (nI t7) 48 from vp_in_nI (by omega) (by omega)) dX9_mend_303 ?_
                          refine lv_topi (fun z_33 ez_33 => ?_)
                          obtain rfl : z_33 = bvw t7 := ez_33.trans (congrArg bvw (nI_clamp (by omega)))
                          refine va_iast hx hb hK hP hD hS 4 0 rfl rfl (show vp_in (nI (24 * l0 + t7)) 3360 from vp_in_nI (by omega) (by omega)) dX9_mend_304 (fun H locs hP9 hD9 hS9 => ?_)
                          replace hP := hP9
                          replace hD := hD9
                          replace hS := hS9
                          clear hP9 hD9 hS9
                          replace hP : va_P (dC, dI) vwCl [MO9 h0 (nI w) (nI b) (nI lm) (nI cm) (nI li) (nI ci) a_disk v_isDown v_isArmed v_armedWrites v_armedWords v_writes a_kind a_many a_block a_keys a_vals a_isFresh a_kindWas a_manyWas a_blockWas a_keysWas a_valsWas a_freshWas v_root v_rootWas v_latest v_epoch a_reached a_oldKeys a_oldVals a_allKeys a_allVals v_oldMany v_allMany a_row a_written (nI wm) a_path a_place v_depth a_freeRow v_isOther v_moved a_bothKeys a_bothVals v_leafDepth v_found v_lastKey v_hasLast, MA9 a_kind cI 140 k, MA9 a_many cI 140 mm, MA9 a_keys cI 3360 f_30, MA9 a_vals cI 3360 (upd vvt ((nI (24 * l0 + t7)).toNatClampNeg) (bvw t7)), MA9 a_isFresh cZ 140 fr, MA9 a_written cI 64 wt, MA9 a_bothKeys cI 48 bkw, MA9 a_bothVals cI 48 bvw] H := hP
                          replace hD : va_D A [MO9 h0 (nI w) (nI b) (nI lm) (nI cm) (nI li) (nI ci) a_disk v_isDown v_isArmed v_armedWrites v_armedWords v_writes a_kind a_many a_block a_keys a_vals a_isFresh a_kindWas a_manyWas a_blockWas a_keysWas a_valsWas a_freshWas v_root v_rootWas v_latest v_epoch a_reached a_oldKeys a_oldVals a_allKeys a_allVals v_oldMany v_allMany a_row a_written (nI wm) a_path a_place v_depth a_freeRow v_isOther v_moved a_bothKeys a_bothVals v_leafDepth v_found v_lastKey v_hasLast, MA9 a_kind cI 140 k, MA9 a_many cI 140 mm, MA9 a_keys cI 3360 f_30, MA9 a_vals cI 3360 (upd vvt ((nI (24 * l0 + t7)).toNatClampNeg) (bvw t7)), MA9 a_isFresh cZ 140 fr, MA9 a_written cI 64 wt, MA9 a_bothKeys cI 48 bkw, MA9 a_bothVals cI 48 bvw] := hD
                          rw [show (nI (24 * l0 + t7)).toNatClampNeg = 24 * l0 + t7 from nI_clamp (by omega)] at hP hD
                          obtain ⟨f_34, ef_34⟩ : ∃ g9, g9 = upd vvt (24 * l0 + t7) (bvw t7) := ⟨_, rfl⟩
                          rw [← ef_34] at hP hD
                          refine lv_iinc (v := (nI (t7 + 1))) (lv' := [(10, .int (nI (t7 + 1))), (0, .ref h0), (1, .int (nI x0)), (2, .int (nI a0)), (3, .int (nI r0)), (4, .int (nI l0)), (5, .int (nI r1)), (6, .int (ks (24 * x0 + r0))), (7, .int (nI (nl + nr))), (8, .int 1), (9, .int (nI (nl + nr)))]) hx hb dX9_mend_305 hl (k := 10) rfl (nI_1 t7) (by decide) rfl (fun ls hl9 => ?_)
                          replace hl := hl9
                          clear hl9
                          refine lv_goto (tgt := 258) hx hb dX9_mend_308 (by decide) ?_
                          exact ih_258 (t7 + 1) f_30 f_34 _ _ _ (by omega) (by omega) (leF_step hv1 (by omega) ef_34) hP hD hS (lv_sub hl [1, 2, 3, 4, 5, 6, 7, 8, 9, 10, 0] rfl)
                    exact loop_258 (20 + 1) 0 ks vl _ _ _ (by omega) (by omega) (leF_start _ _ _) hP hD hS (lv_sub hl [3, 4, 5, 6, 7, 8, 9, 10, 2, 1, 0] rfl)
                  · replace hP : va_P (dC, dI) vwCl [MO9 h0 (nI w) (nI b) (nI lm) (nI cm) (nI li) (nI ci) a_disk v_isDown v_isArmed v_armedWrites v_armedWords v_writes a_kind a_many a_block a_keys a_vals a_isFresh a_kindWas a_manyWas a_blockWas a_keysWas a_valsWas a_freshWas v_root v_rootWas v_latest v_epoch a_reached a_oldKeys a_oldVals a_allKeys a_allVals v_oldMany v_allMany a_row a_written (nI wm) a_path a_place v_depth a_freeRow v_isOther v_moved a_bothKeys a_bothVals v_leafDepth v_found v_lastKey v_hasLast, MA9 a_kind cI 140 k, MA9 a_many cI 140 mm, MA9 a_keys cI 3360 ks, MA9 a_vals cI 3360 vl, MA9 a_isFresh cZ 140 fr, MA9 a_written cI 64 wt, MA9 a_bothKeys cI 48 bkw, MA9 a_bothVals cI 48 bvw] H := hP
                    replace hD : va_D A [MO9 h0 (nI w) (nI b) (nI lm) (nI cm) (nI li) (nI ci) a_disk v_isDown v_isArmed v_armedWrites v_armedWords v_writes a_kind a_many a_block a_keys a_vals a_isFresh a_kindWas a_manyWas a_blockWas a_keysWas a_valsWas a_freshWas v_root v_rootWas v_latest v_epoch a_reached a_oldKeys a_oldVals a_allKeys a_allVals v_oldMany v_allMany a_row a_written (nI wm) a_path a_place v_depth a_freeRow v_isOther v_moved a_bothKeys a_bothVals v_leafDepth v_found v_lastKey v_hasLast, MA9 a_kind cI 140 k, MA9 a_many cI 140 mm, MA9 a_keys cI 3360 ks, MA9 a_vals cI 3360 vl, MA9 a_isFresh cZ 140 fr, MA9 a_written cI 64 wt, MA9 a_bothKeys cI 48 bkw, MA9 a_bothVals cI 48 bvw] := hD
                    refine lv_istore (lv' := [(8, .int 0), (0, .ref h0), (1, .int (nI x0)), (2, .int (nI a0)), (3, .int (nI r0)), (4, .int (nI l0)), (5, .int (nI r1)), (6, .int (ks (24 * x0 + r0))), (7, .int (nI (nl + nr)))]) hx hb dX9_mend_235 hl (by decide) rfl (fun ls hl9 => ?_)
                    replace hl := hl9
                    clear hl9
                    refine lv_iload hx hb dX9_mend_237 (lv_at hl 0 rfl) ?_
                    refine lv_if_eq (tgt := 247) hx hb dX9_mend_239 (by decide) (fun c_35 => ?_) (fun c_35 => ?_)
                    rotate_left
                    · exact absurd (by decide) c_35
                    refine lv_iload hx hb dX9_mend_247 (lv_at hl 8 rfl) ?_
                    refine lv_iconst (v := 1) hx hb dX9_mend_249 (by decide) ?_
                    refine lv_iadd hx hb dX9_mend_250 ?_
                    refine lv_topi (fun z_36 ez_36 => ?_)
                    obtain rfl : z_36 = nI (nl + nr + 1) := ez_36.trans (nI_add (nl + nr) 1)
                    refine lv_iconst (v := 2) hx hb dX9_mend_251 (by decide) ?_
                    refine lv_idiv hx hb dX9_mend_252 (by decide) ?_
                    refine lv_topi (fun z_37 ez_37 => ?_)
                    obtain rfl : z_37 = nI ((nl + nr + 1) / 2) := ez_37.trans (pk_div (a := nl + nr + 1) (d := 2) (by omega) (by decide) (by decide))
                    refine lv_istore (lv' := [(9, .int (nI ((nl + nr + 1) / 2))), (8, .int 0), (0, .ref h0), (1, .int (nI x0)), (2, .int (nI a0)), (3, .int (nI r0)), (4, .int (nI l0)), (5, .int (nI r1)), (6, .int (ks (24 * x0 + r0))), (7, .int (nI (nl + nr)))]) hx hb dX9_mend_253 hl (by decide) rfl (fun ls hl9 => ?_)
                    replace hl := hl9
                    clear hl9
                    refine lv_iconst (v := 0) hx hb dX9_mend_255 (by decide) ?_
                    refine lv_istore (lv' := [(10, .int 0), (9, .int (nI ((nl + nr + 1) / 2))), (8, .int 0), (0, .ref h0), (1, .int (nI x0)), (2, .int (nI a0)), (3, .int (nI r0)), (4, .int (nI l0)), (5, .int (nI r1)), (6, .int (ks (24 * x0 + r0))), (7, .int (nI (nl + nr)))]) hx hb dX9_mend_256 hl (by decide) rfl (fun ls hl9 => ?_)
                    replace hl := hl9
                    clear hl9
                    refine jn_cut (P := fun Q => ∀ (nf t7 : Nat) (kkt : Nat → Int32) (vvt : Nat → Int32) (H : Heap) (locs : List Loc) (ls : Array Slot), t7 ≤ 20 → 20 + 1 ≤ t7 + nf → (LeF vl vvt bvw l0 t7) → va_P (dC, dI) vwCl [MO9 h0 (nI w) (nI b) (nI lm) (nI cm) (nI li) (nI ci) a_disk v_isDown v_isArmed v_armedWrites v_armedWords v_writes a_kind a_many a_block a_keys a_vals a_isFresh a_kindWas a_manyWas a_blockWas a_keysWas a_valsWas a_freshWas v_root v_rootWas v_latest v_epoch a_reached a_oldKeys a_oldVals a_allKeys a_allVals v_oldMany v_allMany a_row a_written (nI wm) a_path a_place v_depth a_freeRow v_isOther v_moved a_bothKeys a_bothVals v_leafDepth v_found v_lastKey v_hasLast, MA9 a_kind cI 140 k, MA9 a_many cI 140 mm, MA9 a_keys cI 3360 kkt, MA9 a_vals cI 3360 vvt, MA9 a_isFresh cZ 140 fr, MA9 a_written cI 64 wt, MA9 a_bothKeys cI 48 bkw, MA9 a_bothVals cI 48 bvw] H → va_D A [MO9 h0 (nI w) (nI b) (nI lm) (nI cm) (nI li) (nI ci) a_disk v_isDown v_isArmed v_armedWrites v_armedWords v_writes a_kind a_many a_block a_keys a_vals a_isFresh a_kindWas a_manyWas a_blockWas a_keysWas a_valsWas a_freshWas v_root v_rootWas v_latest v_epoch a_reached a_oldKeys a_oldVals a_allKeys a_allVals v_oldMany v_allMany a_row a_written (nI wm) a_path a_place v_depth a_freeRow v_isOther v_moved a_bothKeys a_bothVals v_leafDepth v_found v_lastKey v_hasLast, MA9 a_kind cI 140 k, MA9 a_many cI 140 mm, MA9 a_keys cI 3360 kkt, MA9 a_vals cI 3360 vvt, MA9 a_isFresh cZ 140 fr, MA9 a_written cI 64 wt, MA9 a_bothKeys cI 48 bkw, MA9 a_bothVals cI 48 bvw] → va_S A s.heap H locs → lv_has ls 11 [(0, .ref h0), (1, .int (nI x0)), (2, .int (nI a0)), (3, .int (nI r0)), (4, .int (nI l0)), (5, .int (nI r1)), (6, .int (ks (24 * x0 + r0))), (7, .int (nI (nl + nr))), (8, .int 0), (9, .int (nI ((nl + nr + 1) / 2))), (10, .int (nI t7))] → W p l e (headSpec v_X9_mend ({ frames := 1, cells := 0, slots := 0, locals := 23 } : Room)).room s m ([.ref h0, .int (nI x0), .int (nI a0)] : List Value).toArray below meth c H locs 0 0 Q (F0 m 258 ls [])) ?_ (fun loop_258 => ?_)
                    · intro nf
                      induction nf with
                      | zero =>
                        intro t7 kkt vvt H locs ls h1 h2
                        exact absurd h2 (by omega)
                      | succ nf ih_258 =>
                        intro t7 kkt vvt H locs ls hi hn hv1 hP hD hS hl
                        refine lv_iload hx hb dX9_mend_258 (lv_at hl 10 rfl) ?_
                        refine lv_iload hx hb dX9_mend_260 (lv_at hl 9 rfl) ?_
                        refine lv_icmp_ge (tgt := 311) hx hb dX9_mend_262 (by decide) (fun c_38 => ?_) (fun c_38 => ?_)
                        · have n_c_38 : ((nl + nr + 1) / 2) ≤ t7 := (nI_leI (a := (nl + nr + 1) / 2) (b := t7) (by omega) (by omega)).mp c_38
                          refine lv_aload_n hx hb dX9_mend_311 rfl (lv_at hl 0 rfl) ?_
                          refine va_get (D := (dC, dI)) (ci := 9) (v := .ref a_many) (C := RX9) (T := TX9) (N := 50) hx hb hts k_1 hown hK hP 0 rfl rfl 13 (by decide) k_4 (fun _ h9 => h9) rfl dX9_mend_312 ?_
                          refine lv_iload hx hb dX9_mend_315 (lv_at hl 4 rfl) ?_
                          refine lv_iload hx hb dX9_mend_317 (lv_at hl 9 rfl) ?_
                          refine va_iast hx hb hK hP hD hS 2 0 rfl rfl (show vp_in (nI l0) 140 from vp_in_nI (by omega) (by omega)) dX9_mend_319 (fun H locs hP9 hD9 hS9 => ?_)
                          replace hP := hP9
                          replace hD := hD9
                          replace hS := hS9
                          clear hP9 hD9 hS9
                          replace hP : va_P (dC, dI) vwCl [MO9 h0 (nI w) (nI b) (nI lm) (nI cm) (nI li) (nI ci) a_disk v_isDown v_isArmed v_armedWrites v_armedWords v_writes a_kind a_many a_block a_keys a_vals a_isFresh a_kindWas a_manyWas a_blockWas a_keysWas a_valsWas a_freshWas v_root v_rootWas v_latest v_epoch a_reached a_oldKeys a_oldVals a_allKeys a_allVals v_oldMany v_allMany a_row a_written (nI wm) a_path a_place v_depth a_freeRow v_isOther v_moved a_bothKeys a_bothVals v_leafDepth v_found v_lastKey v_hasLast, MA9 a_kind cI 140 k, MA9 a_many cI 140 (upd mm ((nI l0).toNatClampNeg) (nI ((nl + nr + 1) / 2))), MA9 a_keys cI 3360 kkt, MA9 a_vals cI 3360 vvt, MA9 a_isFresh cZ 140 fr, MA9 a_written cI 64 wt, MA9 a_bothKeys cI 48 bkw, MA9 a_bothVals cI 48 bvw] H := hP
                          replace hD : va_D A [MO9 h0 (nI w) (nI b) (nI lm) (nI cm) (nI li) (nI ci) a_disk v_isDown v_isArmed v_armedWrites v_armedWords v_writes a_kind a_many a_block a_keys a_vals a_isFresh a_kindWas a_manyWas a_blockWas a_keysWas a_valsWas a_freshWas v_root v_rootWas v_latest v_epoch a_reached a_oldKeys a_oldVals a_allKeys a_allVals v_oldMany v_allMany a_row a_written (nI wm) a_path a_place v_depth a_freeRow v_isOther v_moved a_bothKeys a_bothVals v_leafDepth v_found v_lastKey v_hasLast, MA9 a_kind cI 140 k, MA9 a_many cI 140 (upd mm ((nI l0).toNatClampNeg) (nI ((nl + nr + 1) / 2))), MA9 a_keys cI 3360 kkt, MA9 a_vals cI 3360 vvt, MA9 a_isFresh cZ 140 fr, MA9 a_written cI 64 wt, MA9 a_bothKeys cI 48 bkw, MA9 a_bothVals cI 48 bvw] := hD
                          rw [show (nI l0).toNatClampNeg = l0 from nI_clamp (by omega)] at hP hD
                          obtain ⟨f_39, ef_39⟩ : ∃ g9, g9 = upd mm l0 (nI ((nl + nr + 1) / 2)) := ⟨_, rfl⟩
                          rw [← ef_39] at hP hD
                          refine lv_aload_n hx hb dX9_mend_320 rfl (lv_at hl 0 rfl) ?_
                          refine lv_iload hx hb dX9_mend_321 (lv_at hl 4 rfl) ?_
                          have hPc := hP.sub (ws' := [MO9 h0 (nI w) (nI b) (nI lm) (nI cm) (nI li) (nI ci) a_disk v_isDown v_isArmed v_armedWrites v_armedWords v_writes a_kind a_many a_block a_keys a_vals a_isFresh a_kindWas a_manyWas a_blockWas a_keysWas a_valsWas a_freshWas v_root v_rootWas v_latest v_epoch a_reached a_oldKeys a_oldVals a_allKeys a_allVals v_oldMany v_allMany a_row a_written (nI wm) a_path a_place v_depth a_freeRow v_isOther v_moved a_bothKeys a_bothVals v_leafDepth v_found v_lastKey v_hasLast, MA9 a_written cI 64 wt]) [0, 6] rfl
                          have hDc := hD.sub (ws' := [MO9 h0 (nI w) (nI b) (nI lm) (nI cm) (nI li) (nI ci) a_disk v_isDown v_isArmed v_armedWrites v_armedWords v_writes a_kind a_many a_block a_keys a_vals a_isFresh a_kindWas a_manyWas a_blockWas a_keysWas a_valsWas a_freshWas v_root v_rootWas v_latest v_epoch a_reached a_oldKeys a_oldVals a_allKeys a_allVals v_oldMany v_allMany a_row a_written (nI wm) a_path a_place v_depth a_freeRow v_isOther v_moved a_bothKeys a_bothVals v_leafDepth v_found v_lastKey v_hasLast, MA9 a_written cI 64 wt]) [0, 6] (by decide) rfl
                          have hKc := hK.sub (tys' := [(cI, .int)]) [0] rfl
                          have hFc := va_free (wc := [MO9 h0 (nI w) (nI b) (nI lm) (nI cm) (nI li) (nI ci) a_disk v_isDown v_isArmed v_armedWrites v_armedWords v_writes a_kind a_many a_block a_keys a_vals a_isFresh a_kindWas a_manyWas a_blockWas a_keysWas a_valsWas a_freshWas v_root v_rootWas v_latest v_epoch a_reached a_oldKeys a_oldVals a_allKeys a_allVals v_oldMany v_allMany a_row a_written (nI wm) a_path a_place v_depth a_freeRow v_isOther v_moved a_bothKeys a_bothVals v_leafDepth v_found v_lastKey v_hasLast, MA9 a_written cI 64 wt]) hD hS hA [0, 6] rfl
                          refine va_callv (va_runV (As := [.int (nI l0)]) (rest := []) ⟨hx, hb, hml, hown, hts⟩ (c_X9_writes l dC dI H.size h0 w b lm cm li ci a_disk a_kind a_many a_block a_keys a_vals a_isFresh a_kindWas a_manyWas a_blockWas a_keysWas a_valsWas a_freshWas a_reached a_oldKeys a_oldVals a_allKeys a_allVals a_row a_written a_path a_place a_freeRow a_bothKeys a_bothVals v_isDown v_isArmed v_armedWrites v_armedWords v_writes v_root v_rootWas v_latest v_epoch v_oldMany v_allMany v_depth v_isOther v_moved v_leafDepth v_found v_lastKey v_hasLast cI wt (nI l0) wm (by first | assumption | omega | decide)) (cwV 1 hts g_X9_mend_X9_writes rfl rfl rfl (by decide +kernel) ⟨Nat.le_of_ble_eq_true rfl, Nat.le_of_ble_eq_true rfl⟩) ⟨fun a U g mk q => by obtain ⟨q0, q1, qP, qK, qD⟩ := q; exact ⟨q0, q1, qP, va_K.moved (u := U) (U := U.calling g mk a) (Vm.Alike.refl U.vm) qK, qD⟩, va_recv hKc hPc (ci := 9) (q0 := 0) rfl rfl, fun U hU hW => ⟨rfl, by rw [hU], by rw [hU]; exact hPc, va_K.moved hW.alike hKc, hDc.weaken (fun _ _ _ _ => trivial)⟩⟩ rfl rfl hl.1 rfl (lv_room (Nat.le_of_ble_eq_true rfl)) dX9_mend_323 ⟨(show 0 + 0 ≤ 0 by omega), (show 0 + 0 ≤ 0 by omega)⟩) hS (fun q _ h => hFc q h) hFc (fun u t H1 locs ht hvm hw hB hz1 hk1 hS9 => ?_)
                          replace hS := hS9
                          clear hS9
                          obtain ⟨wtA, rfl⟩ : ∃ z, z = u := ⟨_, rfl⟩
                          obtain ⟨hP1, hK1, hD1⟩ := hB
                          rw [ht] at hP1
                          replace hK1 := va_K.moved hvm.symm hK1
                          try dsimp only at hw
                          obtain ⟨hP9, hD9⟩ := va_join (wr := [MA9 a_kind cI 140 k, MA9 a_many cI 140 f_39, MA9 a_keys cI 3360 kkt, MA9 a_vals cI 3360 vvt, MA9 a_isFresh cZ 140 fr, MA9 a_bothKeys cI 48 bkw, MA9 a_bothVals cI 48 bvw]) (w1 := [MO9 h0 (nI w) (nI b) (nI lm) (nI cm) (nI li) (nI ci) a_disk v_isDown v_isArmed v_armedWrites v_armedWords v_writes a_kind a_many a_block a_keys a_vals a_isFresh a_kindWas a_manyWas a_blockWas a_keysWas a_valsWas a_freshWas v_root v_rootWas v_latest v_epoch a_reached a_oldKeys a_oldVals a_allKeys a_allVals v_oldMany v_allMany a_row a_written (nI (wm + 1)) a_path a_place v_depth a_freeRow v_isOther v_moved a_bothKeys a_bothVals v_leafDepth v_found v_lastKey v_hasLast, MA9 a_written cI 64 wtA]) hP hD [0, 6] [1, 2, 3, 4, 5, 7, 8] rfl rfl (by decide) (by decide) hk1 hFc hP1 hD1
                          replace hP := hP9
                          replace hD := hD9
                          clear hP9 hD9
                          replace hK := (hK.sub (tys' := [(cZ, .boolean)]) [1] rfl).app hK1
                          clear hP1 hD1 hK1 hPc hDc hKc hFc hk1 hz1 hvm ht
                          generalize H1 = H at hP hS ⊢
                          replace hP : va_P (dC, dI) vwCl [MA9 a_kind cI 140 k, MA9 a_many cI 140 f_39, MA9 a_keys cI 3360 kkt, MA9 a_vals cI 3360 vvt, MA9 a_isFresh cZ 140 fr, MA9 a_bothKeys cI 48 bkw, MA9 a_bothVals cI 48 bvw, MO9 h0 (nI w) (nI b) (nI lm) (nI cm) (nI li) (nI ci) a_disk v_isDown v_isArmed v_armedWrites v_armedWords v_writes a_kind a_many a_block a_keys a_vals a_isFresh a_kindWas a_manyWas a_blockWas a_keysWas a_valsWas a_freshWas v_root v_rootWas v_latest v_epoch a_reached a_oldKeys a_oldVals a_allKeys a_allVals v_oldMany v_allMany a_row a_written (nI (wm + 1)) a_path a_place v_depth a_freeRow v_isOther v_moved a_bothKeys a_bothVals v_leafDepth v_found v_lastKey v_hasLast, MA9 a_written cI 64 wtA] H := hP
                          replace hD : va_D A [MA9 a_kind cI 140 k, MA9 a_many cI 140 f_39, MA9 a_keys cI 3360 kkt, MA9 a_vals cI 3360 vvt, MA9 a_isFresh cZ 140 fr, MA9 a_bothKeys cI 48 bkw, MA9 a_bothVals cI 48 bvw, MO9 h0 (nI w) (nI b) (nI lm) (nI cm) (nI li) (nI ci) a_disk v_isDown v_isArmed v_armedWrites v_armedWords v_writes a_kind a_many a_block a_keys a_vals a_isFresh a_kindWas a_manyWas a_blockWas a_keysWas a_valsWas a_freshWas v_root v_rootWas v_latest v_epoch a_reached a_oldKeys a_oldVals a_allKeys a_allVals v_oldMany v_allMany a_row a_written (nI (wm + 1)) a_path a_place v_depth a_freeRow v_isOther v_moved a_bothKeys a_bothVals v_leafDepth v_found v_lastKey v_hasLast, MA9 a_written cI 64 wtA] := hD
                          replace hK : va_K (dC, dI) vwCl [(cZ, .boolean), (cI, .int)] s := hK
                          have hw_r_40 := hw
                          have hwA := hw
                          refine jn_cut (P := fun Q => ∀ (mvd : Int32) (H : Heap) (locs : List Loc) (ls : Array Slot), (mvd = 0 ∨ mvd = 1) → va_P (dC, dI) vwCl [MA9 a_kind cI 140 k, MA9 a_many cI 140 f_39, MA9 a_keys cI 3360 kkt, MA9 a_vals cI 3360 vvt, MA9 a_isFresh cZ 140 fr, MA9 a_bothKeys cI 48 bkw, MA9 a_bothVals cI 48 bvw, MO9 h0 (nI w) (nI b) (nI lm) (nI cm) (nI li) (nI ci) a_disk v_isDown v_isArmed v_armedWrites v_armedWords v_writes a_kind a_many a_block a_keys a_vals a_isFresh a_kindWas a_manyWas a_blockWas a_keysWas a_valsWas a_freshWas v_root v_rootWas v_latest v_epoch a_reached a_oldKeys a_oldVals a_allKeys a_allVals v_oldMany v_allMany a_row a_written (nI (wm + 1)) a_path a_place v_depth a_freeRow v_isOther v_moved a_bothKeys a_bothVals v_leafDepth v_found v_lastKey v_hasLast, MA9 a_written cI 64 wtA] H → va_D A [MA9 a_kind cI 140 k, MA9 a_many cI 140 f_39, MA9 a_keys cI 3360 kkt, MA9 a_vals cI 3360 vvt, MA9 a_isFresh cZ 140 fr, MA9 a_bothKeys cI 48 bkw, MA9 a_bothVals cI 48 bvw, MO9 h0 (nI w) (nI b) (nI lm) (nI cm) (nI li) (nI ci) a_disk v_isDown v_isArmed v_armedWrites v_armedWords v_writes a_kind a_many a_block a_keys a_vals a_isFresh a_kindWas a_manyWas a_blockWas a_keysWas a_valsWas a_freshWas v_root v_rootWas v_latest v_epoch a_reached a_oldKeys a_oldVals a_allKeys a_allVals v_oldMany v_allMany a_row a_written (nI (wm + 1)) a_path a_place v_depth a_freeRow v_isOther v_moved a_bothKeys a_bothVals v_leafDepth v_found v_lastKey v_hasLast, MA9 a_written cI 64 wtA] → va_S A s.heap H locs → lv_has ls 11 [(0, .ref h0), (1, .int (nI x0)), (2, .int (nI a0)), (3, .int (nI r0)), (4, .int (nI l0)), (5, .int (nI r1)), (6, .int (ks (24 * x0 + r0))), (7, .int (nI (nl + nr))), (8, .int 0), (9, .int (nI ((nl + nr + 1) / 2))), (10, .int (nI t7))] → W p l e (headSpec v_X9_mend ({ frames := 1, cells := 0, slots := 0, locals := 23 } : Room)).room s m ([.ref h0, .int (nI x0), .int (nI a0)] : List Value).toArray below meth c H locs 0 0 Q (F0 m 342 ls [.int mvd, .ref h0])) ?_ (fun jn_41 => ?_)
                          · intro mvd H locs ls hmvd hP hD hS hl
                            refine va_put (D := (dC, dI)) (ci := 9) (v := .int mvd) (ty := .boolean) (C := RX9) (T := TX9) (N := 50) hx hb hts k_1 tyX9 tyX9_ok nmX9 hown hK hP hD hS 7 rfl rfl 43 (by decide) k_5 (fun _ h9 => h9) rfl (by decide +kernel) (b01_nar hmvd) (b01_fit hmvd) (Nat.le_of_ble_eq_true rfl) dX9_mend_342 (fun H locs hP9 hD9 hS9 => ?_)
                            replace hP := hP9
                            replace hD := hD9
                            replace hS := hS9
                            clear hP9 hD9 hS9
                            replace hP : va_P (dC, dI) vwCl [MA9 a_kind cI 140 k, MA9 a_many cI 140 f_39, MA9 a_keys cI 3360 kkt, MA9 a_vals cI 3360 vvt, MA9 a_isFresh cZ 140 fr, MA9 a_bothKeys cI 48 bkw, MA9 a_bothVals cI 48 bvw, MO9 h0 (nI w) (nI b) (nI lm) (nI cm) (nI li) (nI ci) a_disk v_isDown v_isArmed v_armedWrites v_armedWords v_writes a_kind a_many a_block a_keys a_vals a_isFresh a_kindWas a_manyWas a_blockWas a_keysWas a_valsWas a_freshWas v_root v_rootWas v_latest v_epoch a_reached a_oldKeys a_oldVals a_allKeys a_allVals v_oldMany v_allMany a_row a_written (nI (wm + 1)) a_path a_place v_depth a_freeRow v_isOther mvd a_bothKeys a_bothVals v_leafDepth v_found v_lastKey v_hasLast, MA9 a_written cI 64 wtA] H := hP
                            replace hD : va_D A [MA9 a_kind cI 140 k, MA9 a_many cI 140 f_39, MA9 a_keys cI 3360 kkt, MA9 a_vals cI 3360 vvt, MA9 a_isFresh cZ 140 fr, MA9 a_bothKeys cI 48 bkw, MA9 a_bothVals cI 48 bvw, MO9 h0 (nI w) (nI b) (nI lm) (nI cm) (nI li) (nI ci) a_disk v_isDown v_isArmed v_armedWrites v_armedWords v_writes a_kind a_many a_block a_keys a_vals a_isFresh a_kindWas a_manyWas a_blockWas a_keysWas a_valsWas a_freshWas v_root v_rootWas v_latest v_epoch a_reached a_oldKeys a_oldVals a_allKeys a_allVals v_oldMany v_allMany a_row a_written (nI (wm + 1)) a_path a_place v_depth a_freeRow v_isOther mvd a_bothKeys a_bothVals v_leafDepth v_found v_lastKey v_hasLast, MA9 a_written cI 64 wtA] := hD
                            refine lv_iload hx hb dX9_mend_345 (lv_at hl 8 rfl) ?_
                            refine lv_if_eq (tgt := 370) hx hb dX9_mend_347 (by decide) (fun c_42 => ?_) (fun c_42 => ?_)
                            rotate_left
                            · exact absurd (by decide) c_42
                            refine lv_iload hx hb dX9_mend_370 (lv_at hl 9 rfl) ?_
                            refine lv_istore (lv' := [(10, .int (nI ((nl + nr + 1) / 2))), (0, .ref h0), (1, .int (nI x0)), (2, .int (nI a0)), (3, .int (nI r0)), (4, .int (nI l0)), (5, .int (nI r1)), (6, .int (ks (24 * x0 + r0))), (7, .int (nI (nl + nr))), (8, .int 0), (9, .int (nI ((nl + nr + 1) / 2)))]) hx hb dX9_mend_372 hl (by decide) rfl (fun ls hl9 => ?_)
                            replace hl := hl9
                            clear hl9
                            refine jn_cut (P := fun Q => ∀ (nf u7 : Nat) (kku : Nat → Int32) (vvu : Nat → Int32) (H : Heap) (locs : List Loc) (ls : Array Slot), u7 ≤ nl + nr → nl + nr + 1 ≤ u7 + nf → ((nl + nr + 1) / 2 ≤ u7) → (RiF vvt vvu bvw r1 ((nl + nr + 1) / 2) u7) → va_P (dC, dI) vwCl [MA9 a_kind cI 140 k, MA9 a_many cI 140 f_39, MA9 a_keys cI 3360 kku, MA9 a_vals cI 3360 vvu, MA9 a_isFresh cZ 140 fr, MA9 a_bothKeys cI 48 bkw, MA9 a_bothVals cI 48 bvw, MO9 h0 (nI w) (nI b) (nI lm) (nI cm) (nI li) (nI ci) a_disk v_isDown v_isArmed v_armedWrites v_armedWords v_writes a_kind a_many a_block a_keys a_vals a_isFresh a_kindWas a_manyWas a_blockWas a_keysWas a_valsWas a_freshWas v_root v_rootWas v_latest v_epoch a_reached a_oldKeys a_oldVals a_allKeys a_allVals v_oldMany v_allMany a_row a_written (nI (wm + 1)) a_path a_place v_depth a_freeRow v_isOther mvd a_bothKeys a_bothVals v_leafDepth v_found v_lastKey v_hasLast, MA9 a_written cI 64 wtA] H → va_D A [MA9 a_kind cI 140 k, MA9 a_many cI 140 f_39, MA9 a_keys cI 3360 kku, MA9 a_vals cI 3360 vvu, MA9 a_isFresh cZ 140 fr, MA9 a_bothKeys cI 48 bkw, MA9 a_bothVals cI 48 bvw, MO9 h0 (nI w) (nI b) (nI lm) (nI cm) (nI li) (nI ci) a_disk v_isDown v_isArmed v_armedWrites v_armedWords v_writes a_kind a_many a_block a_keys a_vals a_isFresh a_kindWas a_manyWas a_blockWas a_keysWas a_valsWas a_freshWas v_root v_rootWas v_latest v_epoch a_reached a_oldKeys a_oldVals a_allKeys a_allVals v_oldMany v_allMany a_row a_written (nI (wm + 1)) a_path a_place v_depth a_freeRow v_isOther mvd a_bothKeys a_bothVals v_leafDepth v_found v_lastKey v_hasLast, MA9 a_written cI 64 wtA] → va_S A s.heap H locs → lv_has ls 11 [(0, .ref h0), (1, .int (nI x0)), (2, .int (nI a0)), (3, .int (nI r0)), (4, .int (nI l0)), (5, .int (nI r1)), (6, .int (ks (24 * x0 + r0))), (7, .int (nI (nl + nr))), (8, .int 0), (9, .int (nI ((nl + nr + 1) / 2))), (10, .int (nI u7))] → W p l e (headSpec v_X9_mend ({ frames := 1, cells := 0, slots := 0, locals := 23 } : Room)).room s m ([.ref h0, .int (nI x0), .int (nI a0)] : List Value).toArray below meth c H locs 0 0 Q (F0 m 374 ls [])) ?_ (fun loop_374 => ?_)
                            · intro nf
                              induction nf with
                              | zero =>
                                intro u7 kku vvu H locs ls h1 h2
                                exact absurd h2 (by omega)
                              | succ nf ih_374 =>
                                intro u7 kku vvu H locs ls hi hn hus hv2 hP hD hS hl
                                refine lv_iload hx hb dX9_mend_374 (lv_at hl 10 rfl) ?_
                                refine lv_iload hx hb dX9_mend_376 (lv_at hl 7 rfl) ?_
                                refine lv_icmp_ge (tgt := 433) hx hb dX9_mend_378 (by decide) (fun c_43 => ?_) (fun c_43 => ?_)
                                · have n_c_43 : (nl + nr) ≤ u7 := (nI_leI (a := nl + nr) (b := u7) (by omega) (by omega)).mp c_43
                                  refine lv_aload_n hx hb dX9_mend_433 rfl (lv_at hl 0 rfl) ?_
                                  refine va_get (D := (dC, dI)) (ci := 9) (v := .ref a_many) (C := RX9) (T := TX9) (N := 50) hx hb hts k_1 hown hK hP 7 rfl rfl 13 (by decide) k_4 (fun _ h9 => h9) rfl dX9_mend_434 ?_
                                  refine lv_iload hx hb dX9_mend_437 (lv_at hl 5 rfl) ?_
                                  refine lv_iload hx hb dX9_mend_439 (lv_at hl 7 rfl) ?_
                                  refine lv_iload hx hb dX9_mend_441 (lv_at hl 9 rfl) ?_
                                  refine lv_isub hx hb dX9_mend_443 ?_
                                  refine lv_topi (fun z_44 ez_44 => ?_)
                                  obtain rfl : z_44 = nI (nl + nr - ((nl + nr + 1) / 2)) := ez_44.trans (pk_sub (a := nl + nr) (b := (nl + nr + 1) / 2) (by omega))
                                  refine va_iast hx hb hK hP hD hS 1 1 rfl rfl (show vp_in (nI r1) 140 from vp_in_nI (by omega) (by omega)) dX9_mend_444 (fun H locs hP9 hD9 hS9 => ?_)
                                  replace hP := hP9
                                  replace hD := hD9
                                  replace hS := hS9
                                  clear hP9 hD9 hS9
                                  replace hP : va_P (dC, dI) vwCl [MA9 a_kind cI 140 k, MA9 a_many cI 140 (upd f_39 ((nI r1).toNatClampNeg) (nI (nl + nr - ((nl + nr + 1) / 2)))), MA9 a_keys cI 3360 kku, MA9 a_vals cI 3360 vvu, MA9 a_isFresh cZ 140 fr, MA9 a_bothKeys cI 48 bkw, MA9 a_bothVals cI 48 bvw, MO9 h0 (nI w) (nI b) (nI lm) (nI cm) (nI li) (nI ci) a_disk v_isDown v_isArmed v_armedWrites v_armedWords v_writes a_kind a_many a_block a_keys a_vals a_isFresh a_kindWas a_manyWas a_blockWas a_keysWas a_valsWas a_freshWas v_root v_rootWas v_latest v_epoch a_reached a_oldKeys a_oldVals a_allKeys a_allVals v_oldMany v_allMany a_row a_written (nI (wm + 1)) a_path a_place v_depth a_freeRow v_isOther mvd a_bothKeys a_bothVals v_leafDepth v_found v_lastKey v_hasLast, MA9 a_written cI 64 wtA] H := hP
                                  replace hD : va_D A [MA9 a_kind cI 140 k, MA9 a_many cI 140 (upd f_39 ((nI r1).toNatClampNeg) (nI (nl + nr - ((nl + nr + 1) / 2)))), MA9 a_keys cI 3360 kku, MA9 a_vals cI 3360 vvu, MA9 a_isFresh cZ 140 fr, MA9 a_bothKeys cI 48 bkw, MA9 a_bothVals cI 48 bvw, MO9 h0 (nI w) (nI b) (nI lm) (nI cm) (nI li) (nI ci) a_disk v_isDown v_isArmed v_armedWrites v_armedWords v_writes a_kind a_many a_block a_keys a_vals a_isFresh a_kindWas a_manyWas a_blockWas a_keysWas a_valsWas a_freshWas v_root v_rootWas v_latest v_epoch a_reached a_oldKeys a_oldVals a_allKeys a_allVals v_oldMany v_allMany a_row a_written (nI (wm + 1)) a_path a_place v_depth a_freeRow v_isOther mvd a_bothKeys a_bothVals v_leafDepth v_found v_lastKey v_hasLast, MA9 a_written cI 64 wtA] := hD
                                  rw [show (nI r1).toNatClampNeg = r1 from nI_clamp (by omega)] at hP hD
                                  obtain ⟨f_45, ef_45⟩ : ∃ g9, g9 = upd f_39 r1 (nI (nl + nr - ((nl + nr + 1) / 2))) := ⟨_, rfl⟩
                                  rw [← ef_45] at hP hD
                                  refine lv_aload_n hx hb dX9_mend_445 rfl (lv_at hl 0 rfl) ?_
                                  refine lv_iload hx hb dX9_mend_446 (lv_at hl 5 rfl) ?_
                                  have hPc := hP.sub (ws' := [MO9 h0 (nI w) (nI b) (nI lm) (nI cm) (nI li) (nI ci) a_disk v_isDown v_isArmed v_armedWrites v_armedWords v_writes a_kind a_many a_block a_keys a_vals a_isFresh a_kindWas a_manyWas a_blockWas a_keysWas a_valsWas a_freshWas v_root v_rootWas v_latest v_epoch a_reached a_oldKeys a_oldVals a_allKeys a_allVals v_oldMany v_allMany a_row a_written (nI (wm + 1)) a_path a_place v_depth a_freeRow v_isOther mvd a_bothKeys a_bothVals v_leafDepth v_found v_lastKey v_hasLast, MA9 a_written cI 64 wtA]) [7, 8] rfl
                                  have hDc := hD.sub (ws' := [MO9 h0 (nI w) (nI b) (nI lm) (nI cm) (nI li) (nI ci) a_disk v_isDown v_isArmed v_armedWrites v_armedWords v_writes a_kind a_many a_block a_keys a_vals a_isFresh a_kindWas a_manyWas a_blockWas a_keysWas a_valsWas a_freshWas v_root v_rootWas v_latest v_epoch a_reached a_oldKeys a_oldVals a_allKeys a_allVals v_oldMany v_allMany a_row a_written (nI (wm + 1)) a_path a_place v_depth a_freeRow v_isOther mvd a_bothKeys a_bothVals v_leafDepth v_found v_lastKey v_hasLast, MA9 a_written cI 64 wtA]) [7, 8] (by decide) rfl
                                  have hKc := hK.sub (tys' := [(cI, .int)]) [1] rfl
                                  have hFc := va_free (wc := [MO9 h0 (nI w) (nI b) (nI lm) (nI cm) (nI li) (nI ci) a_disk v_isDown v_isArmed v_armedWrites v_armedWords v_writes a_kind a_many a_block a_keys a_vals a_isFresh a_kindWas a_manyWas a_blockWas a_keysWas a_valsWas a_freshWas v_root v_rootWas v_latest v_epoch a_reached a_oldKeys a_oldVals a_allKeys a_allVals v_oldMany v_allMany a_row a_written (nI (wm + 1)) a_path a_place v_depth a_freeRow v_isOther mvd a_bothKeys a_bothVals v_leafDepth v_found v_lastKey v_hasLast, MA9 a_written cI 64 wtA]) hD hS hA [7, 8] rfl
                                  refine va_callv (va_runV (As := [.int (nI r1)]) (rest := []) ⟨hx, hb, hml, hown, hts⟩ (c_X9_writes l dC dI H.size h0 w b lm cm li ci a_disk a_kind a_many a_block a_keys a_vals a_isFresh a_kindWas a_manyWas a_blockWas a_keysWas a_valsWas a_freshWas a_reached a_oldKeys a_oldVals a_allKeys a_allVals a_row a_written a_path a_place a_freeRow a_bothKeys a_bothVals v_isDown v_isArmed v_armedWrites v_armedWords v_writes v_root v_rootWas v_latest v_epoch v_oldMany v_allMany v_depth v_isOther mvd v_leafDepth v_found v_lastKey v_hasLast cI wtA (nI r1) (wm + 1) (by first | assumption | omega | decide)) (cwV 1 hts g_X9_mend_X9_writes rfl rfl rfl (by decide +kernel) ⟨Nat.le_of_ble_eq_true rfl, Nat.le_of_ble_eq_true rfl⟩) ⟨fun a U g mk q => by obtain ⟨q0, q1, qP, qK, qD⟩ := q; exact ⟨q0, q1, qP, va_K.moved (u := U) (U := U.calling g mk a) (Vm.Alike.refl U.vm) qK, qD⟩, va_recv hKc hPc (ci := 9) (q0 := 0) rfl rfl, fun U hU hW => ⟨rfl, by rw [hU], by rw [hU]; exact hPc, va_K.moved hW.alike hKc, hDc.weaken (fun _ _ _ _ => trivial)⟩⟩ rfl rfl hl.1 rfl (lv_room (Nat.le_of_ble_eq_true rfl)) dX9_mend_448 ⟨(show 0 + 0 ≤ 0 by omega), (show 0 + 0 ≤ 0 by omega)⟩) hS (fun q _ h => hFc q h) hFc (fun u t H1 locs ht hvm hw hB hz1 hk1 hS9 => ?_)
                                  replace hS := hS9
                                  clear hS9
                                  obtain ⟨wtB, rfl⟩ : ∃ z, z = u := ⟨_, rfl⟩
                                  obtain ⟨hP1, hK1, hD1⟩ := hB
                                  rw [ht] at hP1
                                  replace hK1 := va_K.moved hvm.symm hK1
                                  try dsimp only at hw
                                  obtain ⟨hP9, hD9⟩ := va_join (wr := [MA9 a_kind cI 140 k, MA9 a_many cI 140 f_45, MA9 a_keys cI 3360 kku, MA9 a_vals cI 3360 vvu, MA9 a_isFresh cZ 140 fr, MA9 a_bothKeys cI 48 bkw, MA9 a_bothVals cI 48 bvw]) (w1 := [MO9 h0 (nI w) (nI b) (nI lm) (nI cm) (nI li) (nI ci) a_disk v_isDown v_isArmed v_armedWrites v_armedWords v_writes a_kind a_many a_block a_keys a_vals a_isFresh a_kindWas a_manyWas a_blockWas a_keysWas a_valsWas a_freshWas v_root v_rootWas v_latest v_epoch a_reached a_oldKeys a_oldVals a_allKeys a_allVals v_oldMany v_allMany a_row a_written (nI ((wm + 1) + 1)) a_path a_place v_depth a_freeRow v_isOther mvd a_bothKeys a_bothVals v_leafDepth v_found v_lastKey v_hasLast, MA9 a_written cI 64 wtB]) hP hD [7, 8] [0, 1, 2, 3, 4, 5, 6] rfl rfl (by decide) (by decide) hk1 hFc hP1 hD1
                                  replace hP := hP9
                                  replace hD := hD9
                                  clear hP9 hD9
                                  replace hK := (hK.sub (tys' := [(cZ, .boolean)]) [0] rfl).app hK1
                                  clear hP1 hD1 hK1 hPc hDc hKc hFc hk1 hz1 hvm ht
                                  generalize H1 = H at hP hS ⊢
                                  replace hP : va_P (dC, dI) vwCl [MA9 a_kind cI 140 k, MA9 a_many cI 140 f_45, MA9 a_keys cI 3360 kku, MA9 a_vals cI 3360 vvu, MA9 a_isFresh cZ 140 fr, MA9 a_bothKeys cI 48 bkw, MA9 a_bothVals cI 48 bvw, MO9 h0 (nI w) (nI b) (nI lm) (nI cm) (nI li) (nI ci) a_disk v_isDown v_isArmed v_armedWrites v_armedWords v_writes a_kind a_many a_block a_keys a_vals a_isFresh a_kindWas a_manyWas a_blockWas a_keysWas a_valsWas a_freshWas v_root v_rootWas v_latest v_epoch a_reached a_oldKeys a_oldVals a_allKeys a_allVals v_oldMany v_allMany a_row a_written (nI ((wm + 1) + 1)) a_path a_place v_depth a_freeRow v_isOther mvd a_bothKeys a_bothVals v_leafDepth v_found v_lastKey v_hasLast, MA9 a_written cI 64 wtB] H := hP
                                  replace hD : va_D A [MA9 a_kind cI 140 k, MA9 a_many cI 140 f_45, MA9 a_keys cI 3360 kku, MA9 a_vals cI 3360 vvu, MA9 a_isFresh cZ 140 fr, MA9 a_bothKeys cI 48 bkw, MA9 a_bothVals cI 48 bvw, MO9 h0 (nI w) (nI b) (nI lm) (nI cm) (nI li) (nI ci) a_disk v_isDown v_isArmed v_armedWrites v_armedWords v_writes a_kind a_many a_block a_keys a_vals a_isFresh a_kindWas a_manyWas a_blockWas a_keysWas a_valsWas a_freshWas v_root v_rootWas v_latest v_epoch a_reached a_oldKeys a_oldVals a_allKeys a_allVals v_oldMany v_allMany a_row a_written (nI ((wm + 1) + 1)) a_path a_place v_depth a_freeRow v_isOther mvd a_bothKeys a_bothVals v_leafDepth v_found v_lastKey v_hasLast, MA9 a_written cI 64 wtB] := hD
                                  replace hK : va_K (dC, dI) vwCl [(cZ, .boolean), (cI, .int)] s := hK
                                  have hw_r_46 := hw
                                  have hwB := hw
                                  refine jn_cut (P := fun Q => ∀ (mvq : Int32) (H : Heap) (locs : List Loc) (ls : Array Slot), (mvq = 0 ∨ mvq = 1) → va_P (dC, dI) vwCl [MA9 a_kind cI 140 k, MA9 a_many cI 140 f_45, MA9 a_keys cI 3360 kku, MA9 a_vals cI 3360 vvu, MA9 a_isFresh cZ 140 fr, MA9 a_bothKeys cI 48 bkw, MA9 a_bothVals cI 48 bvw, MO9 h0 (nI w) (nI b) (nI lm) (nI cm) (nI li) (nI ci) a_disk v_isDown v_isArmed v_armedWrites v_armedWords v_writes a_kind a_many a_block a_keys a_vals a_isFresh a_kindWas a_manyWas a_blockWas a_keysWas a_valsWas a_freshWas v_root v_rootWas v_latest v_epoch a_reached a_oldKeys a_oldVals a_allKeys a_allVals v_oldMany v_allMany a_row a_written (nI ((wm + 1) + 1)) a_path a_place v_depth a_freeRow v_isOther mvd a_bothKeys a_bothVals v_leafDepth v_found v_lastKey v_hasLast, MA9 a_written cI 64 wtB] H → va_D A [MA9 a_kind cI 140 k, MA9 a_many cI 140 f_45, MA9 a_keys cI 3360 kku, MA9 a_vals cI 3360 vvu, MA9 a_isFresh cZ 140 fr, MA9 a_bothKeys cI 48 bkw, MA9 a_bothVals cI 48 bvw, MO9 h0 (nI w) (nI b) (nI lm) (nI cm) (nI li) (nI ci) a_disk v_isDown v_isArmed v_armedWrites v_armedWords v_writes a_kind a_many a_block a_keys a_vals a_isFresh a_kindWas a_manyWas a_blockWas a_keysWas a_valsWas a_freshWas v_root v_rootWas v_latest v_epoch a_reached a_oldKeys a_oldVals a_allKeys a_allVals v_oldMany v_allMany a_row a_written (nI ((wm + 1) + 1)) a_path a_place v_depth a_freeRow v_isOther mvd a_bothKeys a_bothVals v_leafDepth v_found v_lastKey v_hasLast, MA9 a_written cI 64 wtB] → va_S A s.heap H locs → lv_has ls 11 [(0, .ref h0), (1, .int (nI x0)), (2, .int (nI a0)), (3, .int (nI r0)), (4, .int (nI l0)), (5, .int (nI r1)), (6, .int (ks (24 * x0 + r0))), (7, .int (nI (nl + nr))), (8, .int 0), (9, .int (nI ((nl + nr + 1) / 2))), (10, .int (nI u7))] → W p l e (headSpec v_X9_mend ({ frames := 1, cells := 0, slots := 0, locals := 23 } : Room)).room s m ([.ref h0, .int (nI x0), .int (nI a0)] : List Value).toArray below meth c H locs 0 0 Q (F0 m 474 ls [.int mvq, .ref h0])) ?_ (fun jn_47 => ?_)
                                  · intro mvq H locs ls hmvq hP hD hS hl
                                    refine va_put (D := (dC, dI)) (ci := 9) (v := .int mvq) (ty := .boolean) (C := RX9) (T := TX9) (N := 50) hx hb hts k_1 tyX9 tyX9_ok nmX9 hown hK hP hD hS 7 rfl rfl 43 (by decide) k_5 (fun _ h9 => h9) rfl (by decide +kernel) (b01_nar hmvq) (b01_fit hmvq) (Nat.le_of_ble_eq_true rfl) dX9_mend_474 (fun H locs hP9 hD9 hS9 => ?_)
                                    replace hP := hP9
                                    replace hD := hD9
                                    replace hS := hS9
                                    clear hP9 hD9 hS9
                                    replace hP : va_P (dC, dI) vwCl [MA9 a_kind cI 140 k, MA9 a_many cI 140 f_45, MA9 a_keys cI 3360 kku, MA9 a_vals cI 3360 vvu, MA9 a_isFresh cZ 140 fr, MA9 a_bothKeys cI 48 bkw, MA9 a_bothVals cI 48 bvw, MO9 h0 (nI w) (nI b) (nI lm) (nI cm) (nI li) (nI ci) a_disk v_isDown v_isArmed v_armedWrites v_armedWords v_writes a_kind a_many a_block a_keys a_vals a_isFresh a_kindWas a_manyWas a_blockWas a_keysWas a_valsWas a_freshWas v_root v_rootWas v_latest v_epoch a_reached a_oldKeys a_oldVals a_allKeys a_allVals v_oldMany v_allMany a_row a_written (nI ((wm + 1) + 1)) a_path a_place v_depth a_freeRow v_isOther mvq a_bothKeys a_bothVals v_leafDepth v_found v_lastKey v_hasLast, MA9 a_written cI 64 wtB] H := hP
                                    replace hD : va_D A [MA9 a_kind cI 140 k, MA9 a_many cI 140 f_45, MA9 a_keys cI 3360 kku, MA9 a_vals cI 3360 vvu, MA9 a_isFresh cZ 140 fr, MA9 a_bothKeys cI 48 bkw, MA9 a_bothVals cI 48 bvw, MO9 h0 (nI w) (nI b) (nI lm) (nI cm) (nI li) (nI ci) a_disk v_isDown v_isArmed v_armedWrites v_armedWords v_writes a_kind a_many a_block a_keys a_vals a_isFresh a_kindWas a_manyWas a_blockWas a_keysWas a_valsWas a_freshWas v_root v_rootWas v_latest v_epoch a_reached a_oldKeys a_oldVals a_allKeys a_allVals v_oldMany v_allMany a_row a_written (nI ((wm + 1) + 1)) a_path a_place v_depth a_freeRow v_isOther mvq a_bothKeys a_bothVals v_leafDepth v_found v_lastKey v_hasLast, MA9 a_written cI 64 wtB] := hD
                                    refine jn_cut (P := fun Q => ∀ (ioq : Int32) (H : Heap) (locs : List Loc) (ls : Array Slot), (ioq = 0 ∨ ioq = 1) → va_P (dC, dI) vwCl [MA9 a_kind cI 140 k, MA9 a_many cI 140 f_45, MA9 a_keys cI 3360 kku, MA9 a_vals cI 3360 vvu, MA9 a_isFresh cZ 140 fr, MA9 a_bothKeys cI 48 bkw, MA9 a_bothVals cI 48 bvw, MO9 h0 (nI w) (nI b) (nI lm) (nI cm) (nI li) (nI ci) a_disk v_isDown v_isArmed v_armedWrites v_armedWords v_writes a_kind a_many a_block a_keys a_vals a_isFresh a_kindWas a_manyWas a_blockWas a_keysWas a_valsWas a_freshWas v_root v_rootWas v_latest v_epoch a_reached a_oldKeys a_oldVals a_allKeys a_allVals v_oldMany v_allMany a_row a_written (nI ((wm + 1) + 1)) a_path a_place v_depth a_freeRow v_isOther mvq a_bothKeys a_bothVals v_leafDepth v_found v_lastKey v_hasLast, MA9 a_written cI 64 wtB] H → va_D A [MA9 a_kind cI 140 k, MA9 a_many cI 140 f_45, MA9 a_keys cI 3360 kku, MA9 a_vals cI 3360 vvu, MA9 a_isFresh cZ 140 fr, MA9 a_bothKeys cI 48 bkw, MA9 a_bothVals cI 48 bvw, MO9 h0 (nI w) (nI b) (nI lm) (nI cm) (nI li) (nI ci) a_disk v_isDown v_isArmed v_armedWrites v_armedWords v_writes a_kind a_many a_block a_keys a_vals a_isFresh a_kindWas a_manyWas a_blockWas a_keysWas a_valsWas a_freshWas v_root v_rootWas v_latest v_epoch a_reached a_oldKeys a_oldVals a_allKeys a_allVals v_oldMany v_allMany a_row a_written (nI ((wm + 1) + 1)) a_path a_place v_depth a_freeRow v_isOther mvq a_bothKeys a_bothVals v_leafDepth v_found v_lastKey v_hasLast, MA9 a_written cI 64 wtB] → va_S A s.heap H locs → lv_has ls 11 [(0, .ref h0), (1, .int (nI x0)), (2, .int (nI a0)), (3, .int (nI r0)), (4, .int (nI l0)), (5, .int (nI r1)), (6, .int (ks (24 * x0 + r0))), (7, .int (nI (nl + nr))), (8, .int 0), (9, .int (nI ((nl + nr + 1) / 2))), (10, .int (nI u7))] → W p l e (headSpec v_X9_mend ({ frames := 1, cells := 0, slots := 0, locals := 23 } : Room)).room s m ([.ref h0, .int (nI x0), .int (nI a0)] : List Value).toArray below meth c H locs 0 0 Q (F0 m 495 ls [.int ioq, .ref h0])) ?_ (fun jn_48 => ?_)
                                    · intro ioq H locs ls hioq hP hD hS hl
                                      refine va_put (D := (dC, dI)) (ci := 9) (v := .int ioq) (ty := .boolean) (C := RX9) (T := TX9) (N := 50) hx hb hts k_1 tyX9 tyX9_ok nmX9 hown hK hP hD hS 7 rfl rfl 42 (by decide) k_7 (fun _ h9 => h9) rfl (by decide +kernel) (b01_nar hioq) (b01_fit hioq) (Nat.le_of_ble_eq_true rfl) dX9_mend_495 (fun H locs hP9 hD9 hS9 => ?_)
                                      replace hP := hP9
                                      replace hD := hD9
                                      replace hS := hS9
                                      clear hP9 hD9 hS9
                                      replace hP : va_P (dC, dI) vwCl [MA9 a_kind cI 140 k, MA9 a_many cI 140 f_45, MA9 a_keys cI 3360 kku, MA9 a_vals cI 3360 vvu, MA9 a_isFresh cZ 140 fr, MA9 a_bothKeys cI 48 bkw, MA9 a_bothVals cI 48 bvw, MO9 h0 (nI w) (nI b) (nI lm) (nI cm) (nI li) (nI ci) a_disk v_isDown v_isArmed v_armedWrites v_armedWords v_writes a_kind a_many a_block a_keys a_vals a_isFresh a_kindWas a_manyWas a_blockWas a_keysWas a_valsWas a_freshWas v_root v_rootWas v_latest v_epoch a_reached a_oldKeys a_oldVals a_allKeys a_allVals v_oldMany v_allMany a_row a_written (nI ((wm + 1) + 1)) a_path a_place v_depth a_freeRow ioq mvq a_bothKeys a_bothVals v_leafDepth v_found v_lastKey v_hasLast, MA9 a_written cI 64 wtB] H := hP
                                      replace hD : va_D A [MA9 a_kind cI 140 k, MA9 a_many cI 140 f_45, MA9 a_keys cI 3360 kku, MA9 a_vals cI 3360 vvu, MA9 a_isFresh cZ 140 fr, MA9 a_bothKeys cI 48 bkw, MA9 a_bothVals cI 48 bvw, MO9 h0 (nI w) (nI b) (nI lm) (nI cm) (nI li) (nI ci) a_disk v_isDown v_isArmed v_armedWrites v_armedWords v_writes a_kind a_many a_block a_keys a_vals a_isFresh a_kindWas a_manyWas a_blockWas a_keysWas a_valsWas a_freshWas v_root v_rootWas v_latest v_epoch a_reached a_oldKeys a_oldVals a_allKeys a_allVals v_oldMany v_allMany a_row a_written (nI ((wm + 1) + 1)) a_path a_place v_depth a_freeRow ioq mvq a_bothKeys a_bothVals v_leafDepth v_found v_lastKey v_hasLast, MA9 a_written cI 64 wtB] := hD
                                      refine lv_aload_n hx hb dX9_mend_498 rfl (lv_at hl 0 rfl) ?_
                                      refine va_get (D := (dC, dI)) (ci := 9) (v := .ref a_keys) (C := RX9) (T := TX9) (N := 50) hx hb hts k_1 hown hK hP 7 rfl rfl 15 (by decide) k_3 (fun _ h9 => h9) rfl dX9_mend_499 ?_
                                      refine lv_bipush (v := 24) hx hb dX9_mend_502 (by decide) ?_
                                      refine lv_iload_n hx hb dX9_mend_504 rfl (lv_at hl 1 rfl) ?_
                                      refine lv_imul hx hb dX9_mend_505 ?_
                                      refine lv_topi (fun z_49 ez_49 => ?_)
                                      obtain rfl : z_49 = nI (24 * x0) := ez_49.trans (pk_mul 24 x0)
                                      refine lv_iload_n hx hb dX9_mend_506 rfl (lv_at hl 3 rfl) ?_
                                      refine lv_iadd hx hb dX9_mend_507 ?_
                                      refine lv_topi (fun z_50 ez_50 => ?_)
                                      obtain rfl : z_50 = nI (24 * x0 + r0) := ez_50.trans (nI_add (24 * x0) r0)
                                      refine lv_aload_n hx hb dX9_mend_508 rfl (lv_at hl 0 rfl) ?_
                                      refine va_get (D := (dC, dI)) (ci := 9) (v := .ref a_bothKeys) (C := RX9) (T := TX9) (N := 50) hx hb hts k_1 hown hK hP 7 rfl rfl 44 (by decide) k_9 (fun _ h9 => h9) rfl dX9_mend_509 ?_
                                      refine lv_iload hx hb dX9_mend_512 (lv_at hl 9 rfl) ?_
                                      refine va_iald hx hb hK hP 5 1 rfl rfl (show vp_in (nI ((nl + nr + 1) / 2)) 48 from vp_in_nI (by omega) (by omega)) dX9_mend_514 ?_
                                      refine lv_topi (fun z_51 ez_51 => ?_)
                                      obtain rfl : z_51 = bkw ((nl + nr + 1) / 2) := ez_51.trans (congrArg bkw (nI_clamp (by omega)))
                                      refine va_iast hx hb hK hP hD hS 2 1 rfl rfl (show vp_in (nI (24 * x0 + r0)) 3360 from vp_in_nI (by omega) (by omega)) dX9_mend_515 (fun H locs hP9 hD9 hS9 => ?_)
                                      replace hP := hP9
                                      replace hD := hD9
                                      replace hS := hS9
                                      clear hP9 hD9 hS9
                                      replace hP : va_P (dC, dI) vwCl [MA9 a_kind cI 140 k, MA9 a_many cI 140 f_45, MA9 a_keys cI 3360 (upd kku ((nI (24 * x0 + r0)).toNatClampNeg) (bkw ((nl + nr + 1) / 2))), MA9 a_vals cI 3360 vvu, MA9 a_isFresh cZ 140 fr, MA9 a_bothKeys cI 48 bkw, MA9 a_bothVals cI 48 bvw, MO9 h0 (nI w) (nI b) (nI lm) (nI cm) (nI li) (nI ci) a_disk v_isDown v_isArmed v_armedWrites v_armedWords v_writes a_kind a_many a_block a_keys a_vals a_isFresh a_kindWas a_manyWas a_blockWas a_keysWas a_valsWas a_freshWas v_root v_rootWas v_latest v_epoch a_reached a_oldKeys a_oldVals a_allKeys a_allVals v_oldMany v_allMany a_row a_written (nI ((wm + 1) + 1)) a_path a_place v_depth a_freeRow ioq mvq a_bothKeys a_bothVals v_leafDepth v_found v_lastKey v_hasLast, MA9 a_written cI 64 wtB] H := hP
                                      replace hD : va_D A [MA9 a_kind cI 140 k, MA9 a_many cI 140 f_45, MA9 a_keys cI 3360 (upd kku ((nI (24 * x0 + r0)).toNatClampNeg) (bkw ((nl + nr + 1) / 2))), MA9 a_vals cI 3360 vvu, MA9 a_isFresh cZ 140 fr, MA9 a_bothKeys cI 48 bkw, MA9 a_bothVals cI 48 bvw, MO9 h0 (nI w) (nI b) (nI lm) (nI cm) (nI li) (nI ci) a_disk v_isDown v_isArmed v_armedWrites v_armedWords v_writes a_kind a_many a_block a_keys a_vals a_isFresh a_kindWas a_manyWas a_blockWas a_keysWas a_valsWas a_freshWas v_root v_rootWas v_latest v_epoch a_reached a_oldKeys a_oldVals a_allKeys a_allVals v_oldMany v_allMany a_row a_written (nI ((wm + 1) + 1)) a_path a_place v_depth a_freeRow ioq mvq a_bothKeys a_bothVals v_leafDepth v_found v_lastKey v_hasLast, MA9 a_written cI 64 wtB] := hD
                                      rw [show (nI (24 * x0 + r0)).toNatClampNeg = 24 * x0 + r0 from nI_clamp (by omega)] at hP hD
                                      obtain ⟨f_52, ef_52⟩ : ∃ g9, g9 = upd kku (24 * x0 + r0) (bkw ((nl + nr + 1) / 2)) := ⟨_, rfl⟩
                                      rw [← ef_52] at hP hD
                                      have hP9 := hP.sub (ws' := [MO9 h0 (nI w) (nI b) (nI lm) (nI cm) (nI li) (nI ci) a_disk v_isDown v_isArmed v_armedWrites v_armedWords v_writes a_kind a_many a_block a_keys a_vals a_isFresh a_kindWas a_manyWas a_blockWas a_keysWas a_valsWas a_freshWas v_root v_rootWas v_latest v_epoch a_reached a_oldKeys a_oldVals a_allKeys a_allVals v_oldMany v_allMany a_row a_written (nI ((wm + 1) + 1)) a_path a_place v_depth a_freeRow ioq mvq a_bothKeys a_bothVals v_leafDepth v_found v_lastKey v_hasLast, MA9 a_kind cI 140 k, MA9 a_many cI 140 f_45, MA9 a_keys cI 3360 f_52, MA9 a_vals cI 3360 vvu, MA9 a_isFresh cZ 140 fr, MA9 a_written cI 64 wtB, MA9 a_bothKeys cI 48 bkw, MA9 a_bothVals cI 48 bvw]) [7, 0, 1, 2, 3, 4, 8, 5, 6] rfl
                                      have hD9 := hD.sub (ws' := [MO9 h0 (nI w) (nI b) (nI lm) (nI cm) (nI li) (nI ci) a_disk v_isDown v_isArmed v_armedWrites v_armedWords v_writes a_kind a_many a_block a_keys a_vals a_isFresh a_kindWas a_manyWas a_blockWas a_keysWas a_valsWas a_freshWas v_root v_rootWas v_latest v_epoch a_reached a_oldKeys a_oldVals a_allKeys a_allVals v_oldMany v_allMany a_row a_written (nI ((wm + 1) + 1)) a_path a_place v_depth a_freeRow ioq mvq a_bothKeys a_bothVals v_leafDepth v_found v_lastKey v_hasLast, MA9 a_kind cI 140 k, MA9 a_many cI 140 f_45, MA9 a_keys cI 3360 f_52, MA9 a_vals cI 3360 vvu, MA9 a_isFresh cZ 140 fr, MA9 a_written cI 64 wtB, MA9 a_bothKeys cI 48 bkw, MA9 a_bothVals cI 48 bvw]) [7, 0, 1, 2, 3, 4, 8, 5, 6] (by decide) rfl
                                      have hK9 := hK.sub (tys' := [(cI, .int), (cZ, .boolean)]) [1, 0] rfl
                                      exact W.vret hx hb hr (fun t ht hW => ⟨⟨(ioq, mvq, k, f_45, f_52, vvu, wtB, bkw, bvw, (wm + 1) + 1), rfl, (mend_split hne hj2 (by omega) hbo2 hv1 (by omega) hv2 (by omega) ef_39 ef_45 hwA hwB), by rw [ht]; exact hP9, va_K.moved hW.alike hK9, hD9⟩, hS.F ht⟩) hS.2.2 dX9_mend_516
                                    refine lv_aload_n hx hb dX9_mend_477 rfl (lv_at hl 0 rfl) ?_
                                    refine lv_aload_n hx hb dX9_mend_478 rfl (lv_at hl 0 rfl) ?_
                                    refine va_get (D := (dC, dI)) (ci := 9) (v := .ref a_bothKeys) (C := RX9) (T := TX9) (N := 50) hx hb hts k_1 hown hK hP 7 rfl rfl 44 (by decide) k_9 (fun _ h9 => h9) rfl dX9_mend_479 ?_
                                    refine lv_iload hx hb dX9_mend_482 (lv_at hl 9 rfl) ?_
                                    refine va_iald hx hb hK hP 5 1 rfl rfl (show vp_in (nI ((nl + nr + 1) / 2)) 48 from vp_in_nI (by omega) (by omega)) dX9_mend_484 ?_
                                    refine lv_topi (fun z_53 ez_53 => ?_)
                                    obtain rfl : z_53 = bkw ((nl + nr + 1) / 2) := ez_53.trans (congrArg bkw (nI_clamp (by omega)))
                                    refine lv_iload hx hb dX9_mend_485 (lv_at hl 6 rfl) ?_
                                    refine lv_icmp_eq (tgt := 494) hx hb dX9_mend_487 (by decide) (fun c_54 => ?_) (fun c_54 => ?_)
                                    · refine lv_iconst (v := 0) hx hb dX9_mend_494 (by decide) ?_
                                      exact jn_48 0 _ _ _ (Or.inl rfl) hP hD hS (lv_sub hl [0, 1, 2, 3, 4, 5, 6, 7, 8, 9, 10] rfl)
                                    · refine lv_iconst (v := 1) hx hb dX9_mend_490 (by decide) ?_
                                      refine lv_goto (tgt := 495) hx hb dX9_mend_491 (by decide) ?_
                                      exact jn_48 1 _ _ _ (Or.inr rfl) hP hD hS (lv_sub hl [0, 1, 2, 3, 4, 5, 6, 7, 8, 9, 10] rfl)
                                  refine lv_aload_n hx hb dX9_mend_451 rfl (lv_at hl 0 rfl) ?_
                                  refine lv_aload_n hx hb dX9_mend_452 rfl (lv_at hl 0 rfl) ?_
                                  refine va_get (D := (dC, dI)) (ci := 9) (v := .int mvd) (C := RX9) (T := TX9) (N := 50) hx hb hts k_1 hown hK hP 7 rfl rfl 43 (by decide) k_5 (fun _ h9 => h9) rfl dX9_mend_453 ?_
                                  refine lv_if_ne (tgt := 469) hx hb dX9_mend_456 (by decide) (fun c_55 => ?_) (fun c_55 => ?_)
                                  · refine lv_iconst (v := 1) hx hb dX9_mend_469 (by decide) ?_
                                    refine lv_goto (tgt := 474) hx hb dX9_mend_470 (by decide) ?_
                                    exact jn_47 1 _ _ _ (Or.inr rfl) hP hD hS (lv_sub hl [0, 1, 2, 3, 4, 5, 6, 7, 8, 9, 10] rfl)
                                  · refine lv_aload_n hx hb dX9_mend_459 rfl (lv_at hl 0 rfl) ?_
                                    refine va_get (D := (dC, dI)) (ci := 9) (v := .ref a_isFresh) (C := RX9) (T := TX9) (N := 50) hx hb hts k_1 hown hK hP 7 rfl rfl 17 (by decide) k_8 (fun _ h9 => h9) rfl dX9_mend_460 ?_
                                    refine lv_iload hx hb dX9_mend_463 (lv_at hl 5 rfl) ?_
                                    refine va_zald hx hb hK hP 4 0 rfl rfl (show vp_in (nI r1) 140 from vp_in_nI (by omega) (by omega)) dX9_mend_465 ?_
                                    refine lv_topi (fun z_56 ez_56 => ?_)
                                    obtain rfl : z_56 = fr r1 := ez_56.trans (congrArg fr (nI_clamp (by omega)))
                                    refine lv_if_ne (tgt := 473) hx hb dX9_mend_466 (by decide) (fun c_57 => ?_) (fun c_57 => ?_)
                                    · refine lv_iconst (v := 0) hx hb dX9_mend_473 (by decide) ?_
                                      exact jn_47 0 _ _ _ (Or.inl rfl) hP hD hS (lv_sub hl [0, 1, 2, 3, 4, 5, 6, 7, 8, 9, 10] rfl)
                                    · refine lv_iconst (v := 1) hx hb dX9_mend_469 (by decide) ?_
                                      refine lv_goto (tgt := 474) hx hb dX9_mend_470 (by decide) ?_
                                      exact jn_47 1 _ _ _ (Or.inr rfl) hP hD hS (lv_sub hl [0, 1, 2, 3, 4, 5, 6, 7, 8, 9, 10] rfl)
                                · have n_c_43 : ¬ (nl + nr) ≤ u7 := fun h9 => c_43 ((nI_leI (a := nl + nr) (b := u7) (by omega) (by omega)).mpr h9)
                                  refine lv_aload_n hx hb dX9_mend_381 rfl (lv_at hl 0 rfl) ?_
                                  refine va_get (D := (dC, dI)) (ci := 9) (v := .ref a_keys) (C := RX9) (T := TX9) (N := 50) hx hb hts k_1 hown hK hP 7 rfl rfl 15 (by decide) k_3 (fun _ h9 => h9) rfl dX9_mend_382 ?_
                                  refine lv_bipush (v := 24) hx hb dX9_mend_385 (by decide) ?_
                                  refine lv_iload hx hb dX9_mend_387 (lv_at hl 5 rfl) ?_
                                  refine lv_imul hx hb dX9_mend_389 ?_
                                  refine lv_topi (fun z_58 ez_58 => ?_)
                                  obtain rfl : z_58 = nI (24 * r1) := ez_58.trans (pk_mul 24 r1)
                                  refine lv_iload hx hb dX9_mend_390 (lv_at hl 10 rfl) ?_
                                  refine lv_iadd hx hb dX9_mend_392 ?_
                                  refine lv_topi (fun z_59 ez_59 => ?_)
                                  obtain rfl : z_59 = nI (24 * r1 + u7) := ez_59.trans (nI_add (24 * r1) u7)
                                  refine lv_iload hx hb dX9_mend_393 (lv_at hl 9 rfl) ?_
                                  refine lv_isub hx hb dX9_mend_395 ?_
                                  refine lv_topi (fun z_60 ez_60 => ?_)
                                  obtain rfl : z_60 = nI (24 * r1 + u7 - ((nl + nr + 1) / 2)) := ez_60.trans (pk_sub (a := 24 * r1 + u7) (b := (nl + nr + 1) / 2) (by omega))
                                  refine lv_aload_n hx hb dX9_mend_396 rfl (lv_at hl 0 rfl) ?_
                                  refine va_get (D := (dC, dI)) (ci := 9) (v := .ref a_bothKeys) (C := RX9) (T := TX9) (N := 50) hx hb hts k_1 hown hK hP 7 rfl rfl 44 (by decide) k_9 (fun _ h9 => h9) rfl dX9_mend_397 ?_
                                  refine lv_iload hx hb dX9_mend_400 (lv_at hl 10 rfl) ?_
                                  refine va_iald hx hb hK hP 5 1 rfl rfl (show vp_in (nI u7) 48 from vp_in_nI (by omega) (by omega)) dX9_mend_402 ?_
                                  refine lv_topi (fun z_61 ez_61 => ?_)
                                  obtain rfl : z_61 = bkw u7 := ez_61.trans (congrArg bkw (nI_clamp (by omega)))
                                  refine va_iast hx hb hK hP hD hS 2 1 rfl rfl (show vp_in (nI (24 * r1 + u7 - ((nl + nr + 1) / 2))) 3360 from vp_in_nI (by omega) (by omega)) dX9_mend_403 (fun H locs hP9 hD9 hS9 => ?_)
                                  replace hP := hP9
                                  replace hD := hD9
                                  replace hS := hS9
                                  clear hP9 hD9 hS9
                                  replace hP : va_P (dC, dI) vwCl [MA9 a_kind cI 140 k, MA9 a_many cI 140 f_39, MA9 a_keys cI 3360 (upd kku ((nI (24 * r1 + u7 - ((nl + nr + 1) / 2))).toNatClampNeg) (bkw u7)), MA9 a_vals cI 3360 vvu, MA9 a_isFresh cZ 140 fr, MA9 a_bothKeys cI 48 bkw, MA9 a_bothVals cI 48 bvw, MO9 h0 (nI w) (nI b) (nI lm) (nI cm) (nI li) (nI ci) a_disk v_isDown v_isArmed v_armedWrites v_armedWords v_writes a_kind a_many a_block a_keys a_vals a_isFresh a_kindWas a_manyWas a_blockWas a_keysWas a_valsWas a_freshWas v_root v_rootWas v_latest v_epoch a_reached a_oldKeys a_oldVals a_allKeys a_allVals v_oldMany v_allMany a_row a_written (nI (wm + 1)) a_path a_place v_depth a_freeRow v_isOther mvd a_bothKeys a_bothVals v_leafDepth v_found v_lastKey v_hasLast, MA9 a_written cI 64 wtA] H := hP
                                  replace hD : va_D A [MA9 a_kind cI 140 k, MA9 a_many cI 140 f_39, MA9 a_keys cI 3360 (upd kku ((nI (24 * r1 + u7 - ((nl + nr + 1) / 2))).toNatClampNeg) (bkw u7)), MA9 a_vals cI 3360 vvu, MA9 a_isFresh cZ 140 fr, MA9 a_bothKeys cI 48 bkw, MA9 a_bothVals cI 48 bvw, MO9 h0 (nI w) (nI b) (nI lm) (nI cm) (nI li) (nI ci) a_disk v_isDown v_isArmed v_armedWrites v_armedWords v_writes a_kind a_many a_block a_keys a_vals a_isFresh a_kindWas a_manyWas a_blockWas a_keysWas a_valsWas a_freshWas v_root v_rootWas v_latest v_epoch a_reached a_oldKeys a_oldVals a_allKeys a_allVals v_oldMany v_allMany a_row a_written (nI (wm + 1)) a_path a_place v_depth a_freeRow v_isOther mvd a_bothKeys a_bothVals v_leafDepth v_found v_lastKey v_hasLast, MA9 a_written cI 64 wtA] := hD
                                  rw [show (nI (24 * r1 + u7 - ((nl + nr + 1) / 2))).toNatClampNeg = 24 * r1 + u7 - ((nl + nr + 1) / 2) from nI_clamp (by omega)] at hP hD
                                  obtain ⟨f_62, ef_62⟩ : ∃ g9, g9 = upd kku (24 * r1 + u7 - ((nl + nr + 1) / 2)) (bkw u7) := ⟨_, rfl⟩
                                  rw [← ef_62] at hP hD
                                  refine lv_aload_n hx hb dX9_mend_404 rfl (lv_at hl 0 rfl) ?_
                                  refine va_get (D := (dC, dI)) (ci := 9) (v := .ref a_vals) (C := RX9) (T := TX9) (N := 50) hx hb hts k_1 hown hK hP 7 rfl rfl 16 (by decide) k_2 (fun _ h9 => h9) rfl dX9_mend_405 ?_
                                  refine lv_bipush (v := 24) hx hb dX9_mend_408 (by decide) ?_
                                  refine lv_iload hx hb dX9_mend_410 (lv_at hl 5 rfl) ?_
                                  refine lv_imul hx hb dX9_mend_412 ?_
                                  refine lv_topi (fun z_63 ez_63 => ?_)
                                  obtain rfl : z_63 = nI (24 * r1) := ez_63.trans (pk_mul 24 r1)
                                  refine lv_iload hx hb dX9_mend_413 (lv_at hl 10 rfl) ?_
                                  refine lv_iadd hx hb dX9_mend_415 ?_
                                  refine lv_topi (fun z_64 ez_64 => ?_)
                                  obtain rfl : z_64 = nI (24 * r1 + u7) := ez_64.trans (nI_add (24 * r1) u7)
                                  refine lv_iload hx hb dX9_mend_416 (lv_at hl 9 rfl) ?_
                                  refine lv_isub hx hb dX9_mend_418 ?_
                                  refine lv_topi (fun z_65 ez_65 => ?_)
                                  obtain rfl : z_65 = nI (24 * r1 + u7 - ((nl + nr + 1) / 2)) := ez_65.trans (pk_sub (a := 24 * r1 + u7) (b := (nl + nr + 1) / 2) (by omega))
                                  refine lv_aload_n hx hb dX9_mend_419 rfl (lv_at hl 0 rfl) ?_
                                  refine va_get (D := (dC, dI)) (ci := 9) (v := .ref a_bothVals) (C := RX9) (T := TX9) (N := 50) hx hb hts k_1 hown hK hP 7 rfl rfl 45 (by decide) k_10 (fun _ h9 => h9) rfl dX9_mend_420 ?_
                                  refine lv_iload hx hb dX9_mend_423 (lv_at hl 10 rfl) ?_
                                  refine va_iald hx hb hK hP 6 1 rfl rfl (show vp_in (nI u7) 48 from vp_in_nI (by omega) (by omega)) dX9_mend_425 ?_
                                  refine lv_topi (fun z_66 ez_66 => ?_)
                                  obtain rfl : z_66 = bvw u7 := ez_66.trans (congrArg bvw (nI_clamp (by omega)))
                                  refine va_iast hx hb hK hP hD hS 3 1 rfl rfl (show vp_in (nI (24 * r1 + u7 - ((nl + nr + 1) / 2))) 3360 from vp_in_nI (by omega) (by omega)) dX9_mend_426 (fun H locs hP9 hD9 hS9 => ?_)
                                  replace hP := hP9
                                  replace hD := hD9
                                  replace hS := hS9
                                  clear hP9 hD9 hS9
                                  replace hP : va_P (dC, dI) vwCl [MA9 a_kind cI 140 k, MA9 a_many cI 140 f_39, MA9 a_keys cI 3360 f_62, MA9 a_vals cI 3360 (upd vvu ((nI (24 * r1 + u7 - ((nl + nr + 1) / 2))).toNatClampNeg) (bvw u7)), MA9 a_isFresh cZ 140 fr, MA9 a_bothKeys cI 48 bkw, MA9 a_bothVals cI 48 bvw, MO9 h0 (nI w) (nI b) (nI lm) (nI cm) (nI li) (nI ci) a_disk v_isDown v_isArmed v_armedWrites v_armedWords v_writes a_kind a_many a_block a_keys a_vals a_isFresh a_kindWas a_manyWas a_blockWas a_keysWas a_valsWas a_freshWas v_root v_rootWas v_latest v_epoch a_reached a_oldKeys a_oldVals a_allKeys a_allVals v_oldMany v_allMany a_row a_written (nI (wm + 1)) a_path a_place v_depth a_freeRow v_isOther mvd a_bothKeys a_bothVals v_leafDepth v_found v_lastKey v_hasLast, MA9 a_written cI 64 wtA] H := hP
                                  replace hD : va_D A [MA9 a_kind cI 140 k, MA9 a_many cI 140 f_39, MA9 a_keys cI 3360 f_62, MA9 a_vals cI 3360 (upd vvu ((nI (24 * r1 + u7 - ((nl + nr + 1) / 2))).toNatClampNeg) (bvw u7)), MA9 a_isFresh cZ 140 fr, MA9 a_bothKeys cI 48 bkw, MA9 a_bothVals cI 48 bvw, MO9 h0 (nI w) (nI b) (nI lm) (nI cm) (nI li) (nI ci) a_disk v_isDown v_isArmed v_armedWrites v_armedWords v_writes a_kind a_many a_block a_keys a_vals a_isFresh a_kindWas a_manyWas a_blockWas a_keysWas a_valsWas a_freshWas v_root v_rootWas v_latest v_epoch a_reached a_oldKeys a_oldVals a_allKeys a_allVals v_oldMany v_allMany a_row a_written (nI (wm + 1)) a_path a_place v_depth a_freeRow v_isOther mvd a_bothKeys a_bothVals v_leafDepth v_found v_lastKey v_hasLast, MA9 a_written cI 64 wtA] := hD
                                  rw [show (nI (24 * r1 + u7 - ((nl + nr + 1) / 2))).toNatClampNeg = 24 * r1 + u7 - ((nl + nr + 1) / 2) from nI_clamp (by omega)] at hP hD
                                  obtain ⟨f_67, ef_67⟩ : ∃ g9, g9 = upd vvu (24 * r1 + u7 - ((nl + nr + 1) / 2)) (bvw u7) := ⟨_, rfl⟩
                                  rw [← ef_67] at hP hD
                                  refine lv_iinc (v := (nI (u7 + 1))) (lv' := [(10, .int (nI (u7 + 1))), (0, .ref h0), (1, .int (nI x0)), (2, .int (nI a0)), (3, .int (nI r0)), (4, .int (nI l0)), (5, .int (nI r1)), (6, .int (ks (24 * x0 + r0))), (7, .int (nI (nl + nr))), (8, .int 0), (9, .int (nI ((nl + nr + 1) / 2)))]) hx hb dX9_mend_427 hl (k := 10) rfl (nI_1 u7) (by decide) rfl (fun ls hl9 => ?_)
                                  replace hl := hl9
                                  clear hl9
                                  refine lv_goto (tgt := 374) hx hb dX9_mend_430 (by decide) ?_
                                  exact ih_374 (u7 + 1) f_62 f_67 _ _ _ (by omega) (by omega) (by omega) (riF_step hv2 (by omega) (by omega) ef_67) hP hD hS (lv_sub hl [1, 2, 3, 4, 5, 6, 7, 8, 9, 10, 0] rfl)
                            exact loop_374 ((nl + nr) + 1) ((nl + nr + 1) / 2) kkt vvt _ _ _ (by omega) (by omega) (by omega) (riF_start _ _ _ _) hP hD hS (lv_sub hl [1, 2, 3, 4, 5, 6, 7, 8, 9, 10, 0] rfl)
                          refine lv_aload_n hx hb dX9_mend_326 rfl (lv_at hl 0 rfl) ?_
                          refine lv_aload_n hx hb dX9_mend_327 rfl (lv_at hl 0 rfl) ?_
                          refine va_get (D := (dC, dI)) (ci := 9) (v := .ref a_isFresh) (C := RX9) (T := TX9) (N := 50) hx hb hts k_1 hown hK hP 7 rfl rfl 17 (by decide) k_8 (fun _ h9 => h9) rfl dX9_mend_328 ?_
                          refine lv_iload hx hb dX9_mend_331 (lv_at hl 4 rfl) ?_
                          refine va_zald hx hb hK hP 4 0 rfl rfl (show vp_in (nI l0) 140 from vp_in_nI (by omega) (by omega)) dX9_mend_333 ?_
                          refine lv_topi (fun z_68 ez_68 => ?_)
                          obtain rfl : z_68 = fr l0 := ez_68.trans (congrArg fr (nI_clamp (by omega)))
                          refine lv_if_ne (tgt := 341) hx hb dX9_mend_334 (by decide) (fun c_69 => ?_) (fun c_69 => ?_)
                          · refine lv_iconst (v := 0) hx hb dX9_mend_341 (by decide) ?_
                            exact jn_41 0 _ _ _ (Or.inl rfl) hP hD hS (lv_sub hl [0, 1, 2, 3, 4, 5, 6, 7, 8, 9, 10] rfl)
                          · refine lv_iconst (v := 1) hx hb dX9_mend_337 (by decide) ?_
                            refine lv_goto (tgt := 342) hx hb dX9_mend_338 (by decide) ?_
                            exact jn_41 1 _ _ _ (Or.inr rfl) hP hD hS (lv_sub hl [0, 1, 2, 3, 4, 5, 6, 7, 8, 9, 10] rfl)
                        · have n_c_38 : ¬ ((nl + nr + 1) / 2) ≤ t7 := fun h9 => c_38 ((nI_leI (a := (nl + nr + 1) / 2) (b := t7) (by omega) (by omega)).mpr h9)
                          refine lv_aload_n hx hb dX9_mend_265 rfl (lv_at hl 0 rfl) ?_
                          refine va_get (D := (dC, dI)) (ci := 9) (v := .ref a_keys) (C := RX9) (T := TX9) (N := 50) hx hb hts k_1 hown hK hP 0 rfl rfl 15 (by decide) k_3 (fun _ h9 => h9) rfl dX9_mend_266 ?_
                          refine lv_bipush (v := 24) hx hb dX9_mend_269 (by decide) ?_
                          refine lv_iload hx hb dX9_mend_271 (lv_at hl 4 rfl) ?_
                          refine lv_imul hx hb dX9_mend_273 ?_
                          refine lv_topi (fun z_70 ez_70 => ?_)
                          obtain rfl : z_70 = nI (24 * l0) := ez_70.trans (pk_mul 24 l0)
                          refine lv_iload hx hb dX9_mend_274 (lv_at hl 10 rfl) ?_
                          refine lv_iadd hx hb dX9_mend_276 ?_
                          refine lv_topi (fun z_71 ez_71 => ?_)
                          obtain rfl : z_71 = nI (24 * l0 + t7) := ez_71.trans (nI_add (24 * l0) t7)
                          refine lv_aload_n hx hb dX9_mend_277 rfl (lv_at hl 0 rfl) ?_
                          refine va_get (D := (dC, dI)) (ci := 9) (v := .ref a_bothKeys) (C := RX9) (T := TX9) (N := 50) hx hb hts k_1 hown hK hP 0 rfl rfl 44 (by decide) k_9 (fun _ h9 => h9) rfl dX9_mend_278 ?_
                          refine lv_iload hx hb dX9_mend_281 (lv_at hl 10 rfl) ?_
                          refine va_iald hx hb hK hP 7 0 rfl rfl (show vp_in (nI t7) 48 from vp_in_nI (by omega) (by omega)) dX9_mend_283 ?_
                          refine lv_topi (fun z_72 ez_72 => ?_)
                          obtain rfl : z_72 = bkw t7 := ez_72.trans (congrArg bkw (nI_clamp (by omega)))
                          refine va_iast hx hb hK hP hD hS 3 0 rfl rfl (show vp_in (nI (24 * l0 + t7)) 3360 from vp_in_nI (by omega) (by omega)) dX9_mend_284 (fun H locs hP9 hD9 hS9 => ?_)
                          replace hP := hP9
                          replace hD := hD9
                          replace hS := hS9
                          clear hP9 hD9 hS9
                          replace hP : va_P (dC, dI) vwCl [MO9 h0 (nI w) (nI b) (nI lm) (nI cm) (nI li) (nI ci) a_disk v_isDown v_isArmed v_armedWrites v_armedWords v_writes a_kind a_many a_block a_keys a_vals a_isFresh a_kindWas a_manyWas a_blockWas a_keysWas a_valsWas a_freshWas v_root v_rootWas v_latest v_epoch a_reached a_oldKeys a_oldVals a_allKeys a_allVals v_oldMany v_allMany a_row a_written (nI wm) a_path a_place v_depth a_freeRow v_isOther v_moved a_bothKeys a_bothVals v_leafDepth v_found v_lastKey v_hasLast, MA9 a_kind cI 140 k, MA9 a_many cI 140 mm, MA9 a_keys cI 3360 (upd kkt ((nI (24 * l0 + t7)).toNatClampNeg) (bkw t7)), MA9 a_vals cI 3360 vvt, MA9 a_isFresh cZ 140 fr, MA9 a_written cI 64 wt, MA9 a_bothKeys cI 48 bkw, MA9 a_bothVals cI 48 bvw] H := hP
                          replace hD : va_D A [MO9 h0 (nI w) (nI b) (nI lm) (nI cm) (nI li) (nI ci) a_disk v_isDown v_isArmed v_armedWrites v_armedWords v_writes a_kind a_many a_block a_keys a_vals a_isFresh a_kindWas a_manyWas a_blockWas a_keysWas a_valsWas a_freshWas v_root v_rootWas v_latest v_epoch a_reached a_oldKeys a_oldVals a_allKeys a_allVals v_oldMany v_allMany a_row a_written (nI wm) a_path a_place v_depth a_freeRow v_isOther v_moved a_bothKeys a_bothVals v_leafDepth v_found v_lastKey v_hasLast, MA9 a_kind cI 140 k, MA9 a_many cI 140 mm, MA9 a_keys cI 3360 (upd kkt ((nI (24 * l0 + t7)).toNatClampNeg) (bkw t7)), MA9 a_vals cI 3360 vvt, MA9 a_isFresh cZ 140 fr, MA9 a_written cI 64 wt, MA9 a_bothKeys cI 48 bkw, MA9 a_bothVals cI 48 bvw] := hD
                          rw [show (nI (24 * l0 + t7)).toNatClampNeg = 24 * l0 + t7 from nI_clamp (by omega)] at hP hD
                          obtain ⟨f_73, ef_73⟩ : ∃ g9, g9 = upd kkt (24 * l0 + t7) (bkw t7) := ⟨_, rfl⟩
                          rw [← ef_73] at hP hD
                          refine lv_aload_n hx hb dX9_mend_285 rfl (lv_at hl 0 rfl) ?_
                          refine va_get (D := (dC, dI)) (ci := 9) (v := .ref a_vals) (C := RX9) (T := TX9) (N := 50) hx hb hts k_1 hown hK hP 0 rfl rfl 16 (by decide) k_2 (fun _ h9 => h9) rfl dX9_mend_286 ?_
                          refine lv_bipush (v := 24) hx hb dX9_mend_289 (by decide) ?_
                          refine lv_iload hx hb dX9_mend_291 (lv_at hl 4 rfl) ?_
                          refine lv_imul hx hb dX9_mend_293 ?_
                          refine lv_topi (fun z_74 ez_74 => ?_)
                          obtain rfl : z_74 = nI (24 * l0) := ez_74.trans (pk_mul 24 l0)
                          refine lv_iload hx hb dX9_mend_294 (lv_at hl 10 rfl) ?_
                          refine lv_iadd hx hb dX9_mend_296 ?_
                          refine lv_topi (fun z_75 ez_75 => ?_)
                          obtain rfl : z_75 = nI (24 * l0 + t7) := ez_75.trans (nI_add (24 * l0) t7)
                          refine lv_aload_n hx hb dX9_mend_297 rfl (lv_at hl 0 rfl) ?_
                          refine va_get (D := (dC, dI)) (ci := 9) (v := .ref a_bothVals) (C := RX9) (T := TX9) (N := 50) hx hb hts k_1 hown hK hP 0 rfl rfl 45 (by decide) k_10 (fun _ h9 => h9) rfl dX9_mend_298 ?_
                          refine lv_iload hx hb dX9_mend_301 (lv_at hl 10 rfl) ?_
                          refine va_iald hx hb hK hP 8 0 rfl rfl (show vp_in (nI t7) 48 from vp_in_nI (by omega) (by omega)) dX9_mend_303 ?_
                          refine lv_topi (fun z_76 ez_76 => ?_)
                          obtain rfl : z_76 = bvw t7 := ez_76.trans (congrArg bvw (nI_clamp (by omega)))
                          refine va_iast hx hb hK hP hD hS 4 0 rfl rfl (show vp_in (nI (24 * l0 + t7)) 3360 from vp_in_nI (by omega) (by omega)) dX9_mend_304 (fun H locs hP9 hD9 hS9 => ?_)
                          replace hP := hP9
                          replace hD := hD9
                          replace hS := hS9
                          clear hP9 hD9 hS9
                          replace hP : va_P (dC, dI) vwCl [MO9 h0 (nI w) (nI b) (nI lm) (nI cm) (nI li) (nI ci) a_disk v_isDown v_isArmed v_armedWrites v_armedWords v_writes a_kind a_many a_block a_keys a_vals a_isFresh a_kindWas a_manyWas a_blockWas a_keysWas a_valsWas a_freshWas v_root v_rootWas v_latest v_epoch a_reached a_oldKeys a_oldVals a_allKeys a_allVals v_oldMany v_allMany a_row a_written (nI wm) a_path a_place v_depth a_freeRow v_isOther v_moved a_bothKeys a_bothVals v_leafDepth v_found v_lastKey v_hasLast, MA9 a_kind cI 140 k, MA9 a_many cI 140 mm, MA9 a_keys cI 3360 f_73, MA9 a_vals cI 3360 (upd vvt ((nI (24 * l0 + t7)).toNatClampNeg) (bvw t7)), MA9 a_isFresh cZ 140 fr, MA9 a_written cI 64 wt, MA9 a_bothKeys cI 48 bkw, MA9 a_bothVals cI 48 bvw] H := hP
                          replace hD : va_D A [MO9 h0 (nI w) (nI b) (nI lm) (nI cm) (nI li) (nI ci) a_disk v_isDown v_isArmed v_armedWrites v_armedWords v_writes a_kind a_many a_block a_keys a_vals a_isFresh a_kindWas a_manyWas a_blockWas a_keysWas a_valsWas a_freshWas v_root v_rootWas v_latest v_epoch a_reached a_oldKeys a_oldVals a_allKeys a_allVals v_oldMany v_allMany a_row a_written (nI wm) a_path a_place v_depth a_freeRow v_isOther v_moved a_bothKeys a_bothVals v_leafDepth v_found v_lastKey v_hasLast, MA9 a_kind cI 140 k, MA9 a_many cI 140 mm, MA9 a_keys cI 3360 f_73, MA9 a_vals cI 3360 (upd vvt ((nI (24 * l0 + t7)).toNatClampNeg) (bvw t7)), MA9 a_isFresh cZ 140 fr, MA9 a_written cI 64 wt, MA9 a_bothKeys cI 48 bkw, MA9 a_bothVals cI 48 bvw] := hD
                          rw [show (nI (24 * l0 + t7)).toNatClampNeg = 24 * l0 + t7 from nI_clamp (by omega)] at hP hD
                          obtain ⟨f_77, ef_77⟩ : ∃ g9, g9 = upd vvt (24 * l0 + t7) (bvw t7) := ⟨_, rfl⟩
                          rw [← ef_77] at hP hD
                          refine lv_iinc (v := (nI (t7 + 1))) (lv' := [(10, .int (nI (t7 + 1))), (0, .ref h0), (1, .int (nI x0)), (2, .int (nI a0)), (3, .int (nI r0)), (4, .int (nI l0)), (5, .int (nI r1)), (6, .int (ks (24 * x0 + r0))), (7, .int (nI (nl + nr))), (8, .int 0), (9, .int (nI ((nl + nr + 1) / 2)))]) hx hb dX9_mend_305 hl (k := 10) rfl (nI_1 t7) (by decide) rfl (fun ls hl9 => ?_)
                          replace hl := hl9
                          clear hl9
                          refine lv_goto (tgt := 258) hx hb dX9_mend_308 (by decide) ?_
                          exact ih_258 (t7 + 1) f_73 f_77 _ _ _ (by omega) (by omega) (leF_step hv1 (by omega) ef_77) hP hD hS (lv_sub hl [1, 2, 3, 4, 5, 6, 7, 8, 9, 10, 0] rfl)
                    exact loop_258 (20 + 1) 0 ks vl _ _ _ (by omega) (by omega) (leF_start _ _ _) hP hD hS (lv_sub hl [3, 4, 5, 6, 7, 8, 9, 10, 2, 1, 0] rfl)
                refine lv_iload hx hb dX9_mend_203 (lv_at hl 7 rfl) ?_
                refine lv_aload_n hx hb dX9_mend_205 rfl (lv_at hl 0 rfl) ?_
                refine va_get (D := (dC, dI)) (ci := 9) (v := .ref a_kind) (C := RX9) (T := TX9) (N := 50) hx hb hts k_1 hown hK hP 0 rfl rfl 12 (by decide) k_6 (fun _ h9 => h9) rfl dX9_mend_206 ?_
                refine lv_iload hx hb dX9_mend_209 (lv_at hl 4 rfl) ?_
                refine va_iald hx hb hK hP 1 0 rfl rfl (show vp_in (nI l0) 140 from vp_in_nI (by omega) (by omega)) dX9_mend_211 ?_
                refine lv_topi (fun z_78 ez_78 => ?_)
                obtain rfl : z_78 = k l0 := ez_78.trans (congrArg k (nI_clamp (by omega)))
                refine lv_iconst (v := 1) hx hb dX9_mend_212 (by decide) ?_
                refine lv_icmp_ne (tgt := 223) hx hb dX9_mend_213 (by decide) (fun c_79 => ?_) (fun c_79 => ?_)
                · refine lv_aload_n hx hb dX9_mend_223 rfl (lv_at hl 0 rfl) ?_
                  refine va_get (D := (dC, dI)) (ci := 9) (v := .int (nI cm)) (C := RX9) (T := TX9) (N := 50) hx hb hts k_1 hown hK hP 0 rfl rfl 3 (by decide) k_11 (fun _ h9 => h9) rfl dX9_mend_224 ?_
                  refine lv_icmp_gt (tgt := 234) hx hb dX9_mend_227 (by decide) (fun c_80 => ?_) (fun c_80 => ?_)
                  · have n_c_80 : cm < (nl + nr) := (nI_ltI (a := cm) (b := nl + nr) (by omega) (by omega)).mp c_80
                    refine lv_iconst (v := 0) hx hb dX9_mend_234 (by decide) ?_
                    exact jn_16 0 _ _ _ (Or.inr ⟨rfl, fun h9 => by first | omega | exact absurd (h9.symm.trans c_79) (by decide)⟩) hP hD hS (lv_sub hl [0, 1, 2, 3, 4, 5, 6, 7, 8] rfl)
                  · have n_c_80 : ¬ cm < (nl + nr) := fun h9 => c_80 ((nI_ltI (a := cm) (b := nl + nr) (by omega) (by omega)).mpr h9)
                    refine lv_iconst (v := 1) hx hb dX9_mend_230 (by decide) ?_
                    refine lv_goto (tgt := 235) hx hb dX9_mend_231 (by decide) ?_
                    exact jn_16 1 _ _ _ (Or.inl ⟨rfl, by omega⟩) hP hD hS (lv_sub hl [0, 1, 2, 3, 4, 5, 6, 7, 8] rfl)
                · refine lv_aload_n hx hb dX9_mend_216 rfl (lv_at hl 0 rfl) ?_
                  refine va_get (D := (dC, dI)) (ci := 9) (v := .int (nI lm)) (C := RX9) (T := TX9) (N := 50) hx hb hts k_1 hown hK hP 0 rfl rfl 2 (by decide) k_12 (fun _ h9 => h9) rfl dX9_mend_217 ?_
                  refine lv_goto (tgt := 227) hx hb dX9_mend_220 (by decide) ?_
                  refine lv_icmp_gt (tgt := 234) hx hb dX9_mend_227 (by decide) (fun c_81 => ?_) (fun c_81 => ?_)
                  · have n_c_81 : lm < (nl + nr) := (nI_ltI (a := lm) (b := nl + nr) (by omega) (by omega)).mp c_81
                    refine lv_iconst (v := 0) hx hb dX9_mend_234 (by decide) ?_
                    exact jn_16 0 _ _ _ (Or.inr ⟨rfl, fun h9 => by first | omega | exact absurd (h9.symm.trans c_79) (by decide)⟩) hP hD hS (lv_sub hl [0, 1, 2, 3, 4, 5, 6, 7, 8] rfl)
                  · have n_c_81 : ¬ lm < (nl + nr) := fun h9 => c_81 ((nI_ltI (a := lm) (b := nl + nr) (by omega) (by omega)).mpr h9)
                    refine lv_iconst (v := 1) hx hb dX9_mend_230 (by decide) ?_
                    refine lv_goto (tgt := 235) hx hb dX9_mend_231 (by decide) ?_
                    exact jn_16 1 _ _ _ (Or.inl ⟨rfl, by omega⟩) hP hD hS (lv_sub hl [0, 1, 2, 3, 4, 5, 6, 7, 8] rfl)
              · have n_c_15 : ¬ nr ≤ jj := fun h9 => c_15 ((nI_leI (a := nr) (b := jj) (by omega) (by omega)).mpr h9)
                refine lv_aload_n hx hb dX9_mend_133 rfl (lv_at hl 0 rfl) ?_
                refine va_get (D := (dC, dI)) (ci := 9) (v := .ref a_bothKeys) (C := RX9) (T := TX9) (N := 50) hx hb hts k_1 hown hK hP 0 rfl rfl 44 (by decide) k_9 (fun _ h9 => h9) rfl dX9_mend_134 ?_
                refine lv_iload hx hb dX9_mend_137 (lv_at hl 7 rfl) ?_
                refine jn_cut (P := fun Q => ∀ (bx : Int32) (H : Heap) (locs : List Loc) (ls : Array Slot), va_P (dC, dI) vwCl [MO9 h0 (nI w) (nI b) (nI lm) (nI cm) (nI li) (nI ci) a_disk v_isDown v_isArmed v_armedWrites v_armedWords v_writes a_kind a_many a_block a_keys a_vals a_isFresh a_kindWas a_manyWas a_blockWas a_keysWas a_valsWas a_freshWas v_root v_rootWas v_latest v_epoch a_reached a_oldKeys a_oldVals a_allKeys a_allVals v_oldMany v_allMany a_row a_written (nI wm) a_path a_place v_depth a_freeRow v_isOther v_moved a_bothKeys a_bothVals v_leafDepth v_found v_lastKey v_hasLast, MA9 a_kind cI 140 k, MA9 a_many cI 140 mm, MA9 a_keys cI 3360 ks, MA9 a_vals cI 3360 vl, MA9 a_isFresh cZ 140 fr, MA9 a_written cI 64 wt, MA9 a_bothKeys cI 48 bkw, MA9 a_bothVals cI 48 bvw] H → va_D A [MO9 h0 (nI w) (nI b) (nI lm) (nI cm) (nI li) (nI ci) a_disk v_isDown v_isArmed v_armedWrites v_armedWords v_writes a_kind a_many a_block a_keys a_vals a_isFresh a_kindWas a_manyWas a_blockWas a_keysWas a_valsWas a_freshWas v_root v_rootWas v_latest v_epoch a_reached a_oldKeys a_oldVals a_allKeys a_allVals v_oldMany v_allMany a_row a_written (nI wm) a_path a_place v_depth a_freeRow v_isOther v_moved a_bothKeys a_bothVals v_leafDepth v_found v_lastKey v_hasLast, MA9 a_kind cI 140 k, MA9 a_many cI 140 mm, MA9 a_keys cI 3360 ks, MA9 a_vals cI 3360 vl, MA9 a_isFresh cZ 140 fr, MA9 a_written cI 64 wt, MA9 a_bothKeys cI 48 bkw, MA9 a_bothVals cI 48 bvw] → va_S A s.heap H locs → lv_has ls 11 [(0, .ref h0), (1, .int (nI x0)), (2, .int (nI a0)), (3, .int (nI r0)), (4, .int (nI l0)), (5, .int (nI r1)), (6, .int (ks (24 * x0 + r0))), (7, .int (nI n7)), (8, .int (nI jj))] → W p l e (headSpec v_X9_mend ({ frames := 1, cells := 0, slots := 0, locals := 23 } : Room)).room s m ([.ref h0, .int (nI x0), .int (nI a0)] : List Value).toArray below meth c H locs 0 0 Q (F0 m 173 ls [.int bx, .int (nI n7), .ref a_bothKeys])) ?_ (fun jn_82 => ?_)
                · intro bx H locs ls hP hD hS hl
                  refine va_iast hx hb hK hP hD hS 7 0 rfl rfl (show vp_in (nI n7) 48 from vp_in_nI (by omega) (by omega)) dX9_mend_173 (fun H locs hP9 hD9 hS9 => ?_)
                  replace hP := hP9
                  replace hD := hD9
                  replace hS := hS9
                  clear hP9 hD9 hS9
                  replace hP : va_P (dC, dI) vwCl [MO9 h0 (nI w) (nI b) (nI lm) (nI cm) (nI li) (nI ci) a_disk v_isDown v_isArmed v_armedWrites v_armedWords v_writes a_kind a_many a_block a_keys a_vals a_isFresh a_kindWas a_manyWas a_blockWas a_keysWas a_valsWas a_freshWas v_root v_rootWas v_latest v_epoch a_reached a_oldKeys a_oldVals a_allKeys a_allVals v_oldMany v_allMany a_row a_written (nI wm) a_path a_place v_depth a_freeRow v_isOther v_moved a_bothKeys a_bothVals v_leafDepth v_found v_lastKey v_hasLast, MA9 a_kind cI 140 k, MA9 a_many cI 140 mm, MA9 a_keys cI 3360 ks, MA9 a_vals cI 3360 vl, MA9 a_isFresh cZ 140 fr, MA9 a_written cI 64 wt, MA9 a_bothKeys cI 48 (upd bkw ((nI n7).toNatClampNeg) bx), MA9 a_bothVals cI 48 bvw] H := hP
                  replace hD : va_D A [MO9 h0 (nI w) (nI b) (nI lm) (nI cm) (nI li) (nI ci) a_disk v_isDown v_isArmed v_armedWrites v_armedWords v_writes a_kind a_many a_block a_keys a_vals a_isFresh a_kindWas a_manyWas a_blockWas a_keysWas a_valsWas a_freshWas v_root v_rootWas v_latest v_epoch a_reached a_oldKeys a_oldVals a_allKeys a_allVals v_oldMany v_allMany a_row a_written (nI wm) a_path a_place v_depth a_freeRow v_isOther v_moved a_bothKeys a_bothVals v_leafDepth v_found v_lastKey v_hasLast, MA9 a_kind cI 140 k, MA9 a_many cI 140 mm, MA9 a_keys cI 3360 ks, MA9 a_vals cI 3360 vl, MA9 a_isFresh cZ 140 fr, MA9 a_written cI 64 wt, MA9 a_bothKeys cI 48 (upd bkw ((nI n7).toNatClampNeg) bx), MA9 a_bothVals cI 48 bvw] := hD
                  rw [show (nI n7).toNatClampNeg = n7 from nI_clamp (by omega)] at hP hD
                  obtain ⟨f_83, ef_83⟩ : ∃ g9, g9 = upd bkw n7 bx := ⟨_, rfl⟩
                  rw [← ef_83] at hP hD
                  refine lv_aload_n hx hb dX9_mend_174 rfl (lv_at hl 0 rfl) ?_
                  refine va_get (D := (dC, dI)) (ci := 9) (v := .ref a_bothVals) (C := RX9) (T := TX9) (N := 50) hx hb hts k_1 hown hK hP 0 rfl rfl 45 (by decide) k_10 (fun _ h9 => h9) rfl dX9_mend_175 ?_
                  refine lv_iload hx hb dX9_mend_178 (lv_at hl 7 rfl) ?_
                  refine lv_aload_n hx hb dX9_mend_180 rfl (lv_at hl 0 rfl) ?_
                  refine va_get (D := (dC, dI)) (ci := 9) (v := .ref a_vals) (C := RX9) (T := TX9) (N := 50) hx hb hts k_1 hown hK hP 0 rfl rfl 16 (by decide) k_2 (fun _ h9 => h9) rfl dX9_mend_181 ?_
                  refine lv_bipush (v := 24) hx hb dX9_mend_184 (by decide) ?_
                  refine lv_iload hx hb dX9_mend_186 (lv_at hl 5 rfl) ?_
                  refine lv_imul hx hb dX9_mend_188 ?_
                  refine lv_topi (fun z_84 ez_84 => ?_)
                  obtain rfl : z_84 = nI (24 * r1) := ez_84.trans (pk_mul 24 r1)
                  refine lv_iload hx hb dX9_mend_189 (lv_at hl 8 rfl) ?_
                  refine lv_iadd hx hb dX9_mend_191 ?_
                  refine lv_topi (fun z_85 ez_85 => ?_)
                  obtain rfl : z_85 = nI (24 * r1 + jj) := ez_85.trans (nI_add (24 * r1) jj)
                  refine va_iald hx hb hK hP 4 0 rfl rfl (show vp_in (nI (24 * r1 + jj)) 3360 from vp_in_nI (by omega) (by omega)) dX9_mend_192 ?_
                  refine lv_topi (fun z_86 ez_86 => ?_)
                  obtain rfl : z_86 = vl (24 * r1 + jj) := ez_86.trans (congrArg vl (nI_clamp (by omega)))
                  refine va_iast hx hb hK hP hD hS 8 0 rfl rfl (show vp_in (nI n7) 48 from vp_in_nI (by omega) (by omega)) dX9_mend_193 (fun H locs hP9 hD9 hS9 => ?_)
                  replace hP := hP9
                  replace hD := hD9
                  replace hS := hS9
                  clear hP9 hD9 hS9
                  replace hP : va_P (dC, dI) vwCl [MO9 h0 (nI w) (nI b) (nI lm) (nI cm) (nI li) (nI ci) a_disk v_isDown v_isArmed v_armedWrites v_armedWords v_writes a_kind a_many a_block a_keys a_vals a_isFresh a_kindWas a_manyWas a_blockWas a_keysWas a_valsWas a_freshWas v_root v_rootWas v_latest v_epoch a_reached a_oldKeys a_oldVals a_allKeys a_allVals v_oldMany v_allMany a_row a_written (nI wm) a_path a_place v_depth a_freeRow v_isOther v_moved a_bothKeys a_bothVals v_leafDepth v_found v_lastKey v_hasLast, MA9 a_kind cI 140 k, MA9 a_many cI 140 mm, MA9 a_keys cI 3360 ks, MA9 a_vals cI 3360 vl, MA9 a_isFresh cZ 140 fr, MA9 a_written cI 64 wt, MA9 a_bothKeys cI 48 f_83, MA9 a_bothVals cI 48 (upd bvw ((nI n7).toNatClampNeg) (vl (24 * r1 + jj)))] H := hP
                  replace hD : va_D A [MO9 h0 (nI w) (nI b) (nI lm) (nI cm) (nI li) (nI ci) a_disk v_isDown v_isArmed v_armedWrites v_armedWords v_writes a_kind a_many a_block a_keys a_vals a_isFresh a_kindWas a_manyWas a_blockWas a_keysWas a_valsWas a_freshWas v_root v_rootWas v_latest v_epoch a_reached a_oldKeys a_oldVals a_allKeys a_allVals v_oldMany v_allMany a_row a_written (nI wm) a_path a_place v_depth a_freeRow v_isOther v_moved a_bothKeys a_bothVals v_leafDepth v_found v_lastKey v_hasLast, MA9 a_kind cI 140 k, MA9 a_many cI 140 mm, MA9 a_keys cI 3360 ks, MA9 a_vals cI 3360 vl, MA9 a_isFresh cZ 140 fr, MA9 a_written cI 64 wt, MA9 a_bothKeys cI 48 f_83, MA9 a_bothVals cI 48 (upd bvw ((nI n7).toNatClampNeg) (vl (24 * r1 + jj)))] := hD
                  rw [show (nI n7).toNatClampNeg = n7 from nI_clamp (by omega)] at hP hD
                  obtain ⟨f_87, ef_87⟩ : ∃ g9, g9 = upd bvw n7 (vl (24 * r1 + jj)) := ⟨_, rfl⟩
                  rw [← ef_87] at hP hD
                  refine lv_iinc (v := (nI (n7 + 1))) (lv' := [(7, .int (nI (n7 + 1))), (0, .ref h0), (1, .int (nI x0)), (2, .int (nI a0)), (3, .int (nI r0)), (4, .int (nI l0)), (5, .int (nI r1)), (6, .int (ks (24 * x0 + r0))), (8, .int (nI jj))]) hx hb dX9_mend_194 hl (k := 7) rfl (nI_1 n7) (by decide) rfl (fun ls hl9 => ?_)
                  replace hl := hl9
                  clear hl9
                  refine lv_iinc (v := (nI (jj + 1))) (lv' := [(8, .int (nI (jj + 1))), (7, .int (nI (n7 + 1))), (0, .ref h0), (1, .int (nI x0)), (2, .int (nI a0)), (3, .int (nI r0)), (4, .int (nI l0)), (5, .int (nI r1)), (6, .int (ks (24 * x0 + r0)))]) hx hb dX9_mend_197 hl (k := 8) rfl (nI_1 jj) (by decide) rfl (fun ls hl9 => ?_)
                  replace hl := hl9
                  clear hl9
                  refine lv_goto (tgt := 121) hx hb dX9_mend_200 (by decide) ?_
                  exact ih_121 (jj + 1) (n7 + 1) f_83 f_87 _ _ _ (by omega) (by omega) (by omega) (boF_right hbo2 hn7 ef_87) hP hD hS (lv_sub hl [2, 3, 4, 5, 6, 7, 8, 1, 0] rfl)
                refine lv_iload hx hb dX9_mend_139 (lv_at hl 8 rfl) ?_
                refine lv_if_ne (tgt := 160) hx hb dX9_mend_141 (by decide) (fun c_88 => ?_) (fun c_88 => ?_)
                · have n_c_88 : jj ≠ 0 := fun h9 => c_88 ((nI_eq (a := jj) (b := 0) (by omega) (by omega)).mpr h9)
                  refine lv_aload_n hx hb dX9_mend_160 rfl (lv_at hl 0 rfl) ?_
                  refine va_get (D := (dC, dI)) (ci := 9) (v := .ref a_keys) (C := RX9) (T := TX9) (N := 50) hx hb hts k_1 hown hK hP 0 rfl rfl 15 (by decide) k_3 (fun _ h9 => h9) rfl dX9_mend_161 ?_
                  refine lv_bipush (v := 24) hx hb dX9_mend_164 (by decide) ?_
                  refine lv_iload hx hb dX9_mend_166 (lv_at hl 5 rfl) ?_
                  refine lv_imul hx hb dX9_mend_168 ?_
                  refine lv_topi (fun z_89 ez_89 => ?_)
                  obtain rfl : z_89 = nI (24 * r1) := ez_89.trans (pk_mul 24 r1)
                  refine lv_iload hx hb dX9_mend_169 (lv_at hl 8 rfl) ?_
                  refine lv_iadd hx hb dX9_mend_171 ?_
                  refine lv_topi (fun z_90 ez_90 => ?_)
                  obtain rfl : z_90 = nI (24 * r1 + jj) := ez_90.trans (nI_add (24 * r1) jj)
                  refine va_iald hx hb hK hP 3 0 rfl rfl (show vp_in (nI (24 * r1 + jj)) 3360 from vp_in_nI (by omega) (by omega)) dX9_mend_172 ?_
                  refine lv_topi (fun z_91 ez_91 => ?_)
                  obtain rfl : z_91 = ks (24 * r1 + jj) := ez_91.trans (congrArg ks (nI_clamp (by omega)))
                  exact jn_82 (ks (24 * r1 + jj)) _ _ _ hP hD hS (lv_sub hl [0, 1, 2, 3, 4, 5, 6, 7, 8] rfl)
                · have n_c_88 : jj = 0 := (nI_eq (a := jj) (b := 0) (by omega) (by omega)).mp c_88
                  refine lv_aload_n hx hb dX9_mend_144 rfl (lv_at hl 0 rfl) ?_
                  refine va_get (D := (dC, dI)) (ci := 9) (v := .ref a_kind) (C := RX9) (T := TX9) (N := 50) hx hb hts k_1 hown hK hP 0 rfl rfl 12 (by decide) k_6 (fun _ h9 => h9) rfl dX9_mend_145 ?_
                  refine lv_iload hx hb dX9_mend_148 (lv_at hl 5 rfl) ?_
                  refine va_iald hx hb hK hP 1 0 rfl rfl (show vp_in (nI r1) 140 from vp_in_nI (by omega) (by omega)) dX9_mend_150 ?_
                  refine lv_topi (fun z_92 ez_92 => ?_)
                  obtain rfl : z_92 = k r1 := ez_92.trans (congrArg k (nI_clamp (by omega)))
                  refine lv_iconst (v := 2) hx hb dX9_mend_151 (by decide) ?_
                  refine lv_icmp_ne (tgt := 160) hx hb dX9_mend_152 (by decide) (fun c_93 => ?_) (fun c_93 => ?_)
                  · refine lv_aload_n hx hb dX9_mend_160 rfl (lv_at hl 0 rfl) ?_
                    refine va_get (D := (dC, dI)) (ci := 9) (v := .ref a_keys) (C := RX9) (T := TX9) (N := 50) hx hb hts k_1 hown hK hP 0 rfl rfl 15 (by decide) k_3 (fun _ h9 => h9) rfl dX9_mend_161 ?_
                    refine lv_bipush (v := 24) hx hb dX9_mend_164 (by decide) ?_
                    refine lv_iload hx hb dX9_mend_166 (lv_at hl 5 rfl) ?_
                    refine lv_imul hx hb dX9_mend_168 ?_
                    refine lv_topi (fun z_94 ez_94 => ?_)
                    obtain rfl : z_94 = nI (24 * r1) := ez_94.trans (pk_mul 24 r1)
                    refine lv_iload hx hb dX9_mend_169 (lv_at hl 8 rfl) ?_
                    refine lv_iadd hx hb dX9_mend_171 ?_
                    refine lv_topi (fun z_95 ez_95 => ?_)
                    obtain rfl : z_95 = nI (24 * r1 + jj) := ez_95.trans (nI_add (24 * r1) jj)
                    refine va_iald hx hb hK hP 3 0 rfl rfl (show vp_in (nI (24 * r1 + jj)) 3360 from vp_in_nI (by omega) (by omega)) dX9_mend_172 ?_
                    refine lv_topi (fun z_96 ez_96 => ?_)
                    obtain rfl : z_96 = ks (24 * r1 + jj) := ez_96.trans (congrArg ks (nI_clamp (by omega)))
                    exact jn_82 (ks (24 * r1 + jj)) _ _ _ hP hD hS (lv_sub hl [0, 1, 2, 3, 4, 5, 6, 7, 8] rfl)
                  · refine lv_iload hx hb dX9_mend_155 (lv_at hl 6 rfl) ?_
                    refine lv_goto (tgt := 173) hx hb dX9_mend_157 (by decide) ?_
                    exact jn_82 (ks (24 * x0 + r0)) _ _ _ hP hD hS (lv_sub hl [0, 1, 2, 3, 4, 5, 6, 7, 8] rfl)
          exact loop_121 (nr + 1) 0 i bkv bvv _ _ _ (by omega) (by omega) (by omega) hbo1 hP hD hS (lv_sub hl [1, 2, 3, 4, 5, 6, 7, 8, 0] rfl)
        · have n_c_13 : ¬ nl ≤ i := fun h9 => c_13 ((nI_leI (a := nl) (b := i) (by omega) (by omega)).mpr h9)
          refine lv_aload_n hx hb dX9_mend_69 rfl (lv_at hl 0 rfl) ?_
          refine va_get (D := (dC, dI)) (ci := 9) (v := .ref a_bothKeys) (C := RX9) (T := TX9) (N := 50) hx hb hts k_1 hown hK hP 0 rfl rfl 44 (by decide) k_9 (fun _ h9 => h9) rfl dX9_mend_70 ?_
          refine lv_iload hx hb dX9_mend_73 (lv_at hl 7 rfl) ?_
          refine lv_aload_n hx hb dX9_mend_75 rfl (lv_at hl 0 rfl) ?_
          refine va_get (D := (dC, dI)) (ci := 9) (v := .ref a_keys) (C := RX9) (T := TX9) (N := 50) hx hb hts k_1 hown hK hP 0 rfl rfl 15 (by decide) k_3 (fun _ h9 => h9) rfl dX9_mend_76 ?_
          refine lv_bipush (v := 24) hx hb dX9_mend_79 (by decide) ?_
          refine lv_iload hx hb dX9_mend_81 (lv_at hl 4 rfl) ?_
          refine lv_imul hx hb dX9_mend_83 ?_
          refine lv_topi (fun z_97 ez_97 => ?_)
          obtain rfl : z_97 = nI (24 * l0) := ez_97.trans (pk_mul 24 l0)
          refine lv_iload hx hb dX9_mend_84 (lv_at hl 8 rfl) ?_
          refine lv_iadd hx hb dX9_mend_86 ?_
          refine lv_topi (fun z_98 ez_98 => ?_)
          obtain rfl : z_98 = nI (24 * l0 + i) := ez_98.trans (nI_add (24 * l0) i)
          refine va_iald hx hb hK hP 3 0 rfl rfl (show vp_in (nI (24 * l0 + i)) 3360 from vp_in_nI (by omega) (by omega)) dX9_mend_87 ?_
          refine lv_topi (fun z_99 ez_99 => ?_)
          obtain rfl : z_99 = ks (24 * l0 + i) := ez_99.trans (congrArg ks (nI_clamp (by omega)))
          refine va_iast hx hb hK hP hD hS 7 0 rfl rfl (show vp_in (nI i) 48 from vp_in_nI (by omega) (by omega)) dX9_mend_88 (fun H locs hP9 hD9 hS9 => ?_)
          replace hP := hP9
          replace hD := hD9
          replace hS := hS9
          clear hP9 hD9 hS9
          replace hP : va_P (dC, dI) vwCl [MO9 h0 (nI w) (nI b) (nI lm) (nI cm) (nI li) (nI ci) a_disk v_isDown v_isArmed v_armedWrites v_armedWords v_writes a_kind a_many a_block a_keys a_vals a_isFresh a_kindWas a_manyWas a_blockWas a_keysWas a_valsWas a_freshWas v_root v_rootWas v_latest v_epoch a_reached a_oldKeys a_oldVals a_allKeys a_allVals v_oldMany v_allMany a_row a_written (nI wm) a_path a_place v_depth a_freeRow v_isOther v_moved a_bothKeys a_bothVals v_leafDepth v_found v_lastKey v_hasLast, MA9 a_kind cI 140 k, MA9 a_many cI 140 mm, MA9 a_keys cI 3360 ks, MA9 a_vals cI 3360 vl, MA9 a_isFresh cZ 140 fr, MA9 a_written cI 64 wt, MA9 a_bothKeys cI 48 (upd bkv ((nI i).toNatClampNeg) (ks (24 * l0 + i))), MA9 a_bothVals cI 48 bvv] H := hP
          replace hD : va_D A [MO9 h0 (nI w) (nI b) (nI lm) (nI cm) (nI li) (nI ci) a_disk v_isDown v_isArmed v_armedWrites v_armedWords v_writes a_kind a_many a_block a_keys a_vals a_isFresh a_kindWas a_manyWas a_blockWas a_keysWas a_valsWas a_freshWas v_root v_rootWas v_latest v_epoch a_reached a_oldKeys a_oldVals a_allKeys a_allVals v_oldMany v_allMany a_row a_written (nI wm) a_path a_place v_depth a_freeRow v_isOther v_moved a_bothKeys a_bothVals v_leafDepth v_found v_lastKey v_hasLast, MA9 a_kind cI 140 k, MA9 a_many cI 140 mm, MA9 a_keys cI 3360 ks, MA9 a_vals cI 3360 vl, MA9 a_isFresh cZ 140 fr, MA9 a_written cI 64 wt, MA9 a_bothKeys cI 48 (upd bkv ((nI i).toNatClampNeg) (ks (24 * l0 + i))), MA9 a_bothVals cI 48 bvv] := hD
          rw [show (nI i).toNatClampNeg = i from nI_clamp (by omega)] at hP hD
          obtain ⟨f_100, ef_100⟩ : ∃ g9, g9 = upd bkv i (ks (24 * l0 + i)) := ⟨_, rfl⟩
          rw [← ef_100] at hP hD
          refine lv_aload_n hx hb dX9_mend_89 rfl (lv_at hl 0 rfl) ?_
          refine va_get (D := (dC, dI)) (ci := 9) (v := .ref a_bothVals) (C := RX9) (T := TX9) (N := 50) hx hb hts k_1 hown hK hP 0 rfl rfl 45 (by decide) k_10 (fun _ h9 => h9) rfl dX9_mend_90 ?_
          refine lv_iload hx hb dX9_mend_93 (lv_at hl 7 rfl) ?_
          refine lv_aload_n hx hb dX9_mend_95 rfl (lv_at hl 0 rfl) ?_
          refine va_get (D := (dC, dI)) (ci := 9) (v := .ref a_vals) (C := RX9) (T := TX9) (N := 50) hx hb hts k_1 hown hK hP 0 rfl rfl 16 (by decide) k_2 (fun _ h9 => h9) rfl dX9_mend_96 ?_
          refine lv_bipush (v := 24) hx hb dX9_mend_99 (by decide) ?_
          refine lv_iload hx hb dX9_mend_101 (lv_at hl 4 rfl) ?_
          refine lv_imul hx hb dX9_mend_103 ?_
          refine lv_topi (fun z_101 ez_101 => ?_)
          obtain rfl : z_101 = nI (24 * l0) := ez_101.trans (pk_mul 24 l0)
          refine lv_iload hx hb dX9_mend_104 (lv_at hl 8 rfl) ?_
          refine lv_iadd hx hb dX9_mend_106 ?_
          refine lv_topi (fun z_102 ez_102 => ?_)
          obtain rfl : z_102 = nI (24 * l0 + i) := ez_102.trans (nI_add (24 * l0) i)
          refine va_iald hx hb hK hP 4 0 rfl rfl (show vp_in (nI (24 * l0 + i)) 3360 from vp_in_nI (by omega) (by omega)) dX9_mend_107 ?_
          refine lv_topi (fun z_103 ez_103 => ?_)
          obtain rfl : z_103 = vl (24 * l0 + i) := ez_103.trans (congrArg vl (nI_clamp (by omega)))
          refine va_iast hx hb hK hP hD hS 8 0 rfl rfl (show vp_in (nI i) 48 from vp_in_nI (by omega) (by omega)) dX9_mend_108 (fun H locs hP9 hD9 hS9 => ?_)
          replace hP := hP9
          replace hD := hD9
          replace hS := hS9
          clear hP9 hD9 hS9
          replace hP : va_P (dC, dI) vwCl [MO9 h0 (nI w) (nI b) (nI lm) (nI cm) (nI li) (nI ci) a_disk v_isDown v_isArmed v_armedWrites v_armedWords v_writes a_kind a_many a_block a_keys a_vals a_isFresh a_kindWas a_manyWas a_blockWas a_keysWas a_valsWas a_freshWas v_root v_rootWas v_latest v_epoch a_reached a_oldKeys a_oldVals a_allKeys a_allVals v_oldMany v_allMany a_row a_written (nI wm) a_path a_place v_depth a_freeRow v_isOther v_moved a_bothKeys a_bothVals v_leafDepth v_found v_lastKey v_hasLast, MA9 a_kind cI 140 k, MA9 a_many cI 140 mm, MA9 a_keys cI 3360 ks, MA9 a_vals cI 3360 vl, MA9 a_isFresh cZ 140 fr, MA9 a_written cI 64 wt, MA9 a_bothKeys cI 48 f_100, MA9 a_bothVals cI 48 (upd bvv ((nI i).toNatClampNeg) (vl (24 * l0 + i)))] H := hP
          replace hD : va_D A [MO9 h0 (nI w) (nI b) (nI lm) (nI cm) (nI li) (nI ci) a_disk v_isDown v_isArmed v_armedWrites v_armedWords v_writes a_kind a_many a_block a_keys a_vals a_isFresh a_kindWas a_manyWas a_blockWas a_keysWas a_valsWas a_freshWas v_root v_rootWas v_latest v_epoch a_reached a_oldKeys a_oldVals a_allKeys a_allVals v_oldMany v_allMany a_row a_written (nI wm) a_path a_place v_depth a_freeRow v_isOther v_moved a_bothKeys a_bothVals v_leafDepth v_found v_lastKey v_hasLast, MA9 a_kind cI 140 k, MA9 a_many cI 140 mm, MA9 a_keys cI 3360 ks, MA9 a_vals cI 3360 vl, MA9 a_isFresh cZ 140 fr, MA9 a_written cI 64 wt, MA9 a_bothKeys cI 48 f_100, MA9 a_bothVals cI 48 (upd bvv ((nI i).toNatClampNeg) (vl (24 * l0 + i)))] := hD
          rw [show (nI i).toNatClampNeg = i from nI_clamp (by omega)] at hP hD
          obtain ⟨f_104, ef_104⟩ : ∃ g9, g9 = upd bvv i (vl (24 * l0 + i)) := ⟨_, rfl⟩
          rw [← ef_104] at hP hD
          refine lv_iinc (v := (nI (i + 1))) (lv' := [(7, .int (nI (i + 1))), (0, .ref h0), (1, .int (nI x0)), (2, .int (nI a0)), (3, .int (nI r0)), (4, .int (nI l0)), (5, .int (nI r1)), (6, .int (ks (24 * x0 + r0))), (8, .int (nI i))]) hx hb dX9_mend_109 hl (k := 7) rfl (nI_1 i) (by decide) rfl (fun ls hl9 => ?_)
          replace hl := hl9
          clear hl9
          refine lv_iinc (v := (nI (i + 1))) (lv' := [(8, .int (nI (i + 1))), (7, .int (nI (i + 1))), (0, .ref h0), (1, .int (nI x0)), (2, .int (nI a0)), (3, .int (nI r0)), (4, .int (nI l0)), (5, .int (nI r1)), (6, .int (ks (24 * x0 + r0)))]) hx hb dX9_mend_112 hl (k := 8) rfl (nI_1 i) (by decide) rfl (fun ls hl9 => ?_)
          replace hl := hl9
          clear hl9
          refine lv_goto (tgt := 57) hx hb dX9_mend_115 (by decide) ?_
          exact ih_57 (i + 1) f_100 f_104 _ _ _ (by omega) (by omega) (boF_left hbo1 (by omega) ef_104) hP hD hS (lv_sub hl [2, 3, 4, 5, 6, 7, 8, 1, 0] rfl)
    exact loop_57 (nl + 1) 0 bK bV _ _ _ (by omega) (by omega) (boF_start _ _ _ _ _) hP hD hS (lv_sub hl [6, 7, 8, 5, 4, 3, 2, 1, 0] rfl)
  refine lv_iload_n hx hb dX9_mend_0 rfl (lv_at hl 2 rfl) ?_
  refine lv_if_le (tgt := 8) hx hb dX9_mend_1 (by decide) (fun c_105 => ?_) (fun c_105 => ?_)
  · have n_c_105 : a0 ≤ 0 := (nI_leI (a := a0) (b := 0) (by omega) (by omega)).mp c_105
    refine lv_iconst (v := 1) hx hb dX9_mend_8 (by decide) ?_
    exact jn_1 1 _ _ _ (by rcases hr0 with ⟨h, _⟩ | ⟨_, h⟩; (omega); (rw [h]; rfl)) hP hD hS (lv_sub hl [0, 1, 2] rfl)
  · have n_c_105 : ¬ a0 ≤ 0 := fun h9 => c_105 ((nI_leI (a := a0) (b := 0) (by omega) (by omega)).mpr h9)
    refine lv_iload_n hx hb dX9_mend_4 rfl (lv_at hl 2 rfl) ?_
    refine lv_goto (tgt := 9) hx hb dX9_mend_5 (by decide) ?_
    exact jn_1 (nI a0) _ _ _ (by rcases hr0 with ⟨_, h⟩ | ⟨h, _⟩; (rw [h]); (omega)) hP hD hS (lv_sub hl [0, 1, 2] rfl)
def v_X9_drops : List Cond := .code yX9_drops cX9_drops 2 none :: ([.fieldLink RX9 13 "TwinRootsModel" "kind" "[I", .fieldLink RX9 51 "TwinRootsModel" "root" "I", .fieldLink RX9 17 "TwinRootsModel" "many" "[I", .fieldLink RX9 26 "TwinRootsModel" "vals" "[I"] ++ (wsX90 ++ ([])))
set_option maxHeartbeats 4000000 in
set_option maxRecDepth 100000 in
/-- X9_drops -/
theorem c_X9_drops (l : Launch) (dC : Nat → ClassId) (dI : Nat → Nat → Nat) (sz : Nat) (h0 : Nat) (w : Nat) (b : Nat) (lm : Nat) (cm : Nat) (li : Nat) (ci : Nat) (a_disk : Nat) (a_kind : Nat) (a_many : Nat) (a_block : Nat) (a_keys : Nat) (a_vals : Nat) (a_isFresh : Nat) (a_kindWas : Nat) (a_manyWas : Nat) (a_blockWas : Nat) (a_keysWas : Nat) (a_valsWas : Nat) (a_freshWas : Nat) (a_reached : Nat) (a_oldKeys : Nat) (a_oldVals : Nat) (a_allKeys : Nat) (a_allVals : Nat) (a_row : Nat) (a_written : Nat) (a_path : Nat) (a_place : Nat) (a_freeRow : Nat) (a_bothKeys : Nat) (a_bothVals : Nat) (v_isDown : Int32) (v_isArmed : Int32) (v_armedWrites : Int32) (v_armedWords : Int32) (v_writes : Int32) (v_rootWas : Int32) (v_latest : Int32) (v_epoch : Int32) (v_oldMany : Int32) (v_allMany : Int32) (v_writtenMany : Int32) (v_depth : Int32) (v_isOther : Int32) (v_moved : Int32) (v_leafDepth : Int32) (v_found : Int32) (v_lastKey : Int32) (v_hasLast : Int32) (cI : ClassId) (k : Nat → Int32) (mm : Nat → Int32) (vl : Nat → Int32) (x0 : Nat) (y0 : Nat) (hxx : x0 < 140) (hkx : k x0 = 2) (hmx : mm x0 = 1) (hvx : vl (24 * x0) = nI y0) (hyy : y0 < 140) (hyx : y0 ≠ x0) (hky : k y0 = 2 → ¬ mm y0 = 1) : Met l yX9_drops v_X9_drops ({ frames := 0, cells := 0, slots := 0, locals := 0 } : Room) (va_Pc [.ref h0] (fun U => U.heap.size = sz ∧ va_P (dC, dI) vwCl [MO9 h0 (nI w) (nI b) (nI lm) (nI cm) (nI li) (nI ci) a_disk v_isDown v_isArmed v_armedWrites v_armedWords v_writes a_kind a_many a_block a_keys a_vals a_isFresh a_kindWas a_manyWas a_blockWas a_keysWas a_valsWas a_freshWas (nI x0) v_rootWas v_latest v_epoch a_reached a_oldKeys a_oldVals a_allKeys a_allVals v_oldMany v_allMany a_row a_written v_writtenMany a_path a_place v_depth a_freeRow v_isOther v_moved a_bothKeys a_bothVals v_leafDepth v_found v_lastKey v_hasLast, MA9 a_kind cI 140 k, MA9 a_many cI 140 mm, MA9 a_vals cI 3360 vl] U.heap ∧ va_K (dC, dI) vwCl [(cI, .int)] U ∧ va_D (fun _ => True) [MO9 h0 (nI w) (nI b) (nI lm) (nI cm) (nI li) (nI ci) a_disk v_isDown v_isArmed v_armedWrites v_armedWords v_writes a_kind a_many a_block a_keys a_vals a_isFresh a_kindWas a_manyWas a_blockWas a_keysWas a_valsWas a_freshWas (nI x0) v_rootWas v_latest v_epoch a_reached a_oldKeys a_oldVals a_allKeys a_allVals v_oldMany v_allMany a_row a_written v_writtenMany a_path a_place v_depth a_freeRow v_isOther v_moved a_bothKeys a_bothVals v_leafDepth v_found v_lastKey v_hasLast, MA9 a_kind cI 140 k, MA9 a_many cI 140 mm, MA9 a_vals cI 3360 vl])) (va_Qv (fun (k2 : Nat → Int32) => k2 = upd k x0 0) (fun (k2 : Nat → Int32) (t : State) => va_P (dC, dI) vwCl [MO9 h0 (nI w) (nI b) (nI lm) (nI cm) (nI li) (nI ci) a_disk v_isDown v_isArmed v_armedWrites v_armedWords v_writes a_kind a_many a_block a_keys a_vals a_isFresh a_kindWas a_manyWas a_blockWas a_keysWas a_valsWas a_freshWas (nI y0) v_rootWas v_latest v_epoch a_reached a_oldKeys a_oldVals a_allKeys a_allVals v_oldMany v_allMany a_row a_written v_writtenMany a_path a_place v_depth a_freeRow v_isOther v_moved a_bothKeys a_bothVals v_leafDepth v_found v_lastKey v_hasLast, MA9 a_kind cI 140 k2, MA9 a_many cI 140 mm, MA9 a_vals cI 3360 vl] t.heap ∧ va_K (dC, dI) vwCl [(cI, .int)] t ∧ va_D (va_A [MO9 h0 (nI w) (nI b) (nI lm) (nI cm) (nI li) (nI ci) a_disk v_isDown v_isArmed v_armedWrites v_armedWords v_writes a_kind a_many a_block a_keys a_vals a_isFresh a_kindWas a_manyWas a_blockWas a_keysWas a_valsWas a_freshWas (nI x0) v_rootWas v_latest v_epoch a_reached a_oldKeys a_oldVals a_allKeys a_allVals v_oldMany v_allMany a_row a_written v_writtenMany a_path a_place v_depth a_freeRow v_isOther v_moved a_bothKeys a_bothVals v_leafDepth v_found v_lastKey v_hasLast, MA9 a_kind cI 140 k, MA9 a_many cI 140 mm, MA9 a_vals cI 3360 vl] sz) [MO9 h0 (nI w) (nI b) (nI lm) (nI cm) (nI li) (nI ci) a_disk v_isDown v_isArmed v_armedWrites v_armedWords v_writes a_kind a_many a_block a_keys a_vals a_isFresh a_kindWas a_manyWas a_blockWas a_keysWas a_valsWas a_freshWas (nI y0) v_rootWas v_latest v_epoch a_reached a_oldKeys a_oldVals a_allKeys a_allVals v_oldMany v_allMany a_row a_written v_writtenMany a_path a_place v_depth a_freeRow v_isOther v_moved a_bothKeys a_bothVals v_leafDepth v_found v_lastKey v_hasLast, MA9 a_kind cI 140 k2, MA9 a_many cI 140 mm, MA9 a_vals cI 3360 vl]) (va_A [MO9 h0 (nI w) (nI b) (nI lm) (nI cm) (nI li) (nI ci) a_disk v_isDown v_isArmed v_armedWrites v_armedWords v_writes a_kind a_many a_block a_keys a_vals a_isFresh a_kindWas a_manyWas a_blockWas a_keysWas a_valsWas a_freshWas (nI x0) v_rootWas v_latest v_epoch a_reached a_oldKeys a_oldVals a_allKeys a_allVals v_oldMany v_allMany a_row a_written v_writtenMany a_path a_place v_depth a_freeRow v_isOther v_moved a_bothKeys a_bothVals v_leafDepth v_found v_lastKey v_hasLast, MA9 a_kind cI 140 k, MA9 a_many cI 140 mm, MA9 a_vals cI 3360 vl] sz)) 0 0 (va_A [MO9 h0 (nI w) (nI b) (nI lm) (nI cm) (nI li) (nI ci) a_disk v_isDown v_isArmed v_armedWrites v_armedWords v_writes a_kind a_many a_block a_keys a_vals a_isFresh a_kindWas a_manyWas a_blockWas a_keysWas a_valsWas a_freshWas (nI x0) v_rootWas v_latest v_epoch a_reached a_oldKeys a_oldVals a_allKeys a_allVals v_oldMany v_allMany a_row a_written v_writtenMany a_path a_place v_depth a_freeRow v_isOther v_moved a_bothKeys a_bothVals v_leafDepth v_found v_lastKey v_hasLast, MA9 a_kind cI 140 k, MA9 a_many cI 140 mm, MA9 a_vals cI 3360 vl] sz) := by
  refine Met.ofW (cc := cX9_drops) (maxL := 2) (ret := none) (by decide) rfl ?_
  intro p e s m args below meth c s₁ B hml hv
  obtain ⟨rfl, hsz, hP, hK, hD0⟩ := hv
  have hx := B.exec
  have hb := B.bytes
  have hr := B.returns
  have hts := atoms_spec (ws := v_X9_drops) B.pre
  have hown : s.vm.findClass RX9 = some m.cls := findClass_of_methodNamed B.named
  have hlocks := B.notSynchronized
  subst hsz
  have hD := hD0.self (sz := s.heap.size)
  generalize hAe : va_A [MO9 h0 (nI w) (nI b) (nI lm) (nI cm) (nI li) (nI ci) a_disk v_isDown v_isArmed v_armedWrites v_armedWords v_writes a_kind a_many a_block a_keys a_vals a_isFresh a_kindWas a_manyWas a_blockWas a_keysWas a_valsWas a_freshWas (nI x0) v_rootWas v_latest v_epoch a_reached a_oldKeys a_oldVals a_allKeys a_allVals v_oldMany v_allMany a_row a_written v_writtenMany a_path a_place v_depth a_freeRow v_isOther v_moved a_bothKeys a_bothVals v_leafDepth v_found v_lastKey v_hasLast, MA9 a_kind cI 140 k, MA9 a_many cI 140 mm, MA9 a_vals cI 3360 vl] s.heap.size = A at hD ⊢
  have hA : ∀ q : Nat, s.heap.size ≤ q → A q := fun q h => by rw [← hAe]; exact Or.inr h
  have hS : va_S A s.heap s.heap [] := va_S.rf
  have hP : va_P (dC, dI) vwCl [MO9 h0 (nI w) (nI b) (nI lm) (nI cm) (nI li) (nI ci) a_disk v_isDown v_isArmed v_armedWrites v_armedWords v_writes a_kind a_many a_block a_keys a_vals a_isFresh a_kindWas a_manyWas a_blockWas a_keysWas a_valsWas a_freshWas (nI x0) v_rootWas v_latest v_epoch a_reached a_oldKeys a_oldVals a_allKeys a_allVals v_oldMany v_allMany a_row a_written v_writtenMany a_path a_place v_depth a_freeRow v_isOther v_moved a_bothKeys a_bothVals v_leafDepth v_found v_lastKey v_hasLast, MA9 a_kind cI 140 k, MA9 a_many cI 140 mm, MA9 a_vals cI 3360 vl] s.heap := hP
  have hl := lv_entry ([.ref h0]) (n := 2) (Nat.le_of_ble_eq_true rfl)
  rw [lg_entry_eq]
  generalize (lg_sl ([.ref h0]) ++ List.replicate (2 - (lg_sl ([.ref h0])).length) Slot.unset).toArray = ls at hl ⊢
  have hl : lv_has ls 2 [(0, .ref h0)] := hl
  have k_1 := (fun _ h => List.mem_cons_of_mem _ (List.mem_append_right _ (List.mem_append_left _ h)) : ∀ w ∈ wsX90, w ∈ v_X9_drops)
  have k_2 := hts (.fieldLink RX9 13 "TwinRootsModel" "kind" "[I") (List.mem_of_getElem? (i := 1) rfl)
  have k_3 := hts (.fieldLink RX9 51 "TwinRootsModel" "root" "I") (List.mem_of_getElem? (i := 2) rfl)
  have k_4 := hts (.fieldLink RX9 17 "TwinRootsModel" "many" "[I") (List.mem_of_getElem? (i := 3) rfl)
  have k_5 := hts (.fieldLink RX9 26 "TwinRootsModel" "vals" "[I") (List.mem_of_getElem? (i := 4) rfl)
  refine jn_cut (P := fun Q => ∀ (nf i : Nat) (zz : Nat) (kv : Nat → Int32) (H : Heap) (locs : List Loc) (ls : Array Slot), i ≤ 1 → 1 + 1 ≤ i + nf → ((i = 0 ∧ x0 = zz ∧ k = kv) ∨ (y0 = zz ∧ kv = upd k x0 0)) → va_P (dC, dI) vwCl [MO9 h0 (nI w) (nI b) (nI lm) (nI cm) (nI li) (nI ci) a_disk v_isDown v_isArmed v_armedWrites v_armedWords v_writes a_kind a_many a_block a_keys a_vals a_isFresh a_kindWas a_manyWas a_blockWas a_keysWas a_valsWas a_freshWas (nI zz) v_rootWas v_latest v_epoch a_reached a_oldKeys a_oldVals a_allKeys a_allVals v_oldMany v_allMany a_row a_written v_writtenMany a_path a_place v_depth a_freeRow v_isOther v_moved a_bothKeys a_bothVals v_leafDepth v_found v_lastKey v_hasLast, MA9 a_kind cI 140 kv, MA9 a_many cI 140 mm, MA9 a_vals cI 3360 vl] H → va_D A [MO9 h0 (nI w) (nI b) (nI lm) (nI cm) (nI li) (nI ci) a_disk v_isDown v_isArmed v_armedWrites v_armedWords v_writes a_kind a_many a_block a_keys a_vals a_isFresh a_kindWas a_manyWas a_blockWas a_keysWas a_valsWas a_freshWas (nI zz) v_rootWas v_latest v_epoch a_reached a_oldKeys a_oldVals a_allKeys a_allVals v_oldMany v_allMany a_row a_written v_writtenMany a_path a_place v_depth a_freeRow v_isOther v_moved a_bothKeys a_bothVals v_leafDepth v_found v_lastKey v_hasLast, MA9 a_kind cI 140 kv, MA9 a_many cI 140 mm, MA9 a_vals cI 3360 vl] → va_S A s.heap H locs → lv_has ls 2 [(0, .ref h0)] → W p l e (headSpec v_X9_drops ({ frames := 0, cells := 0, slots := 0, locals := 0 } : Room)).room s m ([.ref h0] : List Value).toArray below meth c H locs 0 0 Q (F0 m 0 ls [])) ?_ (fun loop_0 => ?_)
  · intro nf
    induction nf with
    | zero =>
      intro i zz kv H locs ls h1 h2
      exact absurd h2 (by omega)
    | succ nf ih_0 =>
      intro i zz kv H locs ls hi hn hdz hP hD hS hl
      rcases hdz with ⟨hi0, rfl, rfl⟩ | ⟨rfl, ekv⟩
      · replace hP : va_P (dC, dI) vwCl [MO9 h0 (nI w) (nI b) (nI lm) (nI cm) (nI li) (nI ci) a_disk v_isDown v_isArmed v_armedWrites v_armedWords v_writes a_kind a_many a_block a_keys a_vals a_isFresh a_kindWas a_manyWas a_blockWas a_keysWas a_valsWas a_freshWas (nI x0) v_rootWas v_latest v_epoch a_reached a_oldKeys a_oldVals a_allKeys a_allVals v_oldMany v_allMany a_row a_written v_writtenMany a_path a_place v_depth a_freeRow v_isOther v_moved a_bothKeys a_bothVals v_leafDepth v_found v_lastKey v_hasLast, MA9 a_kind cI 140 k, MA9 a_many cI 140 mm, MA9 a_vals cI 3360 vl] H := hP
        replace hD : va_D A [MO9 h0 (nI w) (nI b) (nI lm) (nI cm) (nI li) (nI ci) a_disk v_isDown v_isArmed v_armedWrites v_armedWords v_writes a_kind a_many a_block a_keys a_vals a_isFresh a_kindWas a_manyWas a_blockWas a_keysWas a_valsWas a_freshWas (nI x0) v_rootWas v_latest v_epoch a_reached a_oldKeys a_oldVals a_allKeys a_allVals v_oldMany v_allMany a_row a_written v_writtenMany a_path a_place v_depth a_freeRow v_isOther v_moved a_bothKeys a_bothVals v_leafDepth v_found v_lastKey v_hasLast, MA9 a_kind cI 140 k, MA9 a_many cI 140 mm, MA9 a_vals cI 3360 vl] := hD
        refine lv_aload_n hx hb dX9_drops_0 rfl (lv_at hl 0 rfl) ?_
        refine va_get (D := (dC, dI)) (ci := 9) (v := .ref a_kind) (C := RX9) (T := TX9) (N := 50) hx hb hts k_1 hown hK hP 0 rfl rfl 12 (by decide) k_2 (fun _ h9 => h9) rfl dX9_drops_1 ?_
        refine lv_aload_n hx hb dX9_drops_4 rfl (lv_at hl 0 rfl) ?_
        refine va_get (D := (dC, dI)) (ci := 9) (v := .int (nI x0)) (C := RX9) (T := TX9) (N := 50) hx hb hts k_1 hown hK hP 0 rfl rfl 24 (by decide) k_3 (fun _ h9 => h9) rfl dX9_drops_5 ?_
        refine va_iald hx hb hK hP 1 0 rfl rfl (show vp_in (nI x0) 140 from vp_in_nI (by omega) (by omega)) dX9_drops_8 ?_
        refine lv_topi (fun z_1 ez_1 => ?_)
        obtain rfl : z_1 = k x0 := ez_1.trans (congrArg k (nI_clamp (by omega)))
        refine lv_iconst (v := 2) hx hb dX9_drops_9 (by decide) ?_
        refine lv_icmp_ne (tgt := 54) hx hb dX9_drops_10 (by decide) (fun c_2 => ?_) (fun c_2 => ?_)
        · exact absurd (hkx) c_2
        refine lv_aload_n hx hb dX9_drops_13 rfl (lv_at hl 0 rfl) ?_
        refine va_get (D := (dC, dI)) (ci := 9) (v := .ref a_many) (C := RX9) (T := TX9) (N := 50) hx hb hts k_1 hown hK hP 0 rfl rfl 13 (by decide) k_4 (fun _ h9 => h9) rfl dX9_drops_14 ?_
        refine lv_aload_n hx hb dX9_drops_17 rfl (lv_at hl 0 rfl) ?_
        refine va_get (D := (dC, dI)) (ci := 9) (v := .int (nI x0)) (C := RX9) (T := TX9) (N := 50) hx hb hts k_1 hown hK hP 0 rfl rfl 24 (by decide) k_3 (fun _ h9 => h9) rfl dX9_drops_18 ?_
        refine va_iald hx hb hK hP 2 0 rfl rfl (show vp_in (nI x0) 140 from vp_in_nI (by omega) (by omega)) dX9_drops_21 ?_
        refine lv_topi (fun z_3 ez_3 => ?_)
        obtain rfl : z_3 = mm x0 := ez_3.trans (congrArg mm (nI_clamp (by omega)))
        refine lv_iconst (v := 1) hx hb dX9_drops_22 (by decide) ?_
        refine lv_icmp_ne (tgt := 54) hx hb dX9_drops_23 (by decide) (fun c_4 => ?_) (fun c_4 => ?_)
        · exact absurd (hmx) c_4
        refine lv_aload_n hx hb dX9_drops_26 rfl (lv_at hl 0 rfl) ?_
        refine va_get (D := (dC, dI)) (ci := 9) (v := .int (nI x0)) (C := RX9) (T := TX9) (N := 50) hx hb hts k_1 hown hK hP 0 rfl rfl 24 (by decide) k_3 (fun _ h9 => h9) rfl dX9_drops_27 ?_
        refine lv_istore_n (lv' := [(1, .int (nI x0)), (0, .ref h0)]) hx hb dX9_drops_30 rfl hl (by decide) rfl (fun ls hl9 => ?_)
        replace hl := hl9
        clear hl9
        refine lv_aload_n hx hb dX9_drops_31 rfl (lv_at hl 1 rfl) ?_
        refine lv_aload_n hx hb dX9_drops_32 rfl (lv_at hl 1 rfl) ?_
        refine va_get (D := (dC, dI)) (ci := 9) (v := .ref a_vals) (C := RX9) (T := TX9) (N := 50) hx hb hts k_1 hown hK hP 0 rfl rfl 16 (by decide) k_5 (fun _ h9 => h9) rfl dX9_drops_33 ?_
        refine lv_bipush (v := 24) hx hb dX9_drops_36 (by decide) ?_
        refine lv_iload_n hx hb dX9_drops_38 rfl (lv_at hl 0 rfl) ?_
        refine lv_imul hx hb dX9_drops_39 ?_
        refine lv_topi (fun z_5 ez_5 => ?_)
        obtain rfl : z_5 = nI (24 * x0) := ez_5.trans (pk_mul 24 x0)
        refine va_iald hx hb hK hP 3 0 rfl rfl (show vp_in (nI (24 * x0)) 3360 from vp_in_nI (by omega) (by omega)) dX9_drops_40 ?_
        refine lv_topi (fun z_6 ez_6 => ?_)
        obtain rfl : z_6 = nI y0 := ez_6.trans ((congrArg vl (nI_clamp (by omega))).trans (hvx))
        refine va_put (D := (dC, dI)) (ci := 9) (v := .int (nI y0)) (ty := .int) (C := RX9) (T := TX9) (N := 50) hx hb hts k_1 tyX9 tyX9_ok nmX9 hown hK hP hD hS 0 rfl rfl 24 (by decide) k_3 (fun _ h9 => h9) rfl (by decide +kernel) rfl rfl (Nat.le_of_ble_eq_true rfl) dX9_drops_41 (fun H locs hP9 hD9 hS9 => ?_)
        replace hP := hP9
        replace hD := hD9
        replace hS := hS9
        clear hP9 hD9 hS9
        replace hP : va_P (dC, dI) vwCl [MO9 h0 (nI w) (nI b) (nI lm) (nI cm) (nI li) (nI ci) a_disk v_isDown v_isArmed v_armedWrites v_armedWords v_writes a_kind a_many a_block a_keys a_vals a_isFresh a_kindWas a_manyWas a_blockWas a_keysWas a_valsWas a_freshWas (nI y0) v_rootWas v_latest v_epoch a_reached a_oldKeys a_oldVals a_allKeys a_allVals v_oldMany v_allMany a_row a_written v_writtenMany a_path a_place v_depth a_freeRow v_isOther v_moved a_bothKeys a_bothVals v_leafDepth v_found v_lastKey v_hasLast, MA9 a_kind cI 140 k, MA9 a_many cI 140 mm, MA9 a_vals cI 3360 vl] H := hP
        replace hD : va_D A [MO9 h0 (nI w) (nI b) (nI lm) (nI cm) (nI li) (nI ci) a_disk v_isDown v_isArmed v_armedWrites v_armedWords v_writes a_kind a_many a_block a_keys a_vals a_isFresh a_kindWas a_manyWas a_blockWas a_keysWas a_valsWas a_freshWas (nI y0) v_rootWas v_latest v_epoch a_reached a_oldKeys a_oldVals a_allKeys a_allVals v_oldMany v_allMany a_row a_written v_writtenMany a_path a_place v_depth a_freeRow v_isOther v_moved a_bothKeys a_bothVals v_leafDepth v_found v_lastKey v_hasLast, MA9 a_kind cI 140 k, MA9 a_many cI 140 mm, MA9 a_vals cI 3360 vl] := hD
        refine lv_aload_n hx hb dX9_drops_44 rfl (lv_at hl 1 rfl) ?_
        refine va_get (D := (dC, dI)) (ci := 9) (v := .ref a_kind) (C := RX9) (T := TX9) (N := 50) hx hb hts k_1 hown hK hP 0 rfl rfl 12 (by decide) k_2 (fun _ h9 => h9) rfl dX9_drops_45 ?_
        refine lv_iload_n hx hb dX9_drops_48 rfl (lv_at hl 0 rfl) ?_
        refine lv_iconst (v := 0) hx hb dX9_drops_49 (by decide) ?_
        refine va_iast hx hb hK hP hD hS 1 0 rfl rfl (show vp_in (nI x0) 140 from vp_in_nI (by omega) (by omega)) dX9_drops_50 (fun H locs hP9 hD9 hS9 => ?_)
        replace hP := hP9
        replace hD := hD9
        replace hS := hS9
        clear hP9 hD9 hS9
        replace hP : va_P (dC, dI) vwCl [MO9 h0 (nI w) (nI b) (nI lm) (nI cm) (nI li) (nI ci) a_disk v_isDown v_isArmed v_armedWrites v_armedWords v_writes a_kind a_many a_block a_keys a_vals a_isFresh a_kindWas a_manyWas a_blockWas a_keysWas a_valsWas a_freshWas (nI y0) v_rootWas v_latest v_epoch a_reached a_oldKeys a_oldVals a_allKeys a_allVals v_oldMany v_allMany a_row a_written v_writtenMany a_path a_place v_depth a_freeRow v_isOther v_moved a_bothKeys a_bothVals v_leafDepth v_found v_lastKey v_hasLast, MA9 a_kind cI 140 (upd k ((nI x0).toNatClampNeg) 0), MA9 a_many cI 140 mm, MA9 a_vals cI 3360 vl] H := hP
        replace hD : va_D A [MO9 h0 (nI w) (nI b) (nI lm) (nI cm) (nI li) (nI ci) a_disk v_isDown v_isArmed v_armedWrites v_armedWords v_writes a_kind a_many a_block a_keys a_vals a_isFresh a_kindWas a_manyWas a_blockWas a_keysWas a_valsWas a_freshWas (nI y0) v_rootWas v_latest v_epoch a_reached a_oldKeys a_oldVals a_allKeys a_allVals v_oldMany v_allMany a_row a_written v_writtenMany a_path a_place v_depth a_freeRow v_isOther v_moved a_bothKeys a_bothVals v_leafDepth v_found v_lastKey v_hasLast, MA9 a_kind cI 140 (upd k ((nI x0).toNatClampNeg) 0), MA9 a_many cI 140 mm, MA9 a_vals cI 3360 vl] := hD
        rw [show (nI x0).toNatClampNeg = x0 from nI_clamp (by omega)] at hP hD
        obtain ⟨f_7, ef_7⟩ : ∃ g9, g9 = upd k x0 0 := ⟨_, rfl⟩
        rw [← ef_7] at hP hD
        refine lv_goto (tgt := 0) hx hb dX9_drops_51 (by decide) ?_
        exact ih_0 (i + 1) y0 f_7 _ _ _ (by omega) (by omega) (Or.inr ⟨rfl, ef_7⟩) hP hD hS (lv_sub hl [1] rfl)
      · replace hP : va_P (dC, dI) vwCl [MO9 h0 (nI w) (nI b) (nI lm) (nI cm) (nI li) (nI ci) a_disk v_isDown v_isArmed v_armedWrites v_armedWords v_writes a_kind a_many a_block a_keys a_vals a_isFresh a_kindWas a_manyWas a_blockWas a_keysWas a_valsWas a_freshWas (nI y0) v_rootWas v_latest v_epoch a_reached a_oldKeys a_oldVals a_allKeys a_allVals v_oldMany v_allMany a_row a_written v_writtenMany a_path a_place v_depth a_freeRow v_isOther v_moved a_bothKeys a_bothVals v_leafDepth v_found v_lastKey v_hasLast, MA9 a_kind cI 140 kv, MA9 a_many cI 140 mm, MA9 a_vals cI 3360 vl] H := hP
        replace hD : va_D A [MO9 h0 (nI w) (nI b) (nI lm) (nI cm) (nI li) (nI ci) a_disk v_isDown v_isArmed v_armedWrites v_armedWords v_writes a_kind a_many a_block a_keys a_vals a_isFresh a_kindWas a_manyWas a_blockWas a_keysWas a_valsWas a_freshWas (nI y0) v_rootWas v_latest v_epoch a_reached a_oldKeys a_oldVals a_allKeys a_allVals v_oldMany v_allMany a_row a_written v_writtenMany a_path a_place v_depth a_freeRow v_isOther v_moved a_bothKeys a_bothVals v_leafDepth v_found v_lastKey v_hasLast, MA9 a_kind cI 140 kv, MA9 a_many cI 140 mm, MA9 a_vals cI 3360 vl] := hD
        refine lv_aload_n hx hb dX9_drops_0 rfl (lv_at hl 0 rfl) ?_
        refine va_get (D := (dC, dI)) (ci := 9) (v := .ref a_kind) (C := RX9) (T := TX9) (N := 50) hx hb hts k_1 hown hK hP 0 rfl rfl 12 (by decide) k_2 (fun _ h9 => h9) rfl dX9_drops_1 ?_
        refine lv_aload_n hx hb dX9_drops_4 rfl (lv_at hl 0 rfl) ?_
        refine va_get (D := (dC, dI)) (ci := 9) (v := .int (nI y0)) (C := RX9) (T := TX9) (N := 50) hx hb hts k_1 hown hK hP 0 rfl rfl 24 (by decide) k_3 (fun _ h9 => h9) rfl dX9_drops_5 ?_
        refine va_iald hx hb hK hP 1 0 rfl rfl (show vp_in (nI y0) 140 from vp_in_nI (by omega) (by omega)) dX9_drops_8 ?_
        refine lv_topi (fun z_8 ez_8 => ?_)
        obtain rfl : z_8 = kv y0 := ez_8.trans (congrArg kv (nI_clamp (by omega)))
        refine lv_iconst (v := 2) hx hb dX9_drops_9 (by decide) ?_
        refine lv_icmp_ne (tgt := 54) hx hb dX9_drops_10 (by decide) (fun c_9 => ?_) (fun c_9 => ?_)
        · have hP9 := hP.sub (ws' := [MO9 h0 (nI w) (nI b) (nI lm) (nI cm) (nI li) (nI ci) a_disk v_isDown v_isArmed v_armedWrites v_armedWords v_writes a_kind a_many a_block a_keys a_vals a_isFresh a_kindWas a_manyWas a_blockWas a_keysWas a_valsWas a_freshWas (nI y0) v_rootWas v_latest v_epoch a_reached a_oldKeys a_oldVals a_allKeys a_allVals v_oldMany v_allMany a_row a_written v_writtenMany a_path a_place v_depth a_freeRow v_isOther v_moved a_bothKeys a_bothVals v_leafDepth v_found v_lastKey v_hasLast, MA9 a_kind cI 140 kv, MA9 a_many cI 140 mm, MA9 a_vals cI 3360 vl]) [0, 1, 2, 3] rfl
          have hD9 := hD.sub (ws' := [MO9 h0 (nI w) (nI b) (nI lm) (nI cm) (nI li) (nI ci) a_disk v_isDown v_isArmed v_armedWrites v_armedWords v_writes a_kind a_many a_block a_keys a_vals a_isFresh a_kindWas a_manyWas a_blockWas a_keysWas a_valsWas a_freshWas (nI y0) v_rootWas v_latest v_epoch a_reached a_oldKeys a_oldVals a_allKeys a_allVals v_oldMany v_allMany a_row a_written v_writtenMany a_path a_place v_depth a_freeRow v_isOther v_moved a_bothKeys a_bothVals v_leafDepth v_found v_lastKey v_hasLast, MA9 a_kind cI 140 kv, MA9 a_many cI 140 mm, MA9 a_vals cI 3360 vl]) [0, 1, 2, 3] (by decide) rfl
          have hK9 := hK.sub (tys' := [(cI, .int)]) [0] rfl
          exact W.vret hx hb hr (fun t ht hW => ⟨⟨(kv), rfl, ekv, by rw [ht]; exact hP9, va_K.moved hW.alike hK9, hD9⟩, hS.F ht⟩) hS.2.2 dX9_drops_54
        · refine lv_aload_n hx hb dX9_drops_13 rfl (lv_at hl 0 rfl) ?_
          refine va_get (D := (dC, dI)) (ci := 9) (v := .ref a_many) (C := RX9) (T := TX9) (N := 50) hx hb hts k_1 hown hK hP 0 rfl rfl 13 (by decide) k_4 (fun _ h9 => h9) rfl dX9_drops_14 ?_
          refine lv_aload_n hx hb dX9_drops_17 rfl (lv_at hl 0 rfl) ?_
          refine va_get (D := (dC, dI)) (ci := 9) (v := .int (nI y0)) (C := RX9) (T := TX9) (N := 50) hx hb hts k_1 hown hK hP 0 rfl rfl 24 (by decide) k_3 (fun _ h9 => h9) rfl dX9_drops_18 ?_
          refine va_iald hx hb hK hP 2 0 rfl rfl (show vp_in (nI y0) 140 from vp_in_nI (by omega) (by omega)) dX9_drops_21 ?_
          refine lv_topi (fun z_10 ez_10 => ?_)
          obtain rfl : z_10 = mm y0 := ez_10.trans (congrArg mm (nI_clamp (by omega)))
          refine lv_iconst (v := 1) hx hb dX9_drops_22 (by decide) ?_
          refine lv_icmp_ne (tgt := 54) hx hb dX9_drops_23 (by decide) (fun c_11 => ?_) (fun c_11 => ?_)
          rotate_left
          · exact absurd c_11 (hky (by have h9 := c_9; rw [ekv, pk_un hyx] at h9; exact h9))
          have hP9 := hP.sub (ws' := [MO9 h0 (nI w) (nI b) (nI lm) (nI cm) (nI li) (nI ci) a_disk v_isDown v_isArmed v_armedWrites v_armedWords v_writes a_kind a_many a_block a_keys a_vals a_isFresh a_kindWas a_manyWas a_blockWas a_keysWas a_valsWas a_freshWas (nI y0) v_rootWas v_latest v_epoch a_reached a_oldKeys a_oldVals a_allKeys a_allVals v_oldMany v_allMany a_row a_written v_writtenMany a_path a_place v_depth a_freeRow v_isOther v_moved a_bothKeys a_bothVals v_leafDepth v_found v_lastKey v_hasLast, MA9 a_kind cI 140 kv, MA9 a_many cI 140 mm, MA9 a_vals cI 3360 vl]) [0, 1, 2, 3] rfl
          have hD9 := hD.sub (ws' := [MO9 h0 (nI w) (nI b) (nI lm) (nI cm) (nI li) (nI ci) a_disk v_isDown v_isArmed v_armedWrites v_armedWords v_writes a_kind a_many a_block a_keys a_vals a_isFresh a_kindWas a_manyWas a_blockWas a_keysWas a_valsWas a_freshWas (nI y0) v_rootWas v_latest v_epoch a_reached a_oldKeys a_oldVals a_allKeys a_allVals v_oldMany v_allMany a_row a_written v_writtenMany a_path a_place v_depth a_freeRow v_isOther v_moved a_bothKeys a_bothVals v_leafDepth v_found v_lastKey v_hasLast, MA9 a_kind cI 140 kv, MA9 a_many cI 140 mm, MA9 a_vals cI 3360 vl]) [0, 1, 2, 3] (by decide) rfl
          have hK9 := hK.sub (tys' := [(cI, .int)]) [0] rfl
          exact W.vret hx hb hr (fun t ht hW => ⟨⟨(kv), rfl, ekv, by rw [ht]; exact hP9, va_K.moved hW.alike hK9, hD9⟩, hS.F ht⟩) hS.2.2 dX9_drops_54
  exact loop_0 (1 + 1) 0 x0 k _ _ _ (by omega) (by omega) (Or.inl ⟨rfl, rfl, rfl⟩) hP hD hS (lv_sub hl [0] rfl)
