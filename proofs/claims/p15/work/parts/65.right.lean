theorem dX9_isRight_0 : decode cX9_isRight 0 = .ok (.iload_n 2, 1) := by decide +kernel
theorem dX9_isRight_1 : decode cX9_isRight 1 = .ok (.iconst 2, 1) := by decide +kernel
theorem dX9_isRight_2 : decode cX9_isRight 2 = .ok (.if_icmp .lt 31, 3) := by decide +kernel
theorem dX9_isRight_5 : decode cX9_isRight 5 = .ok (.iload_n 2, 1) := by decide +kernel
theorem dX9_isRight_6 : decode cX9_isRight 6 = .ok (.aload_n 0, 1) := by decide +kernel
theorem dX9_isRight_7 : decode cX9_isRight 7 = .ok (.getfield 103, 3) := by decide +kernel
theorem dX9_isRight_10 : decode cX9_isRight 10 = .ok (.if_icmp .ge 23, 3) := by decide +kernel
theorem dX9_isRight_13 : decode cX9_isRight 13 = .ok (.iload_n 3, 1) := by decide +kernel
theorem dX9_isRight_14 : decode cX9_isRight 14 = .ok (.bipush 12, 2) := by decide +kernel
theorem dX9_isRight_16 : decode cX9_isRight 16 = .ok (.if_icmp .gt 17, 3) := by decide +kernel
theorem dX9_isRight_19 : decode cX9_isRight 19 = .ok (.aload_n 0, 1) := by decide +kernel
theorem dX9_isRight_20 : decode cX9_isRight 20 = .ok (.getfield 55, 3) := by decide +kernel
theorem dX9_isRight_23 : decode cX9_isRight 23 = .ok (.bipush 120, 2) := by decide +kernel
theorem dX9_isRight_25 : decode cX9_isRight 25 = .ok (.iload_n 1, 1) := by decide +kernel
theorem dX9_isRight_26 : decode cX9_isRight 26 = .ok (.imul, 1) := by decide +kernel
theorem dX9_isRight_27 : decode cX9_isRight 27 = .ok (.iload_n 2, 1) := by decide +kernel
theorem dX9_isRight_28 : decode cX9_isRight 28 = .ok (.iadd, 1) := by decide +kernel
theorem dX9_isRight_29 : decode cX9_isRight 29 = .ok (.baload, 1) := by decide +kernel
theorem dX9_isRight_30 : decode cX9_isRight 30 = .ok (.ifCond .eq 5, 3) := by decide +kernel
theorem dX9_isRight_33 : decode cX9_isRight 33 = .ok (.iconst 0, 1) := by decide +kernel
theorem dX9_isRight_34 : decode cX9_isRight 34 = .ok (.ireturn, 1) := by decide +kernel
theorem dX9_isRight_35 : decode cX9_isRight 35 = .ok (.aload_n 0, 1) := by decide +kernel
theorem dX9_isRight_36 : decode cX9_isRight 36 = .ok (.getfield 55, 3) := by decide +kernel
theorem dX9_isRight_39 : decode cX9_isRight 39 = .ok (.bipush 120, 2) := by decide +kernel
theorem dX9_isRight_41 : decode cX9_isRight 41 = .ok (.iload_n 1, 1) := by decide +kernel
theorem dX9_isRight_42 : decode cX9_isRight 42 = .ok (.imul, 1) := by decide +kernel
theorem dX9_isRight_43 : decode cX9_isRight 43 = .ok (.iload_n 2, 1) := by decide +kernel
theorem dX9_isRight_44 : decode cX9_isRight 44 = .ok (.iadd, 1) := by decide +kernel
theorem dX9_isRight_45 : decode cX9_isRight 45 = .ok (.iconst 1, 1) := by decide +kernel
theorem dX9_isRight_46 : decode cX9_isRight 46 = .ok (.bastore, 1) := by decide +kernel
theorem dX9_isRight_47 : decode cX9_isRight 47 = .ok (.aload_n 0, 1) := by decide +kernel
theorem dX9_isRight_48 : decode cX9_isRight 48 = .ok (.getfield 100, 3) := by decide +kernel
theorem dX9_isRight_51 : decode cX9_isRight 51 = .ok (.iload_n 2, 1) := by decide +kernel
theorem dX9_isRight_52 : decode cX9_isRight 52 = .ok (.imul, 1) := by decide +kernel
theorem dX9_isRight_53 : decode cX9_isRight 53 = .ok (.istore 8, 2) := by decide +kernel
theorem dX9_isRight_55 : decode cX9_isRight 55 = .ok (.aload_n 0, 1) := by decide +kernel
theorem dX9_isRight_56 : decode cX9_isRight 56 = .ok (.getfield 118, 3) := by decide +kernel
theorem dX9_isRight_59 : decode cX9_isRight 59 = .ok (.iload 8, 2) := by decide +kernel
theorem dX9_isRight_61 : decode cX9_isRight 61 = .ok (.iconst 1, 1) := by decide +kernel
theorem dX9_isRight_62 : decode cX9_isRight 62 = .ok (.iadd, 1) := by decide +kernel
theorem dX9_isRight_63 : decode cX9_isRight 63 = .ok (.iaload, 1) := by decide +kernel
theorem dX9_isRight_64 : decode cX9_isRight 64 = .ok (.istore 9, 2) := by decide +kernel
theorem dX9_isRight_66 : decode cX9_isRight 66 = .ok (.aload_n 0, 1) := by decide +kernel
theorem dX9_isRight_67 : decode cX9_isRight 67 = .ok (.iload_n 2, 1) := by decide +kernel
theorem dX9_isRight_68 : decode cX9_isRight 68 = .ok (.invokevirtual 243, 3) := by decide +kernel
theorem dX9_isRight_71 : decode cX9_isRight 71 = .ok (.aload_n 0, 1) := by decide +kernel
theorem dX9_isRight_72 : decode cX9_isRight 72 = .ok (.getfield 118, 3) := by decide +kernel
theorem dX9_isRight_75 : decode cX9_isRight 75 = .ok (.iload 8, 2) := by decide +kernel
theorem dX9_isRight_77 : decode cX9_isRight 77 = .ok (.aload_n 0, 1) := by decide +kernel
theorem dX9_isRight_78 : decode cX9_isRight 78 = .ok (.getfield 100, 3) := by decide +kernel
theorem dX9_isRight_81 : decode cX9_isRight 81 = .ok (.iadd, 1) := by decide +kernel
theorem dX9_isRight_82 : decode cX9_isRight 82 = .ok (.iconst 1, 1) := by decide +kernel
theorem dX9_isRight_83 : decode cX9_isRight 83 = .ok (.isub, 1) := by decide +kernel
theorem dX9_isRight_84 : decode cX9_isRight 84 = .ok (.iaload, 1) := by decide +kernel
theorem dX9_isRight_85 : decode cX9_isRight 85 = .ok (.if_icmp .eq 5, 3) := by decide +kernel
theorem dX9_isRight_88 : decode cX9_isRight 88 = .ok (.iconst 0, 1) := by decide +kernel
theorem dX9_isRight_89 : decode cX9_isRight 89 = .ok (.ireturn, 1) := by decide +kernel
theorem dX9_isRight_90 : decode cX9_isRight 90 = .ok (.aload_n 0, 1) := by decide +kernel
theorem dX9_isRight_91 : decode cX9_isRight 91 = .ok (.getfield 118, 3) := by decide +kernel
theorem dX9_isRight_94 : decode cX9_isRight 94 = .ok (.iload 8, 2) := by decide +kernel
theorem dX9_isRight_96 : decode cX9_isRight 96 = .ok (.iaload, 1) := by decide +kernel
theorem dX9_isRight_97 : decode cX9_isRight 97 = .ok (.iconst 1, 1) := by decide +kernel
theorem dX9_isRight_98 : decode cX9_isRight 98 = .ok (.if_icmp .ne 137, 3) := by decide +kernel
theorem dX9_isRight_101 : decode cX9_isRight 101 = .ok (.iload 9, 2) := by decide +kernel
theorem dX9_isRight_103 : decode cX9_isRight 103 = .ok (.iconst 1, 1) := by decide +kernel
theorem dX9_isRight_104 : decode cX9_isRight 104 = .ok (.if_icmp .lt 27, 3) := by decide +kernel
theorem dX9_isRight_107 : decode cX9_isRight 107 = .ok (.iload 9, 2) := by decide +kernel
theorem dX9_isRight_109 : decode cX9_isRight 109 = .ok (.aload_n 0, 1) := by decide +kernel
theorem dX9_isRight_110 : decode cX9_isRight 110 = .ok (.getfield 106, 3) := by decide +kernel
theorem dX9_isRight_113 : decode cX9_isRight 113 = .ok (.if_icmp .gt 18, 3) := by decide +kernel
theorem dX9_isRight_116 : decode cX9_isRight 116 = .ok (.aload_n 0, 1) := by decide +kernel
theorem dX9_isRight_117 : decode cX9_isRight 117 = .ok (.getfield 246, 3) := by decide +kernel
theorem dX9_isRight_120 : decode cX9_isRight 120 = .ok (.ifCond .eq 13, 3) := by decide +kernel
theorem dX9_isRight_123 : decode cX9_isRight 123 = .ok (.aload_n 0, 1) := by decide +kernel
theorem dX9_isRight_124 : decode cX9_isRight 124 = .ok (.getfield 246, 3) := by decide +kernel
theorem dX9_isRight_127 : decode cX9_isRight 127 = .ok (.iload_n 3, 1) := by decide +kernel
theorem dX9_isRight_128 : decode cX9_isRight 128 = .ok (.if_icmp .eq 5, 3) := by decide +kernel
theorem dX9_isRight_131 : decode cX9_isRight 131 = .ok (.iconst 0, 1) := by decide +kernel
theorem dX9_isRight_132 : decode cX9_isRight 132 = .ok (.ireturn, 1) := by decide +kernel
theorem dX9_isRight_133 : decode cX9_isRight 133 = .ok (.aload_n 0, 1) := by decide +kernel
theorem dX9_isRight_134 : decode cX9_isRight 134 = .ok (.iload_n 3, 1) := by decide +kernel
theorem dX9_isRight_135 : decode cX9_isRight 135 = .ok (.putfield 246, 3) := by decide +kernel
theorem dX9_isRight_138 : decode cX9_isRight 138 = .ok (.iconst 0, 1) := by decide +kernel
theorem dX9_isRight_139 : decode cX9_isRight 139 = .ok (.istore 10, 2) := by decide +kernel
theorem dX9_isRight_141 : decode cX9_isRight 141 = .ok (.iload 10, 2) := by decide +kernel
theorem dX9_isRight_143 : decode cX9_isRight 143 = .ok (.iload 9, 2) := by decide +kernel
theorem dX9_isRight_145 : decode cX9_isRight 145 = .ok (.if_icmp .ge 88, 3) := by decide +kernel
theorem dX9_isRight_148 : decode cX9_isRight 148 = .ok (.aload_n 0, 1) := by decide +kernel
theorem dX9_isRight_149 : decode cX9_isRight 149 = .ok (.getfield 118, 3) := by decide +kernel
theorem dX9_isRight_152 : decode cX9_isRight 152 = .ok (.iload 8, 2) := by decide +kernel
theorem dX9_isRight_154 : decode cX9_isRight 154 = .ok (.iconst 2, 1) := by decide +kernel
theorem dX9_isRight_155 : decode cX9_isRight 155 = .ok (.iadd, 1) := by decide +kernel
theorem dX9_isRight_156 : decode cX9_isRight 156 = .ok (.iconst 2, 1) := by decide +kernel
theorem dX9_isRight_157 : decode cX9_isRight 157 = .ok (.iload 10, 2) := by decide +kernel
theorem dX9_isRight_159 : decode cX9_isRight 159 = .ok (.imul, 1) := by decide +kernel
theorem dX9_isRight_160 : decode cX9_isRight 160 = .ok (.iadd, 1) := by decide +kernel
theorem dX9_isRight_161 : decode cX9_isRight 161 = .ok (.iaload, 1) := by decide +kernel
theorem dX9_isRight_162 : decode cX9_isRight 162 = .ok (.istore 11, 2) := by decide +kernel
theorem dX9_isRight_164 : decode cX9_isRight 164 = .ok (.aload_n 0, 1) := by decide +kernel
theorem dX9_isRight_165 : decode cX9_isRight 165 = .ok (.getfield 249, 3) := by decide +kernel
theorem dX9_isRight_168 : decode cX9_isRight 168 = .ok (.ifCond .eq 12, 3) := by decide +kernel
theorem dX9_isRight_171 : decode cX9_isRight 171 = .ok (.iload 11, 2) := by decide +kernel
theorem dX9_isRight_173 : decode cX9_isRight 173 = .ok (.aload_n 0, 1) := by decide +kernel
theorem dX9_isRight_174 : decode cX9_isRight 174 = .ok (.getfield 252, 3) := by decide +kernel
theorem dX9_isRight_177 : decode cX9_isRight 177 = .ok (.if_icmp .le 27, 3) := by decide +kernel
theorem dX9_isRight_180 : decode cX9_isRight 180 = .ok (.iload 4, 2) := by decide +kernel
theorem dX9_isRight_182 : decode cX9_isRight 182 = .ok (.ifCond .eq 10, 3) := by decide +kernel
theorem dX9_isRight_185 : decode cX9_isRight 185 = .ok (.iload 11, 2) := by decide +kernel
theorem dX9_isRight_187 : decode cX9_isRight 187 = .ok (.iload 5, 2) := by decide +kernel
theorem dX9_isRight_189 : decode cX9_isRight 189 = .ok (.if_icmp .lt 15, 3) := by decide +kernel
theorem dX9_isRight_192 : decode cX9_isRight 192 = .ok (.iload 6, 2) := by decide +kernel
theorem dX9_isRight_194 : decode cX9_isRight 194 = .ok (.ifCond .eq 12, 3) := by decide +kernel
theorem dX9_isRight_197 : decode cX9_isRight 197 = .ok (.iload 11, 2) := by decide +kernel
theorem dX9_isRight_199 : decode cX9_isRight 199 = .ok (.iload 7, 2) := by decide +kernel
theorem dX9_isRight_201 : decode cX9_isRight 201 = .ok (.if_icmp .lt 5, 3) := by decide +kernel
theorem dX9_isRight_204 : decode cX9_isRight 204 = .ok (.iconst 0, 1) := by decide +kernel
theorem dX9_isRight_205 : decode cX9_isRight 205 = .ok (.ireturn, 1) := by decide +kernel
theorem dX9_isRight_206 : decode cX9_isRight 206 = .ok (.aload_n 0, 1) := by decide +kernel
theorem dX9_isRight_207 : decode cX9_isRight 207 = .ok (.iconst 1, 1) := by decide +kernel
theorem dX9_isRight_208 : decode cX9_isRight 208 = .ok (.putfield 249, 3) := by decide +kernel
theorem dX9_isRight_211 : decode cX9_isRight 211 = .ok (.aload_n 0, 1) := by decide +kernel
theorem dX9_isRight_212 : decode cX9_isRight 212 = .ok (.iload 11, 2) := by decide +kernel
theorem dX9_isRight_214 : decode cX9_isRight 214 = .ok (.putfield 252, 3) := by decide +kernel
theorem dX9_isRight_217 : decode cX9_isRight 217 = .ok (.aload_n 0, 1) := by decide +kernel
theorem dX9_isRight_218 : decode cX9_isRight 218 = .ok (.dup, 1) := by decide +kernel
theorem dX9_isRight_219 : decode cX9_isRight 219 = .ok (.getfield 255, 3) := by decide +kernel
theorem dX9_isRight_222 : decode cX9_isRight 222 = .ok (.iconst 1, 1) := by decide +kernel
theorem dX9_isRight_223 : decode cX9_isRight 223 = .ok (.iadd, 1) := by decide +kernel
theorem dX9_isRight_224 : decode cX9_isRight 224 = .ok (.putfield 255, 3) := by decide +kernel
theorem dX9_isRight_227 : decode cX9_isRight 227 = .ok (.iinc 10 1, 3) := by decide +kernel
theorem dX9_isRight_230 : decode cX9_isRight 230 = .ok (.goto (-89), 3) := by decide +kernel
theorem dX9_isRight_233 : decode cX9_isRight 233 = .ok (.iconst 1, 1) := by decide +kernel
theorem dX9_isRight_234 : decode cX9_isRight 234 = .ok (.ireturn, 1) := by decide +kernel
theorem dX9_isRight_235 : decode cX9_isRight 235 = .ok (.aload_n 0, 1) := by decide +kernel
theorem dX9_isRight_236 : decode cX9_isRight 236 = .ok (.getfield 118, 3) := by decide +kernel
theorem dX9_isRight_239 : decode cX9_isRight 239 = .ok (.iload 8, 2) := by decide +kernel
theorem dX9_isRight_241 : decode cX9_isRight 241 = .ok (.iaload, 1) := by decide +kernel
theorem dX9_isRight_242 : decode cX9_isRight 242 = .ok (.iconst 2, 1) := by decide +kernel
theorem dX9_isRight_243 : decode cX9_isRight 243 = .ok (.if_icmp .ne 18, 3) := by decide +kernel
theorem dX9_isRight_246 : decode cX9_isRight 246 = .ok (.iload 9, 2) := by decide +kernel
theorem dX9_isRight_248 : decode cX9_isRight 248 = .ok (.iconst 2, 1) := by decide +kernel
theorem dX9_isRight_249 : decode cX9_isRight 249 = .ok (.if_icmp .lt 12, 3) := by decide +kernel
theorem dX9_isRight_252 : decode cX9_isRight 252 = .ok (.iload 9, 2) := by decide +kernel
theorem dX9_isRight_254 : decode cX9_isRight 254 = .ok (.aload_n 0, 1) := by decide +kernel
theorem dX9_isRight_255 : decode cX9_isRight 255 = .ok (.getfield 109, 3) := by decide +kernel
theorem dX9_isRight_258 : decode cX9_isRight 258 = .ok (.if_icmp .le 5, 3) := by decide +kernel
theorem dX9_isRight_261 : decode cX9_isRight 261 = .ok (.iconst 0, 1) := by decide +kernel
theorem dX9_isRight_262 : decode cX9_isRight 262 = .ok (.ireturn, 1) := by decide +kernel
theorem dX9_isRight_263 : decode cX9_isRight 263 = .ok (.iconst 0, 1) := by decide +kernel
theorem dX9_isRight_264 : decode cX9_isRight 264 = .ok (.istore 10, 2) := by decide +kernel
theorem dX9_isRight_266 : decode cX9_isRight 266 = .ok (.iload 10, 2) := by decide +kernel
theorem dX9_isRight_268 : decode cX9_isRight 268 = .ok (.iload 9, 2) := by decide +kernel
theorem dX9_isRight_270 : decode cX9_isRight 270 = .ok (.if_icmp .ge 160, 3) := by decide +kernel
theorem dX9_isRight_273 : decode cX9_isRight 273 = .ok (.iload 4, 2) := by decide +kernel
theorem dX9_isRight_275 : decode cX9_isRight 275 = .ok (.istore 11, 2) := by decide +kernel
theorem dX9_isRight_277 : decode cX9_isRight 277 = .ok (.iload 5, 2) := by decide +kernel
theorem dX9_isRight_279 : decode cX9_isRight 279 = .ok (.istore 12, 2) := by decide +kernel
theorem dX9_isRight_281 : decode cX9_isRight 281 = .ok (.iload 10, 2) := by decide +kernel
theorem dX9_isRight_283 : decode cX9_isRight 283 = .ok (.ifCond .le 46, 3) := by decide +kernel
theorem dX9_isRight_286 : decode cX9_isRight 286 = .ok (.iload 11, 2) := by decide +kernel
theorem dX9_isRight_288 : decode cX9_isRight 288 = .ok (.ifCond .eq 22, 3) := by decide +kernel
theorem dX9_isRight_291 : decode cX9_isRight 291 = .ok (.aload_n 0, 1) := by decide +kernel
theorem dX9_isRight_292 : decode cX9_isRight 292 = .ok (.getfield 118, 3) := by decide +kernel
theorem dX9_isRight_295 : decode cX9_isRight 295 = .ok (.iload 8, 2) := by decide +kernel
theorem dX9_isRight_297 : decode cX9_isRight 297 = .ok (.iconst 1, 1) := by decide +kernel
theorem dX9_isRight_298 : decode cX9_isRight 298 = .ok (.iadd, 1) := by decide +kernel
theorem dX9_isRight_299 : decode cX9_isRight 299 = .ok (.iconst 2, 1) := by decide +kernel
theorem dX9_isRight_300 : decode cX9_isRight 300 = .ok (.iload 10, 2) := by decide +kernel
theorem dX9_isRight_302 : decode cX9_isRight 302 = .ok (.imul, 1) := by decide +kernel
theorem dX9_isRight_303 : decode cX9_isRight 303 = .ok (.iadd, 1) := by decide +kernel
theorem dX9_isRight_304 : decode cX9_isRight 304 = .ok (.iaload, 1) := by decide +kernel
theorem dX9_isRight_305 : decode cX9_isRight 305 = .ok (.iload 12, 2) := by decide +kernel
theorem dX9_isRight_307 : decode cX9_isRight 307 = .ok (.if_icmp .le 22, 3) := by decide +kernel
theorem dX9_isRight_310 : decode cX9_isRight 310 = .ok (.iconst 1, 1) := by decide +kernel
theorem dX9_isRight_311 : decode cX9_isRight 311 = .ok (.istore 11, 2) := by decide +kernel
theorem dX9_isRight_313 : decode cX9_isRight 313 = .ok (.aload_n 0, 1) := by decide +kernel
theorem dX9_isRight_314 : decode cX9_isRight 314 = .ok (.getfield 118, 3) := by decide +kernel
theorem dX9_isRight_317 : decode cX9_isRight 317 = .ok (.iload 8, 2) := by decide +kernel
theorem dX9_isRight_319 : decode cX9_isRight 319 = .ok (.iconst 1, 1) := by decide +kernel
theorem dX9_isRight_320 : decode cX9_isRight 320 = .ok (.iadd, 1) := by decide +kernel
theorem dX9_isRight_321 : decode cX9_isRight 321 = .ok (.iconst 2, 1) := by decide +kernel
theorem dX9_isRight_322 : decode cX9_isRight 322 = .ok (.iload 10, 2) := by decide +kernel
theorem dX9_isRight_324 : decode cX9_isRight 324 = .ok (.imul, 1) := by decide +kernel
theorem dX9_isRight_325 : decode cX9_isRight 325 = .ok (.iadd, 1) := by decide +kernel
theorem dX9_isRight_326 : decode cX9_isRight 326 = .ok (.iaload, 1) := by decide +kernel
theorem dX9_isRight_327 : decode cX9_isRight 327 = .ok (.istore 12, 2) := by decide +kernel
theorem dX9_isRight_329 : decode cX9_isRight 329 = .ok (.iload 6, 2) := by decide +kernel
theorem dX9_isRight_331 : decode cX9_isRight 331 = .ok (.istore 13, 2) := by decide +kernel
theorem dX9_isRight_333 : decode cX9_isRight 333 = .ok (.iload 7, 2) := by decide +kernel
theorem dX9_isRight_335 : decode cX9_isRight 335 = .ok (.istore 14, 2) := by decide +kernel
theorem dX9_isRight_337 : decode cX9_isRight 337 = .ok (.iload 10, 2) := by decide +kernel
theorem dX9_isRight_339 : decode cX9_isRight 339 = .ok (.iconst 1, 1) := by decide +kernel
theorem dX9_isRight_340 : decode cX9_isRight 340 = .ok (.iadd, 1) := by decide +kernel
theorem dX9_isRight_341 : decode cX9_isRight 341 = .ok (.iload 9, 2) := by decide +kernel
theorem dX9_isRight_343 : decode cX9_isRight 343 = .ok (.if_icmp .ge 46, 3) := by decide +kernel
theorem dX9_isRight_346 : decode cX9_isRight 346 = .ok (.iload 13, 2) := by decide +kernel
theorem dX9_isRight_348 : decode cX9_isRight 348 = .ok (.ifCond .eq 22, 3) := by decide +kernel
theorem dX9_isRight_351 : decode cX9_isRight 351 = .ok (.aload_n 0, 1) := by decide +kernel
theorem dX9_isRight_352 : decode cX9_isRight 352 = .ok (.getfield 118, 3) := by decide +kernel
theorem dX9_isRight_355 : decode cX9_isRight 355 = .ok (.iload 8, 2) := by decide +kernel
theorem dX9_isRight_357 : decode cX9_isRight 357 = .ok (.iconst 3, 1) := by decide +kernel
theorem dX9_isRight_358 : decode cX9_isRight 358 = .ok (.iadd, 1) := by decide +kernel
theorem dX9_isRight_359 : decode cX9_isRight 359 = .ok (.iconst 2, 1) := by decide +kernel
theorem dX9_isRight_360 : decode cX9_isRight 360 = .ok (.iload 10, 2) := by decide +kernel
theorem dX9_isRight_362 : decode cX9_isRight 362 = .ok (.imul, 1) := by decide +kernel
theorem dX9_isRight_363 : decode cX9_isRight 363 = .ok (.iadd, 1) := by decide +kernel
theorem dX9_isRight_364 : decode cX9_isRight 364 = .ok (.iaload, 1) := by decide +kernel
theorem dX9_isRight_365 : decode cX9_isRight 365 = .ok (.iload 14, 2) := by decide +kernel
theorem dX9_isRight_367 : decode cX9_isRight 367 = .ok (.if_icmp .ge 22, 3) := by decide +kernel
theorem dX9_isRight_370 : decode cX9_isRight 370 = .ok (.iconst 1, 1) := by decide +kernel
theorem dX9_isRight_371 : decode cX9_isRight 371 = .ok (.istore 13, 2) := by decide +kernel
theorem dX9_isRight_373 : decode cX9_isRight 373 = .ok (.aload_n 0, 1) := by decide +kernel
theorem dX9_isRight_374 : decode cX9_isRight 374 = .ok (.getfield 118, 3) := by decide +kernel
theorem dX9_isRight_377 : decode cX9_isRight 377 = .ok (.iload 8, 2) := by decide +kernel
theorem dX9_isRight_379 : decode cX9_isRight 379 = .ok (.iconst 3, 1) := by decide +kernel
theorem dX9_isRight_380 : decode cX9_isRight 380 = .ok (.iadd, 1) := by decide +kernel
theorem dX9_isRight_381 : decode cX9_isRight 381 = .ok (.iconst 2, 1) := by decide +kernel
theorem dX9_isRight_382 : decode cX9_isRight 382 = .ok (.iload 10, 2) := by decide +kernel
theorem dX9_isRight_384 : decode cX9_isRight 384 = .ok (.imul, 1) := by decide +kernel
theorem dX9_isRight_385 : decode cX9_isRight 385 = .ok (.iadd, 1) := by decide +kernel
theorem dX9_isRight_386 : decode cX9_isRight 386 = .ok (.iaload, 1) := by decide +kernel
theorem dX9_isRight_387 : decode cX9_isRight 387 = .ok (.istore 14, 2) := by decide +kernel
theorem dX9_isRight_389 : decode cX9_isRight 389 = .ok (.aload_n 0, 1) := by decide +kernel
theorem dX9_isRight_390 : decode cX9_isRight 390 = .ok (.iload_n 1, 1) := by decide +kernel
theorem dX9_isRight_391 : decode cX9_isRight 391 = .ok (.aload_n 0, 1) := by decide +kernel
theorem dX9_isRight_392 : decode cX9_isRight 392 = .ok (.getfield 118, 3) := by decide +kernel
theorem dX9_isRight_395 : decode cX9_isRight 395 = .ok (.iload 8, 2) := by decide +kernel
theorem dX9_isRight_397 : decode cX9_isRight 397 = .ok (.iconst 2, 1) := by decide +kernel
theorem dX9_isRight_398 : decode cX9_isRight 398 = .ok (.iadd, 1) := by decide +kernel
theorem dX9_isRight_399 : decode cX9_isRight 399 = .ok (.iconst 2, 1) := by decide +kernel
theorem dX9_isRight_400 : decode cX9_isRight 400 = .ok (.iload 10, 2) := by decide +kernel
theorem dX9_isRight_402 : decode cX9_isRight 402 = .ok (.imul, 1) := by decide +kernel
theorem dX9_isRight_403 : decode cX9_isRight 403 = .ok (.iadd, 1) := by decide +kernel
theorem dX9_isRight_404 : decode cX9_isRight 404 = .ok (.iaload, 1) := by decide +kernel
theorem dX9_isRight_405 : decode cX9_isRight 405 = .ok (.iload_n 3, 1) := by decide +kernel
theorem dX9_isRight_406 : decode cX9_isRight 406 = .ok (.iconst 1, 1) := by decide +kernel
theorem dX9_isRight_407 : decode cX9_isRight 407 = .ok (.iadd, 1) := by decide +kernel
theorem dX9_isRight_408 : decode cX9_isRight 408 = .ok (.iload 11, 2) := by decide +kernel
theorem dX9_isRight_410 : decode cX9_isRight 410 = .ok (.iload 12, 2) := by decide +kernel
theorem dX9_isRight_412 : decode cX9_isRight 412 = .ok (.iload 13, 2) := by decide +kernel
theorem dX9_isRight_414 : decode cX9_isRight 414 = .ok (.iload 14, 2) := by decide +kernel
theorem dX9_isRight_416 : decode cX9_isRight 416 = .ok (.invokevirtual 258, 3) := by decide +kernel
theorem dX9_isRight_419 : decode cX9_isRight 419 = .ok (.ifCond .ne 5, 3) := by decide +kernel
theorem dX9_isRight_422 : decode cX9_isRight 422 = .ok (.iconst 0, 1) := by decide +kernel
theorem dX9_isRight_423 : decode cX9_isRight 423 = .ok (.ireturn, 1) := by decide +kernel
theorem dX9_isRight_424 : decode cX9_isRight 424 = .ok (.iinc 10 1, 3) := by decide +kernel
theorem dX9_isRight_427 : decode cX9_isRight 427 = .ok (.goto (-161), 3) := by decide +kernel
theorem dX9_isRight_430 : decode cX9_isRight 430 = .ok (.iconst 1, 1) := by decide +kernel
theorem dX9_isRight_431 : decode cX9_isRight 431 = .ok (.ireturn, 1) := by decide +kernel
theorem dX9_isRightRoot_0 : decode cX9_isRightRoot 0 = .ok (.iconst 0, 1) := by decide +kernel
theorem dX9_isRightRoot_1 : decode cX9_isRightRoot 1 = .ok (.istore_n 2, 1) := by decide +kernel
theorem dX9_isRightRoot_2 : decode cX9_isRightRoot 2 = .ok (.iload_n 2, 1) := by decide +kernel
theorem dX9_isRightRoot_3 : decode cX9_isRightRoot 3 = .ok (.bipush 120, 2) := by decide +kernel
theorem dX9_isRightRoot_5 : decode cX9_isRightRoot 5 = .ok (.if_icmp .ge 21, 3) := by decide +kernel
theorem dX9_isRightRoot_8 : decode cX9_isRightRoot 8 = .ok (.aload_n 0, 1) := by decide +kernel
theorem dX9_isRightRoot_9 : decode cX9_isRightRoot 9 = .ok (.getfield 55, 3) := by decide +kernel
theorem dX9_isRightRoot_12 : decode cX9_isRightRoot 12 = .ok (.bipush 120, 2) := by decide +kernel
theorem dX9_isRightRoot_14 : decode cX9_isRightRoot 14 = .ok (.iload_n 1, 1) := by decide +kernel
theorem dX9_isRightRoot_15 : decode cX9_isRightRoot 15 = .ok (.imul, 1) := by decide +kernel
theorem dX9_isRightRoot_16 : decode cX9_isRightRoot 16 = .ok (.iload_n 2, 1) := by decide +kernel
theorem dX9_isRightRoot_17 : decode cX9_isRightRoot 17 = .ok (.iadd, 1) := by decide +kernel
theorem dX9_isRightRoot_18 : decode cX9_isRightRoot 18 = .ok (.iconst 0, 1) := by decide +kernel
theorem dX9_isRightRoot_19 : decode cX9_isRightRoot 19 = .ok (.bastore, 1) := by decide +kernel
theorem dX9_isRightRoot_20 : decode cX9_isRightRoot 20 = .ok (.iinc 2 1, 3) := by decide +kernel
theorem dX9_isRightRoot_23 : decode cX9_isRightRoot 23 = .ok (.goto (-21), 3) := by decide +kernel
theorem dX9_isRightRoot_26 : decode cX9_isRightRoot 26 = .ok (.aload_n 0, 1) := by decide +kernel
theorem dX9_isRightRoot_27 : decode cX9_isRightRoot 27 = .ok (.iconst 0, 1) := by decide +kernel
theorem dX9_isRightRoot_28 : decode cX9_isRightRoot 28 = .ok (.putfield 246, 3) := by decide +kernel
theorem dX9_isRightRoot_31 : decode cX9_isRightRoot 31 = .ok (.aload_n 0, 1) := by decide +kernel
theorem dX9_isRightRoot_32 : decode cX9_isRightRoot 32 = .ok (.iconst 0, 1) := by decide +kernel
theorem dX9_isRightRoot_33 : decode cX9_isRightRoot 33 = .ok (.putfield 255, 3) := by decide +kernel
theorem dX9_isRightRoot_36 : decode cX9_isRightRoot 36 = .ok (.aload_n 0, 1) := by decide +kernel
theorem dX9_isRightRoot_37 : decode cX9_isRightRoot 37 = .ok (.iconst 0, 1) := by decide +kernel
theorem dX9_isRightRoot_38 : decode cX9_isRightRoot 38 = .ok (.putfield 249, 3) := by decide +kernel
theorem dX9_isRightRoot_41 : decode cX9_isRightRoot 41 = .ok (.aload_n 0, 1) := by decide +kernel
theorem dX9_isRightRoot_42 : decode cX9_isRightRoot 42 = .ok (.getfield 100, 3) := by decide +kernel
theorem dX9_isRightRoot_45 : decode cX9_isRightRoot 45 = .ok (.iload_n 1, 1) := by decide +kernel
theorem dX9_isRightRoot_46 : decode cX9_isRightRoot 46 = .ok (.imul, 1) := by decide +kernel
theorem dX9_isRightRoot_47 : decode cX9_isRightRoot 47 = .ok (.istore_n 2, 1) := by decide +kernel
theorem dX9_isRightRoot_48 : decode cX9_isRightRoot 48 = .ok (.aload_n 0, 1) := by decide +kernel
theorem dX9_isRightRoot_49 : decode cX9_isRightRoot 49 = .ok (.getfield 118, 3) := by decide +kernel
theorem dX9_isRightRoot_52 : decode cX9_isRightRoot 52 = .ok (.iload_n 2, 1) := by decide +kernel
theorem dX9_isRightRoot_53 : decode cX9_isRightRoot 53 = .ok (.iaload, 1) := by decide +kernel
theorem dX9_isRightRoot_54 : decode cX9_isRightRoot 54 = .ok (.ldc 136, 2) := by decide +kernel
theorem dX9_isRightRoot_56 : decode cX9_isRightRoot 56 = .ok (.if_icmp .ne 24, 3) := by decide +kernel
theorem dX9_isRightRoot_59 : decode cX9_isRightRoot 59 = .ok (.aload_n 0, 1) := by decide +kernel
theorem dX9_isRightRoot_60 : decode cX9_isRightRoot 60 = .ok (.iload_n 1, 1) := by decide +kernel
theorem dX9_isRightRoot_61 : decode cX9_isRightRoot 61 = .ok (.invokevirtual 243, 3) := by decide +kernel
theorem dX9_isRightRoot_64 : decode cX9_isRightRoot 64 = .ok (.aload_n 0, 1) := by decide +kernel
theorem dX9_isRightRoot_65 : decode cX9_isRightRoot 65 = .ok (.getfield 118, 3) := by decide +kernel
theorem dX9_isRightRoot_68 : decode cX9_isRightRoot 68 = .ok (.iload_n 2, 1) := by decide +kernel
theorem dX9_isRightRoot_69 : decode cX9_isRightRoot 69 = .ok (.aload_n 0, 1) := by decide +kernel
theorem dX9_isRightRoot_70 : decode cX9_isRightRoot 70 = .ok (.getfield 100, 3) := by decide +kernel
theorem dX9_isRightRoot_73 : decode cX9_isRightRoot 73 = .ok (.iadd, 1) := by decide +kernel
theorem dX9_isRightRoot_74 : decode cX9_isRightRoot 74 = .ok (.iconst 1, 1) := by decide +kernel
theorem dX9_isRightRoot_75 : decode cX9_isRightRoot 75 = .ok (.isub, 1) := by decide +kernel
theorem dX9_isRightRoot_76 : decode cX9_isRightRoot 76 = .ok (.iaload, 1) := by decide +kernel
theorem dX9_isRightRoot_77 : decode cX9_isRightRoot 77 = .ok (.if_icmp .eq 5, 3) := by decide +kernel
theorem dX9_isRightRoot_80 : decode cX9_isRightRoot 80 = .ok (.iconst 0, 1) := by decide +kernel
theorem dX9_isRightRoot_81 : decode cX9_isRightRoot 81 = .ok (.ireturn, 1) := by decide +kernel
theorem dX9_isRightRoot_82 : decode cX9_isRightRoot 82 = .ok (.aload_n 0, 1) := by decide +kernel
theorem dX9_isRightRoot_83 : decode cX9_isRightRoot 83 = .ok (.getfield 118, 3) := by decide +kernel
theorem dX9_isRightRoot_86 : decode cX9_isRightRoot 86 = .ok (.iload_n 2, 1) := by decide +kernel
theorem dX9_isRightRoot_87 : decode cX9_isRightRoot 87 = .ok (.iconst 2, 1) := by decide +kernel
theorem dX9_isRightRoot_88 : decode cX9_isRightRoot 88 = .ok (.iadd, 1) := by decide +kernel
theorem dX9_isRightRoot_89 : decode cX9_isRightRoot 89 = .ok (.iaload, 1) := by decide +kernel
theorem dX9_isRightRoot_90 : decode cX9_isRightRoot 90 = .ok (.ifCond .ne 20, 3) := by decide +kernel
theorem dX9_isRightRoot_93 : decode cX9_isRightRoot 93 = .ok (.aload_n 0, 1) := by decide +kernel
theorem dX9_isRightRoot_94 : decode cX9_isRightRoot 94 = .ok (.getfield 118, 3) := by decide +kernel
theorem dX9_isRightRoot_97 : decode cX9_isRightRoot 97 = .ok (.iload_n 2, 1) := by decide +kernel
theorem dX9_isRightRoot_98 : decode cX9_isRightRoot 98 = .ok (.iconst 3, 1) := by decide +kernel
theorem dX9_isRightRoot_99 : decode cX9_isRightRoot 99 = .ok (.iadd, 1) := by decide +kernel
theorem dX9_isRightRoot_100 : decode cX9_isRightRoot 100 = .ok (.iaload, 1) := by decide +kernel
theorem dX9_isRightRoot_101 : decode cX9_isRightRoot 101 = .ok (.ifCond .ne 7, 3) := by decide +kernel
theorem dX9_isRightRoot_104 : decode cX9_isRightRoot 104 = .ok (.iconst 1, 1) := by decide +kernel
theorem dX9_isRightRoot_105 : decode cX9_isRightRoot 105 = .ok (.goto 4, 3) := by decide +kernel
theorem dX9_isRightRoot_108 : decode cX9_isRightRoot 108 = .ok (.iconst 0, 1) := by decide +kernel
theorem dX9_isRightRoot_109 : decode cX9_isRightRoot 109 = .ok (.ireturn, 1) := by decide +kernel
theorem dX9_isRightRoot_110 : decode cX9_isRightRoot 110 = .ok (.aload_n 0, 1) := by decide +kernel
theorem dX9_isRightRoot_111 : decode cX9_isRightRoot 111 = .ok (.iload_n 1, 1) := by decide +kernel
theorem dX9_isRightRoot_112 : decode cX9_isRightRoot 112 = .ok (.aload_n 0, 1) := by decide +kernel
theorem dX9_isRightRoot_113 : decode cX9_isRightRoot 113 = .ok (.getfield 118, 3) := by decide +kernel
theorem dX9_isRightRoot_116 : decode cX9_isRightRoot 116 = .ok (.iload_n 2, 1) := by decide +kernel
theorem dX9_isRightRoot_117 : decode cX9_isRightRoot 117 = .ok (.iconst 2, 1) := by decide +kernel
theorem dX9_isRightRoot_118 : decode cX9_isRightRoot 118 = .ok (.iadd, 1) := by decide +kernel
theorem dX9_isRightRoot_119 : decode cX9_isRightRoot 119 = .ok (.iaload, 1) := by decide +kernel
theorem dX9_isRightRoot_120 : decode cX9_isRightRoot 120 = .ok (.iconst 1, 1) := by decide +kernel
theorem dX9_isRightRoot_121 : decode cX9_isRightRoot 121 = .ok (.iconst 0, 1) := by decide +kernel
theorem dX9_isRightRoot_122 : decode cX9_isRightRoot 122 = .ok (.iconst 0, 1) := by decide +kernel
theorem dX9_isRightRoot_123 : decode cX9_isRightRoot 123 = .ok (.iconst 0, 1) := by decide +kernel
theorem dX9_isRightRoot_124 : decode cX9_isRightRoot 124 = .ok (.iconst 0, 1) := by decide +kernel
theorem dX9_isRightRoot_125 : decode cX9_isRightRoot 125 = .ok (.invokevirtual 258, 3) := by decide +kernel
theorem dX9_isRightRoot_128 : decode cX9_isRightRoot 128 = .ok (.ifCond .eq 22, 3) := by decide +kernel
theorem dX9_isRightRoot_131 : decode cX9_isRightRoot 131 = .ok (.aload_n 0, 1) := by decide +kernel
theorem dX9_isRightRoot_132 : decode cX9_isRightRoot 132 = .ok (.getfield 118, 3) := by decide +kernel
theorem dX9_isRightRoot_135 : decode cX9_isRightRoot 135 = .ok (.iload_n 2, 1) := by decide +kernel
theorem dX9_isRightRoot_136 : decode cX9_isRightRoot 136 = .ok (.iconst 3, 1) := by decide +kernel
theorem dX9_isRightRoot_137 : decode cX9_isRightRoot 137 = .ok (.iadd, 1) := by decide +kernel
theorem dX9_isRightRoot_138 : decode cX9_isRightRoot 138 = .ok (.iaload, 1) := by decide +kernel
theorem dX9_isRightRoot_139 : decode cX9_isRightRoot 139 = .ok (.aload_n 0, 1) := by decide +kernel
theorem dX9_isRightRoot_140 : decode cX9_isRightRoot 140 = .ok (.getfield 255, 3) := by decide +kernel
theorem dX9_isRightRoot_143 : decode cX9_isRightRoot 143 = .ok (.if_icmp .ne 7, 3) := by decide +kernel
theorem dX9_isRightRoot_146 : decode cX9_isRightRoot 146 = .ok (.iconst 1, 1) := by decide +kernel
theorem dX9_isRightRoot_147 : decode cX9_isRightRoot 147 = .ok (.goto 4, 3) := by decide +kernel
theorem dX9_isRightRoot_150 : decode cX9_isRightRoot 150 = .ok (.iconst 0, 1) := by decide +kernel
theorem dX9_isRightRoot_151 : decode cX9_isRightRoot 151 = .ok (.ireturn, 1) := by decide +kernel
theorem dX9_sumOf_0 : decode cX9_sumOf 0 = .ok (.bipush 17, 2) := by decide +kernel
theorem dX9_sumOf_2 : decode cX9_sumOf 2 = .ok (.istore_n 2, 1) := by decide +kernel
theorem dX9_sumOf_3 : decode cX9_sumOf 3 = .ok (.iconst 0, 1) := by decide +kernel
theorem dX9_sumOf_4 : decode cX9_sumOf 4 = .ok (.istore_n 3, 1) := by decide +kernel
theorem dX9_sumOf_5 : decode cX9_sumOf 5 = .ok (.iload_n 3, 1) := by decide +kernel
theorem dX9_sumOf_6 : decode cX9_sumOf 6 = .ok (.aload_n 0, 1) := by decide +kernel
theorem dX9_sumOf_7 : decode cX9_sumOf 7 = .ok (.getfield 100, 3) := by decide +kernel
theorem dX9_sumOf_10 : decode cX9_sumOf 10 = .ok (.iconst 1, 1) := by decide +kernel
theorem dX9_sumOf_11 : decode cX9_sumOf 11 = .ok (.isub, 1) := by decide +kernel
theorem dX9_sumOf_12 : decode cX9_sumOf 12 = .ok (.if_icmp .ge 28, 3) := by decide +kernel
theorem dX9_sumOf_15 : decode cX9_sumOf 15 = .ok (.bipush 31, 2) := by decide +kernel
theorem dX9_sumOf_17 : decode cX9_sumOf 17 = .ok (.iload_n 2, 1) := by decide +kernel
theorem dX9_sumOf_18 : decode cX9_sumOf 18 = .ok (.imul, 1) := by decide +kernel
theorem dX9_sumOf_19 : decode cX9_sumOf 19 = .ok (.aload_n 0, 1) := by decide +kernel
theorem dX9_sumOf_20 : decode cX9_sumOf 20 = .ok (.getfield 118, 3) := by decide +kernel
theorem dX9_sumOf_23 : decode cX9_sumOf 23 = .ok (.aload_n 0, 1) := by decide +kernel
theorem dX9_sumOf_24 : decode cX9_sumOf 24 = .ok (.getfield 100, 3) := by decide +kernel
theorem dX9_sumOf_27 : decode cX9_sumOf 27 = .ok (.iload_n 1, 1) := by decide +kernel
theorem dX9_sumOf_28 : decode cX9_sumOf 28 = .ok (.imul, 1) := by decide +kernel
theorem dX9_sumOf_29 : decode cX9_sumOf 29 = .ok (.iload_n 3, 1) := by decide +kernel
theorem dX9_sumOf_30 : decode cX9_sumOf 30 = .ok (.iadd, 1) := by decide +kernel
theorem dX9_sumOf_31 : decode cX9_sumOf 31 = .ok (.iaload, 1) := by decide +kernel
theorem dX9_sumOf_32 : decode cX9_sumOf 32 = .ok (.iadd, 1) := by decide +kernel
theorem dX9_sumOf_33 : decode cX9_sumOf 33 = .ok (.istore_n 2, 1) := by decide +kernel
theorem dX9_sumOf_34 : decode cX9_sumOf 34 = .ok (.iinc 3 1, 3) := by decide +kernel
theorem dX9_sumOf_37 : decode cX9_sumOf 37 = .ok (.goto (-32), 3) := by decide +kernel
theorem dX9_sumOf_40 : decode cX9_sumOf 40 = .ok (.iload_n 2, 1) := by decide +kernel
theorem dX9_sumOf_41 : decode cX9_sumOf 41 = .ok (.ireturn, 1) := by decide +kernel
def v_X9_sumOf : List Cond := .code yX9_sumOf cX9_sumOf 4 (some .int) :: ([.fieldLink RX9 100 "TwinRootsModel" "words" "I", .fieldLink RX9 118 "TwinRootsModel" "disk" "[I"] ++ (wsX90 ++ ([])))
set_option maxHeartbeats 4000000 in
set_option maxRecDepth 100000 in
/-- X9_sumOf -/
theorem c_X9_sumOf (l : Launch) (dC : Nat → ClassId) (dI : Nat → Nat → Nat) (sz : Nat) (h0 : Nat) (w : Nat) (b : Nat) (lm : Nat) (cm : Nat) (li : Nat) (ci : Nat) (a_disk : Nat) (a_kind : Nat) (a_many : Nat) (a_block : Nat) (a_keys : Nat) (a_vals : Nat) (a_isFresh : Nat) (a_kindWas : Nat) (a_manyWas : Nat) (a_blockWas : Nat) (a_keysWas : Nat) (a_valsWas : Nat) (a_freshWas : Nat) (a_reached : Nat) (a_oldKeys : Nat) (a_oldVals : Nat) (a_allKeys : Nat) (a_allVals : Nat) (a_row : Nat) (a_written : Nat) (a_path : Nat) (a_place : Nat) (a_freeRow : Nat) (a_bothKeys : Nat) (a_bothVals : Nat) (v_isDown : Int32) (v_isArmed : Int32) (v_armedWrites : Int32) (v_armedWords : Int32) (v_writes : Int32) (v_root : Int32) (v_rootWas : Int32) (v_latest : Int32) (v_epoch : Int32) (v_oldMany : Int32) (v_allMany : Int32) (v_writtenMany : Int32) (v_depth : Int32) (v_isOther : Int32) (v_moved : Int32) (v_leafDepth : Int32) (v_found : Int32) (v_lastKey : Int32) (v_hasLast : Int32) (cI : ClassId) (d : Nat → Int32) (q0 : Nat) (zw0 : 12 ≤ w) (zw : w ≤ 40) (zb0 : 4 ≤ b) (zb : b ≤ 64) (zwb : w * b ≤ 2560) (zq : q0 < b) : Met l yX9_sumOf v_X9_sumOf ({ frames := 0, cells := 0, slots := 0, locals := 0 } : Room) (va_Pc [.ref h0, .int (nI q0)] (fun U => U.heap.size = sz ∧ va_P (dC, dI) vwCl [MO9 h0 (nI w) (nI b) (nI lm) (nI cm) (nI li) (nI ci) a_disk v_isDown v_isArmed v_armedWrites v_armedWords v_writes a_kind a_many a_block a_keys a_vals a_isFresh a_kindWas a_manyWas a_blockWas a_keysWas a_valsWas a_freshWas v_root v_rootWas v_latest v_epoch a_reached a_oldKeys a_oldVals a_allKeys a_allVals v_oldMany v_allMany a_row a_written v_writtenMany a_path a_place v_depth a_freeRow v_isOther v_moved a_bothKeys a_bothVals v_leafDepth v_found v_lastKey v_hasLast, MA9 a_disk cI (w * b) d] U.heap ∧ va_K (dC, dI) vwCl [(cI, .int)] U ∧ va_D (fun _ => True) [MO9 h0 (nI w) (nI b) (nI lm) (nI cm) (nI li) (nI ci) a_disk v_isDown v_isArmed v_armedWrites v_armedWords v_writes a_kind a_many a_block a_keys a_vals a_isFresh a_kindWas a_manyWas a_blockWas a_keysWas a_valsWas a_freshWas v_root v_rootWas v_latest v_epoch a_reached a_oldKeys a_oldVals a_allKeys a_allVals v_oldMany v_allMany a_row a_written v_writtenMany a_path a_place v_depth a_freeRow v_isOther v_moved a_bothKeys a_bothVals v_leafDepth v_found v_lastKey v_hasLast, MA9 a_disk cI (w * b) d])) (va_Qi (fun (r : Int32) (_ : Unit) => True) (fun (_ : Unit) (t : State) => va_P (dC, dI) vwCl [MO9 h0 (nI w) (nI b) (nI lm) (nI cm) (nI li) (nI ci) a_disk v_isDown v_isArmed v_armedWrites v_armedWords v_writes a_kind a_many a_block a_keys a_vals a_isFresh a_kindWas a_manyWas a_blockWas a_keysWas a_valsWas a_freshWas v_root v_rootWas v_latest v_epoch a_reached a_oldKeys a_oldVals a_allKeys a_allVals v_oldMany v_allMany a_row a_written v_writtenMany a_path a_place v_depth a_freeRow v_isOther v_moved a_bothKeys a_bothVals v_leafDepth v_found v_lastKey v_hasLast, MA9 a_disk cI (w * b) d] t.heap ∧ va_K (dC, dI) vwCl [(cI, .int)] t ∧ va_D (va_A [MO9 h0 (nI w) (nI b) (nI lm) (nI cm) (nI li) (nI ci) a_disk v_isDown v_isArmed v_armedWrites v_armedWords v_writes a_kind a_many a_block a_keys a_vals a_isFresh a_kindWas a_manyWas a_blockWas a_keysWas a_valsWas a_freshWas v_root v_rootWas v_latest v_epoch a_reached a_oldKeys a_oldVals a_allKeys a_allVals v_oldMany v_allMany a_row a_written v_writtenMany a_path a_place v_depth a_freeRow v_isOther v_moved a_bothKeys a_bothVals v_leafDepth v_found v_lastKey v_hasLast, MA9 a_disk cI (w * b) d] sz) [MO9 h0 (nI w) (nI b) (nI lm) (nI cm) (nI li) (nI ci) a_disk v_isDown v_isArmed v_armedWrites v_armedWords v_writes a_kind a_many a_block a_keys a_vals a_isFresh a_kindWas a_manyWas a_blockWas a_keysWas a_valsWas a_freshWas v_root v_rootWas v_latest v_epoch a_reached a_oldKeys a_oldVals a_allKeys a_allVals v_oldMany v_allMany a_row a_written v_writtenMany a_path a_place v_depth a_freeRow v_isOther v_moved a_bothKeys a_bothVals v_leafDepth v_found v_lastKey v_hasLast, MA9 a_disk cI (w * b) d]) (va_A [MO9 h0 (nI w) (nI b) (nI lm) (nI cm) (nI li) (nI ci) a_disk v_isDown v_isArmed v_armedWrites v_armedWords v_writes a_kind a_many a_block a_keys a_vals a_isFresh a_kindWas a_manyWas a_blockWas a_keysWas a_valsWas a_freshWas v_root v_rootWas v_latest v_epoch a_reached a_oldKeys a_oldVals a_allKeys a_allVals v_oldMany v_allMany a_row a_written v_writtenMany a_path a_place v_depth a_freeRow v_isOther v_moved a_bothKeys a_bothVals v_leafDepth v_found v_lastKey v_hasLast, MA9 a_disk cI (w * b) d] sz)) 0 0 (va_A [MO9 h0 (nI w) (nI b) (nI lm) (nI cm) (nI li) (nI ci) a_disk v_isDown v_isArmed v_armedWrites v_armedWords v_writes a_kind a_many a_block a_keys a_vals a_isFresh a_kindWas a_manyWas a_blockWas a_keysWas a_valsWas a_freshWas v_root v_rootWas v_latest v_epoch a_reached a_oldKeys a_oldVals a_allKeys a_allVals v_oldMany v_allMany a_row a_written v_writtenMany a_path a_place v_depth a_freeRow v_isOther v_moved a_bothKeys a_bothVals v_leafDepth v_found v_lastKey v_hasLast, MA9 a_disk cI (w * b) d] sz) := by
  refine Met.ofW (cc := cX9_sumOf) (maxL := 4) (ret := (some .int)) (by decide) rfl ?_
  intro p e s m args below meth c s₁ B hml hv
  obtain ⟨rfl, hsz, hP, hK, hD0⟩ := hv
  have hx := B.exec
  have hb := B.bytes
  have hr := B.returns
  have hts := atoms_spec (ws := v_X9_sumOf) B.pre
  have hown : s.vm.findClass RX9 = some m.cls := findClass_of_methodNamed B.named
  have hlocks := B.notSynchronized
  subst hsz
  have hD := hD0.self (sz := s.heap.size)
  generalize hAe : va_A [MO9 h0 (nI w) (nI b) (nI lm) (nI cm) (nI li) (nI ci) a_disk v_isDown v_isArmed v_armedWrites v_armedWords v_writes a_kind a_many a_block a_keys a_vals a_isFresh a_kindWas a_manyWas a_blockWas a_keysWas a_valsWas a_freshWas v_root v_rootWas v_latest v_epoch a_reached a_oldKeys a_oldVals a_allKeys a_allVals v_oldMany v_allMany a_row a_written v_writtenMany a_path a_place v_depth a_freeRow v_isOther v_moved a_bothKeys a_bothVals v_leafDepth v_found v_lastKey v_hasLast, MA9 a_disk cI (w * b) d] s.heap.size = A at hD ⊢
  have hA : ∀ q : Nat, s.heap.size ≤ q → A q := fun q h => by rw [← hAe]; exact Or.inr h
  have hS : va_S A s.heap s.heap [] := va_S.rf
  have hP : va_P (dC, dI) vwCl [MO9 h0 (nI w) (nI b) (nI lm) (nI cm) (nI li) (nI ci) a_disk v_isDown v_isArmed v_armedWrites v_armedWords v_writes a_kind a_many a_block a_keys a_vals a_isFresh a_kindWas a_manyWas a_blockWas a_keysWas a_valsWas a_freshWas v_root v_rootWas v_latest v_epoch a_reached a_oldKeys a_oldVals a_allKeys a_allVals v_oldMany v_allMany a_row a_written v_writtenMany a_path a_place v_depth a_freeRow v_isOther v_moved a_bothKeys a_bothVals v_leafDepth v_found v_lastKey v_hasLast, MA9 a_disk cI (w * b) d] s.heap := hP
  have hl := lv_entry ([.ref h0, .int (nI q0)]) (n := 4) (Nat.le_of_ble_eq_true rfl)
  rw [lg_entry_eq]
  generalize (lg_sl ([.ref h0, .int (nI q0)]) ++ List.replicate (4 - (lg_sl ([.ref h0, .int (nI q0)])).length) Slot.unset).toArray = ls at hl ⊢
  have hl : lv_has ls 4 [(0, .ref h0), (1, .int (nI q0))] := hl
  have k_1 := (fun _ h => List.mem_cons_of_mem _ (List.mem_append_right _ (List.mem_append_left _ h)) : ∀ w ∈ wsX90, w ∈ v_X9_sumOf)
  have k_2 := hts (.fieldLink RX9 100 "TwinRootsModel" "words" "I") (List.mem_of_getElem? (i := 1) rfl)
  have k_3 := hts (.fieldLink RX9 118 "TwinRootsModel" "disk" "[I") (List.mem_of_getElem? (i := 2) rfl)
  have hwq : w * q0 + w ≤ w * b := by have h9 := idx_g (w := w) (b := b) (q0 := q0) (i := w - 1) (by omega) (by omega); omega
  refine lv_bipush (v := 17) hx hb dX9_sumOf_0 (by decide) ?_
  refine lv_istore_n (lv' := [(2, .int 17), (0, .ref h0), (1, .int (nI q0))]) hx hb dX9_sumOf_2 rfl hl (by decide) rfl (fun ls hl9 => ?_)
  replace hl := hl9
  clear hl9
  refine lv_iconst (v := 0) hx hb dX9_sumOf_3 (by decide) ?_
  refine lv_istore_n (lv' := [(3, .int 0), (2, .int 17), (0, .ref h0), (1, .int (nI q0))]) hx hb dX9_sumOf_4 rfl hl (by decide) rfl (fun ls hl9 => ?_)
  replace hl := hl9
  clear hl9
  have loop_5 : ∀ (Q : State → Prop), (∀ (i : Nat) (sv : Int32) (H : Heap) (locs : List Loc) (ls : Array Slot), i ≤ w → va_P (dC, dI) vwCl [MO9 h0 (nI w) (nI b) (nI lm) (nI cm) (nI li) (nI ci) a_disk v_isDown v_isArmed v_armedWrites v_armedWords v_writes a_kind a_many a_block a_keys a_vals a_isFresh a_kindWas a_manyWas a_blockWas a_keysWas a_valsWas a_freshWas v_root v_rootWas v_latest v_epoch a_reached a_oldKeys a_oldVals a_allKeys a_allVals v_oldMany v_allMany a_row a_written v_writtenMany a_path a_place v_depth a_freeRow v_isOther v_moved a_bothKeys a_bothVals v_leafDepth v_found v_lastKey v_hasLast, MA9 a_disk cI (w * b) d] H → va_D A [MO9 h0 (nI w) (nI b) (nI lm) (nI cm) (nI li) (nI ci) a_disk v_isDown v_isArmed v_armedWrites v_armedWords v_writes a_kind a_many a_block a_keys a_vals a_isFresh a_kindWas a_manyWas a_blockWas a_keysWas a_valsWas a_freshWas v_root v_rootWas v_latest v_epoch a_reached a_oldKeys a_oldVals a_allKeys a_allVals v_oldMany v_allMany a_row a_written v_writtenMany a_path a_place v_depth a_freeRow v_isOther v_moved a_bothKeys a_bothVals v_leafDepth v_found v_lastKey v_hasLast, MA9 a_disk cI (w * b) d] → va_S A s.heap H locs → lv_has ls 4 [(0, .ref h0), (1, .int (nI q0)), (2, .int sv), (3, .int (nI i))] → W p l e (headSpec v_X9_sumOf ({ frames := 0, cells := 0, slots := 0, locals := 0 } : Room)).room s m ([.ref h0, .int (nI q0)] : List Value).toArray below meth c H locs 0 0 Q (F0 m 40 ls [])) → ∀ (nf i : Nat) (sv : Int32) (H : Heap) (locs : List Loc) (ls : Array Slot), i ≤ w → w + 1 ≤ i + nf → va_P (dC, dI) vwCl [MO9 h0 (nI w) (nI b) (nI lm) (nI cm) (nI li) (nI ci) a_disk v_isDown v_isArmed v_armedWrites v_armedWords v_writes a_kind a_many a_block a_keys a_vals a_isFresh a_kindWas a_manyWas a_blockWas a_keysWas a_valsWas a_freshWas v_root v_rootWas v_latest v_epoch a_reached a_oldKeys a_oldVals a_allKeys a_allVals v_oldMany v_allMany a_row a_written v_writtenMany a_path a_place v_depth a_freeRow v_isOther v_moved a_bothKeys a_bothVals v_leafDepth v_found v_lastKey v_hasLast, MA9 a_disk cI (w * b) d] H → va_D A [MO9 h0 (nI w) (nI b) (nI lm) (nI cm) (nI li) (nI ci) a_disk v_isDown v_isArmed v_armedWrites v_armedWords v_writes a_kind a_many a_block a_keys a_vals a_isFresh a_kindWas a_manyWas a_blockWas a_keysWas a_valsWas a_freshWas v_root v_rootWas v_latest v_epoch a_reached a_oldKeys a_oldVals a_allKeys a_allVals v_oldMany v_allMany a_row a_written v_writtenMany a_path a_place v_depth a_freeRow v_isOther v_moved a_bothKeys a_bothVals v_leafDepth v_found v_lastKey v_hasLast, MA9 a_disk cI (w * b) d] → va_S A s.heap H locs → lv_has ls 4 [(0, .ref h0), (1, .int (nI q0)), (2, .int sv), (3, .int (nI i))] → W p l e (headSpec v_X9_sumOf ({ frames := 0, cells := 0, slots := 0, locals := 0 } : Room)).room s m ([.ref h0, .int (nI q0)] : List Value).toArray below meth c H locs 0 0 Q (F0 m 5 ls []) := by
    intro Q kx nf
    induction nf with
    | zero =>
      intro i sv H locs ls h1 h2
      exact absurd h2 (by omega)
    | succ nf ih =>
      intro i sv H locs ls hi hn hP hD hS hl
      refine lv_iload_n hx hb dX9_sumOf_5 rfl (lv_at hl 3 rfl) ?_
      refine lv_aload_n hx hb dX9_sumOf_6 rfl (lv_at hl 0 rfl) ?_
      refine va_get (D := (dC, dI)) (ci := 9) (v := .int (nI w)) (C := RX9) (T := TX9) (N := 50) hx hb hts k_1 hown hK hP 0 rfl rfl 0 (by decide) k_2 (fun _ h9 => h9) rfl dX9_sumOf_7 ?_
      refine lv_iconst (v := 1) hx hb dX9_sumOf_10 (by decide) ?_
      refine lv_isub hx hb dX9_sumOf_11 ?_
      refine lv_topi (fun z_1 ez_1 => ?_)
      obtain rfl : z_1 = nI (w - 1) := ez_1.trans (pk_sub (a := w) (b := 1) (by omega))
      refine lv_icmp_ge (tgt := 40) hx hb dX9_sumOf_12 (by decide) (fun c_2 => ?_) (fun c_2 => ?_)
      · have n_c_2 : (w - 1) ≤ i := (nI_leI (a := w - 1) (b := i) (by omega) (by omega)).mp c_2
        exact kx i sv _ _ _ (by omega) hP hD hS (lv_sub hl [0, 1, 2, 3] rfl)
      · have n_c_2 : ¬ (w - 1) ≤ i := fun h9 => c_2 ((nI_leI (a := w - 1) (b := i) (by omega) (by omega)).mpr h9)
        refine lv_bipush (v := 31) hx hb dX9_sumOf_15 (by decide) ?_
        refine lv_iload_n hx hb dX9_sumOf_17 rfl (lv_at hl 2 rfl) ?_
        refine lv_imul hx hb dX9_sumOf_18 ?_
        refine lv_topi (fun z_3 _ => ?_)
        refine lv_aload_n hx hb dX9_sumOf_19 rfl (lv_at hl 0 rfl) ?_
        refine va_get (D := (dC, dI)) (ci := 9) (v := .ref a_disk) (C := RX9) (T := TX9) (N := 50) hx hb hts k_1 hown hK hP 0 rfl rfl 6 (by decide) k_3 (fun _ h9 => h9) rfl dX9_sumOf_20 ?_
        refine lv_aload_n hx hb dX9_sumOf_23 rfl (lv_at hl 0 rfl) ?_
        refine va_get (D := (dC, dI)) (ci := 9) (v := .int (nI w)) (C := RX9) (T := TX9) (N := 50) hx hb hts k_1 hown hK hP 0 rfl rfl 0 (by decide) k_2 (fun _ h9 => h9) rfl dX9_sumOf_24 ?_
        refine lv_iload_n hx hb dX9_sumOf_27 rfl (lv_at hl 1 rfl) ?_
        refine lv_imul hx hb dX9_sumOf_28 ?_
        refine lv_topi (fun z_4 ez_4 => ?_)
        obtain rfl : z_4 = nI (w * q0) := ez_4.trans (pk_mul w q0)
        refine lv_iload_n hx hb dX9_sumOf_29 rfl (lv_at hl 3 rfl) ?_
        refine lv_iadd hx hb dX9_sumOf_30 ?_
        refine lv_topi (fun z_5 ez_5 => ?_)
        obtain rfl : z_5 = nI (w * q0 + i) := ez_5.trans (nI_add (w * q0) i)
        refine va_iald hx hb hK hP 1 0 rfl rfl (show vp_in (nI (w * q0 + i)) (w * b) from vp_in_nI (by omega) (by omega)) dX9_sumOf_31 ?_
        refine lv_topi (fun z_6 ez_6 => ?_)
        obtain rfl : z_6 = d (w * q0 + i) := ez_6.trans (congrArg d (nI_clamp (by omega)))
        refine lv_iadd hx hb dX9_sumOf_32 ?_
        refine lv_topi (fun z_7 _ => ?_)
        refine lv_istore_n (lv' := [(2, .int z_7), (0, .ref h0), (1, .int (nI q0)), (3, .int (nI i))]) hx hb dX9_sumOf_33 rfl hl (by decide) rfl (fun ls hl9 => ?_)
        replace hl := hl9
        clear hl9
        refine lv_iinc (v := (nI (i + 1))) (lv' := [(3, .int (nI (i + 1))), (2, .int z_7), (0, .ref h0), (1, .int (nI q0))]) hx hb dX9_sumOf_34 hl (k := 3) rfl (nI_1 i) (by decide) rfl (fun ls hl9 => ?_)
        replace hl := hl9
        clear hl9
        refine lv_goto (tgt := 5) hx hb dX9_sumOf_37 (by decide) ?_
        exact ih (i + 1) z_7 _ _ _ (by omega) (by omega) hP hD hS (lv_sub hl [2, 3, 1, 0] rfl)
  refine loop_5 _ (fun i sv H locs ls hi hP hD hS hl => ?_) (w + 1) 0 17 _ _ _ (by omega) (by omega) hP hD hS (lv_sub hl [2, 3, 1, 0] rfl)
  refine lv_iload_n hx hb dX9_sumOf_40 rfl (lv_at hl 2 rfl) ?_
  have hP9 := hP.sub (ws' := [MO9 h0 (nI w) (nI b) (nI lm) (nI cm) (nI li) (nI ci) a_disk v_isDown v_isArmed v_armedWrites v_armedWords v_writes a_kind a_many a_block a_keys a_vals a_isFresh a_kindWas a_manyWas a_blockWas a_keysWas a_valsWas a_freshWas v_root v_rootWas v_latest v_epoch a_reached a_oldKeys a_oldVals a_allKeys a_allVals v_oldMany v_allMany a_row a_written v_writtenMany a_path a_place v_depth a_freeRow v_isOther v_moved a_bothKeys a_bothVals v_leafDepth v_found v_lastKey v_hasLast, MA9 a_disk cI (w * b) d]) [0, 1] rfl
  have hD9 := hD.sub (ws' := [MO9 h0 (nI w) (nI b) (nI lm) (nI cm) (nI li) (nI ci) a_disk v_isDown v_isArmed v_armedWrites v_armedWords v_writes a_kind a_many a_block a_keys a_vals a_isFresh a_kindWas a_manyWas a_blockWas a_keysWas a_valsWas a_freshWas v_root v_rootWas v_latest v_epoch a_reached a_oldKeys a_oldVals a_allKeys a_allVals v_oldMany v_allMany a_row a_written v_writtenMany a_path a_place v_depth a_freeRow v_isOther v_moved a_bothKeys a_bothVals v_leafDepth v_found v_lastKey v_hasLast, MA9 a_disk cI (w * b) d]) [0, 1] (by decide) rfl
  have hK9 := hK.sub (tys' := [(cI, .int)]) [0] rfl
  exact W.iret (v := sv) hx hb hr (fun t ht hW => ⟨⟨sv, (), rfl, trivial, by rw [ht]; exact hP9, va_K.moved hW.alike hK9, hD9⟩, hS.F ht⟩) hS.2.2 dX9_sumOf_41
def v_X9_isRight : List Cond := .code yX9_isRight cX9_isRight 15 (some .boolean) :: ([.fieldLink RX9 103 "TwinRootsModel" "blocks" "I", .fieldLink RX9 55 "TwinRootsModel" "reached" "[Z", .fieldLink RX9 100 "TwinRootsModel" "words" "I", .fieldLink RX9 118 "TwinRootsModel" "disk" "[I", .code yX9_sumOf cX9_sumOf 4 (some .int), .methodLink RX9 243 yX9_sumOf, .instanceMethod yX9_sumOf, .selects RX9 yX9_sumOf yX9_sumOf, .initialized RX9, .fieldLink RX9 109 "TwinRootsModel" "cmost" "I", .methodLink RX9 258 yX9_isRight, .instanceMethod yX9_isRight, .selects RX9 yX9_isRight yX9_isRight, .fieldLink RX9 106 "TwinRootsModel" "lmost" "I", .fieldLink RX9 246 "TwinRootsModel" "leafDepth" "I", .fieldLink RX9 249 "TwinRootsModel" "hasLast" "Z", .fieldLink RX9 252 "TwinRootsModel" "lastKey" "I", .fieldLink RX9 255 "TwinRootsModel" "found" "I"] ++ (wsX90 ++ ([])))
set_option maxRecDepth 20000 in
theorem g_X9_isRight_X9_sumOf : GoodIn v_X9_isRight (wsV RX9 243 RX9 yX9_sumOf v_X9_sumOf) := goodIn_r _ [6, 7, 8, 9, 5, 3, 4, 19, 20, 21, 22, 23, 24, 25, 26, 27, 28, 29, 30, 31, 32, 33, 34, 35, 36, 37, 38, 39, 40, 41, 42, 43, 44, 45, 46, 47, 48, 49, 50, 51, 52, 53, 54, 55, 56, 57, 58, 59, 60, 61, 62, 63, 64, 65, 66, 67, 68] (by decide +kernel) (by decide +kernel)
set_option maxRecDepth 20000 in
theorem g_X9_isRight_X9_isRight : GoodIn v_X9_isRight (wsV RX9 258 RX9 yX9_isRight v_X9_isRight) := goodIn_r _ [11, 12, 13, 9, 0, 1, 2, 3, 4, 5, 6, 7, 8, 9, 10, 11, 12, 13, 14, 15, 16, 17, 18, 19, 20, 21, 22, 23, 24, 25, 26, 27, 28, 29, 30, 31, 32, 33, 34, 35, 36, 37, 38, 39, 40, 41, 42, 43, 44, 45, 46, 47, 48, 49, 50, 51, 52, 53, 54, 55, 56, 57, 58, 59, 60, 61, 62, 63, 64, 65, 66, 67, 68] (by decide +kernel) (by decide +kernel)
set_option maxHeartbeats 4000000 in
set_option maxRecDepth 100000 in
/-- X9_isRight -/
theorem c_X9_isRight (l : Launch) (dC : Nat → ClassId) (dI : Nat → Nat → Nat) : ∀ (fu : Nat) (sz : Nat) (h0 : Nat) (w : Nat) (b : Nat) (lm : Nat) (cm : Nat) (li : Nat) (ci : Nat) (a_disk : Nat) (a_kind : Nat) (a_many : Nat) (a_block : Nat) (a_keys : Nat) (a_vals : Nat) (a_isFresh : Nat) (a_kindWas : Nat) (a_manyWas : Nat) (a_blockWas : Nat) (a_keysWas : Nat) (a_valsWas : Nat) (a_freshWas : Nat) (a_reached : Nat) (a_oldKeys : Nat) (a_oldVals : Nat) (a_allKeys : Nat) (a_allVals : Nat) (a_row : Nat) (a_written : Nat) (a_path : Nat) (a_place : Nat) (a_freeRow : Nat) (a_bothKeys : Nat) (a_bothVals : Nat) (v_isDown : Int32) (v_isArmed : Int32) (v_armedWrites : Int32) (v_armedWords : Int32) (v_writes : Int32) (v_root : Int32) (v_rootWas : Int32) (v_latest : Int32) (v_epoch : Int32) (v_oldMany : Int32) (v_allMany : Int32) (v_writtenMany : Int32) (v_depth : Int32) (v_isOther : Int32) (v_moved : Int32) (v_leafDepth : Int32) (v_found : Int32) (v_lastKey : Int32) (v_hasLast : Int32) (cI : ClassId) (cZ : ClassId) (d : Nat → Int32) (rc : Nat → Int32) (r0 : Nat) (dp : Nat) (p1 : Int32) (p3 : Int32) (p4 : Int32) (p5 : Int32) (p6 : Int32) (zw0 : 12 ≤ w) (zw : w ≤ 40) (zb0 : 4 ≤ b) (zb : b ≤ 64) (zwb : w * b ≤ 2560) (zlw : 2 * lm + 3 ≤ w) (zcw : 2 * cm + 2 ≤ w) (zlm : lm ≤ 18) (zcm : cm ≤ 19) (hr0 : r0 ≤ 1) (hdp : dp ≤ 13) (hfu : 14 ≤ dp + fu), Met l yX9_isRight v_X9_isRight ({ frames := fu + 2, cells := 0, slots := 0, locals := 200 * fu + 200 } : Room) (va_Pc [.ref h0, .int (nI r0), .int p1, .int (nI dp), .int p3, .int p4, .int p5, .int p6] (fun U => U.heap.size = sz ∧ va_P (dC, dI) vwCl [MO9 h0 (nI w) (nI b) (nI lm) (nI cm) (nI li) (nI ci) a_disk v_isDown v_isArmed v_armedWrites v_armedWords v_writes a_kind a_many a_block a_keys a_vals a_isFresh a_kindWas a_manyWas a_blockWas a_keysWas a_valsWas a_freshWas v_root v_rootWas v_latest v_epoch a_reached a_oldKeys a_oldVals a_allKeys a_allVals v_oldMany v_allMany a_row a_written v_writtenMany a_path a_place v_depth a_freeRow v_isOther v_moved a_bothKeys a_bothVals v_leafDepth v_found v_lastKey v_hasLast, MA9 a_disk cI (w * b) d, MA9 a_reached cZ 240 rc] U.heap ∧ va_K (dC, dI) vwCl [(cI, .int), (cZ, .boolean)] U ∧ va_D (fun _ => True) [MO9 h0 (nI w) (nI b) (nI lm) (nI cm) (nI li) (nI ci) a_disk v_isDown v_isArmed v_armedWrites v_armedWords v_writes a_kind a_many a_block a_keys a_vals a_isFresh a_kindWas a_manyWas a_blockWas a_keysWas a_valsWas a_freshWas v_root v_rootWas v_latest v_epoch a_reached a_oldKeys a_oldVals a_allKeys a_allVals v_oldMany v_allMany a_row a_written v_writtenMany a_path a_place v_depth a_freeRow v_isOther v_moved a_bothKeys a_bothVals v_leafDepth v_found v_lastKey v_hasLast, MA9 a_disk cI (w * b) d, MA9 a_reached cZ 240 rc])) (va_Qi (fun (r : Int32) (u : Int32 × Int32 × Int32 × Int32 × (Nat → Int32)) => match u with | (v_leafDepth2, v_found2, v_lastKey2, v_hasLast2, rc2) => IsR d w b lm cm r0 dp p1 rc rc2 v_leafDepth v_leafDepth2 r) (fun (u : Int32 × Int32 × Int32 × Int32 × (Nat → Int32)) (t : State) => match u with | (v_leafDepth2, v_found2, v_lastKey2, v_hasLast2, rc2) => va_P (dC, dI) vwCl [MO9 h0 (nI w) (nI b) (nI lm) (nI cm) (nI li) (nI ci) a_disk v_isDown v_isArmed v_armedWrites v_armedWords v_writes a_kind a_many a_block a_keys a_vals a_isFresh a_kindWas a_manyWas a_blockWas a_keysWas a_valsWas a_freshWas v_root v_rootWas v_latest v_epoch a_reached a_oldKeys a_oldVals a_allKeys a_allVals v_oldMany v_allMany a_row a_written v_writtenMany a_path a_place v_depth a_freeRow v_isOther v_moved a_bothKeys a_bothVals v_leafDepth2 v_found2 v_lastKey2 v_hasLast2, MA9 a_disk cI (w * b) d, MA9 a_reached cZ 240 rc2] t.heap ∧ va_K (dC, dI) vwCl [(cI, .int), (cZ, .boolean)] t ∧ va_D (va_A [MO9 h0 (nI w) (nI b) (nI lm) (nI cm) (nI li) (nI ci) a_disk v_isDown v_isArmed v_armedWrites v_armedWords v_writes a_kind a_many a_block a_keys a_vals a_isFresh a_kindWas a_manyWas a_blockWas a_keysWas a_valsWas a_freshWas v_root v_rootWas v_latest v_epoch a_reached a_oldKeys a_oldVals a_allKeys a_allVals v_oldMany v_allMany a_row a_written v_writtenMany a_path a_place v_depth a_freeRow v_isOther v_moved a_bothKeys a_bothVals v_leafDepth v_found v_lastKey v_hasLast, MA9 a_disk cI (w * b) d, MA9 a_reached cZ 240 rc] sz) [MO9 h0 (nI w) (nI b) (nI lm) (nI cm) (nI li) (nI ci) a_disk v_isDown v_isArmed v_armedWrites v_armedWords v_writes a_kind a_many a_block a_keys a_vals a_isFresh a_kindWas a_manyWas a_blockWas a_keysWas a_valsWas a_freshWas v_root v_rootWas v_latest v_epoch a_reached a_oldKeys a_oldVals a_allKeys a_allVals v_oldMany v_allMany a_row a_written v_writtenMany a_path a_place v_depth a_freeRow v_isOther v_moved a_bothKeys a_bothVals v_leafDepth2 v_found2 v_lastKey2 v_hasLast2, MA9 a_disk cI (w * b) d, MA9 a_reached cZ 240 rc2]) (va_A [MO9 h0 (nI w) (nI b) (nI lm) (nI cm) (nI li) (nI ci) a_disk v_isDown v_isArmed v_armedWrites v_armedWords v_writes a_kind a_many a_block a_keys a_vals a_isFresh a_kindWas a_manyWas a_blockWas a_keysWas a_valsWas a_freshWas v_root v_rootWas v_latest v_epoch a_reached a_oldKeys a_oldVals a_allKeys a_allVals v_oldMany v_allMany a_row a_written v_writtenMany a_path a_place v_depth a_freeRow v_isOther v_moved a_bothKeys a_bothVals v_leafDepth v_found v_lastKey v_hasLast, MA9 a_disk cI (w * b) d, MA9 a_reached cZ 240 rc] sz)) 0 0 (va_A [MO9 h0 (nI w) (nI b) (nI lm) (nI cm) (nI li) (nI ci) a_disk v_isDown v_isArmed v_armedWrites v_armedWords v_writes a_kind a_many a_block a_keys a_vals a_isFresh a_kindWas a_manyWas a_blockWas a_keysWas a_valsWas a_freshWas v_root v_rootWas v_latest v_epoch a_reached a_oldKeys a_oldVals a_allKeys a_allVals v_oldMany v_allMany a_row a_written v_writtenMany a_path a_place v_depth a_freeRow v_isOther v_moved a_bothKeys a_bothVals v_leafDepth v_found v_lastKey v_hasLast, MA9 a_disk cI (w * b) d, MA9 a_reached cZ 240 rc] sz) := by
  intro fu
  induction fu with
  | zero => intro sz h0 w b lm cm li ci a_disk a_kind a_many a_block a_keys a_vals a_isFresh a_kindWas a_manyWas a_blockWas a_keysWas a_valsWas a_freshWas a_reached a_oldKeys a_oldVals a_allKeys a_allVals a_row a_written a_path a_place a_freeRow a_bothKeys a_bothVals v_isDown v_isArmed v_armedWrites v_armedWords v_writes v_root v_rootWas v_latest v_epoch v_oldMany v_allMany v_writtenMany v_depth v_isOther v_moved v_leafDepth v_found v_lastKey v_hasLast cI cZ d rc r0 dp p1 p3 p4 p5 p6 zw0 zw zb0 zb zwb zlw zcw zlm zcm hr0 hdp hfu; exact absurd hfu (by omega)
  | succ fu ihr =>
    intro sz h0 w b lm cm li ci a_disk a_kind a_many a_block a_keys a_vals a_isFresh a_kindWas a_manyWas a_blockWas a_keysWas a_valsWas a_freshWas a_reached a_oldKeys a_oldVals a_allKeys a_allVals a_row a_written a_path a_place a_freeRow a_bothKeys a_bothVals v_isDown v_isArmed v_armedWrites v_armedWords v_writes v_root v_rootWas v_latest v_epoch v_oldMany v_allMany v_writtenMany v_depth v_isOther v_moved v_leafDepth v_found v_lastKey v_hasLast cI cZ d rc r0 dp p1 p3 p4 p5 p6 zw0 zw zb0 zb zwb zlw zcw zlm zcm hr0 hdp hfu
    refine Met.ofW (cc := cX9_isRight) (maxL := 15) (ret := (some .boolean)) (by decide) rfl ?_
    intro p e s m args below meth c s₁ B hml hv
    obtain ⟨rfl, hsz, hP, hK, hD0⟩ := hv
    have hx := B.exec
    have hb := B.bytes
    have hr := B.returns
    have hts := atoms_spec (ws := v_X9_isRight) B.pre
    have hown : s.vm.findClass RX9 = some m.cls := findClass_of_methodNamed B.named
    have hlocks := B.notSynchronized
    subst hsz
    have hD := hD0.self (sz := s.heap.size)
    generalize hAe : va_A [MO9 h0 (nI w) (nI b) (nI lm) (nI cm) (nI li) (nI ci) a_disk v_isDown v_isArmed v_armedWrites v_armedWords v_writes a_kind a_many a_block a_keys a_vals a_isFresh a_kindWas a_manyWas a_blockWas a_keysWas a_valsWas a_freshWas v_root v_rootWas v_latest v_epoch a_reached a_oldKeys a_oldVals a_allKeys a_allVals v_oldMany v_allMany a_row a_written v_writtenMany a_path a_place v_depth a_freeRow v_isOther v_moved a_bothKeys a_bothVals v_leafDepth v_found v_lastKey v_hasLast, MA9 a_disk cI (w * b) d, MA9 a_reached cZ 240 rc] s.heap.size = A at hD ⊢
    have hA : ∀ q : Nat, s.heap.size ≤ q → A q := fun q h => by rw [← hAe]; exact Or.inr h
    have hS : va_S A s.heap s.heap [] := va_S.rf
    have hP : va_P (dC, dI) vwCl [MO9 h0 (nI w) (nI b) (nI lm) (nI cm) (nI li) (nI ci) a_disk v_isDown v_isArmed v_armedWrites v_armedWords v_writes a_kind a_many a_block a_keys a_vals a_isFresh a_kindWas a_manyWas a_blockWas a_keysWas a_valsWas a_freshWas v_root v_rootWas v_latest v_epoch a_reached a_oldKeys a_oldVals a_allKeys a_allVals v_oldMany v_allMany a_row a_written v_writtenMany a_path a_place v_depth a_freeRow v_isOther v_moved a_bothKeys a_bothVals v_leafDepth v_found v_lastKey v_hasLast, MA9 a_disk cI (w * b) d, MA9 a_reached cZ 240 rc] s.heap := hP
    have hl := lv_entry ([.ref h0, .int (nI r0), .int p1, .int (nI dp), .int p3, .int p4, .int p5, .int p6]) (n := 15) (Nat.le_of_ble_eq_true rfl)
    rw [lg_entry_eq]
    generalize (lg_sl ([.ref h0, .int (nI r0), .int p1, .int (nI dp), .int p3, .int p4, .int p5, .int p6]) ++ List.replicate (15 - (lg_sl ([.ref h0, .int (nI r0), .int p1, .int (nI dp), .int p3, .int p4, .int p5, .int p6])).length) Slot.unset).toArray = ls at hl ⊢
    have hl : lv_has ls 15 [(0, .ref h0), (1, .int (nI r0)), (2, .int p1), (3, .int (nI dp)), (4, .int p3), (5, .int p4), (6, .int p5), (7, .int p6)] := hl
    have k_1 := (fun _ h => List.mem_cons_of_mem _ (List.mem_append_right _ (List.mem_append_left _ h)) : ∀ w ∈ wsX90, w ∈ v_X9_isRight)
    have k_2 := hts (.fieldLink RX9 103 "TwinRootsModel" "blocks" "I") (List.mem_of_getElem? (i := 1) rfl)
    have k_3 := hts (.fieldLink RX9 55 "TwinRootsModel" "reached" "[Z") (List.mem_of_getElem? (i := 2) rfl)
    have k_4 := hts (.fieldLink RX9 100 "TwinRootsModel" "words" "I") (List.mem_of_getElem? (i := 3) rfl)
    have k_5 := hts (.fieldLink RX9 118 "TwinRootsModel" "disk" "[I") (List.mem_of_getElem? (i := 4) rfl)
    have k_6 := hts (.fieldLink RX9 109 "TwinRootsModel" "cmost" "I") (List.mem_of_getElem? (i := 10) rfl)
    have k_7 := hts (.fieldLink RX9 106 "TwinRootsModel" "lmost" "I") (List.mem_of_getElem? (i := 14) rfl)
    have k_8 := hts (.fieldLink RX9 246 "TwinRootsModel" "leafDepth" "I") (List.mem_of_getElem? (i := 15) rfl)
    have k_9 := hts (.fieldLink RX9 249 "TwinRootsModel" "hasLast" "Z") (List.mem_of_getElem? (i := 16) rfl)
    have k_10 := hts (.fieldLink RX9 252 "TwinRootsModel" "lastKey" "I") (List.mem_of_getElem? (i := 17) rfl)
    have k_11 := hts (.fieldLink RX9 255 "TwinRootsModel" "found" "I") (List.mem_of_getElem? (i := 18) rfl)
    refine lv_iload_n hx hb dX9_isRight_0 rfl (lv_at hl 2 rfl) ?_
    refine lv_iconst (v := 2) hx hb dX9_isRight_1 (by decide) ?_
    refine lv_icmp_lt (tgt := 33) hx hb dX9_isRight_2 (by decide) (fun c_1 => ?_) (fun c_1 => ?_)
    · refine lv_iconst (v := 0) hx hb dX9_isRight_33 (by decide) ?_
      have hP9 := hP.sub (ws' := [MO9 h0 (nI w) (nI b) (nI lm) (nI cm) (nI li) (nI ci) a_disk v_isDown v_isArmed v_armedWrites v_armedWords v_writes a_kind a_many a_block a_keys a_vals a_isFresh a_kindWas a_manyWas a_blockWas a_keysWas a_valsWas a_freshWas v_root v_rootWas v_latest v_epoch a_reached a_oldKeys a_oldVals a_allKeys a_allVals v_oldMany v_allMany a_row a_written v_writtenMany a_path a_place v_depth a_freeRow v_isOther v_moved a_bothKeys a_bothVals v_leafDepth v_found v_lastKey v_hasLast, MA9 a_disk cI (w * b) d, MA9 a_reached cZ 240 rc]) [0, 1, 2] rfl
      have hD9 := hD.sub (ws' := [MO9 h0 (nI w) (nI b) (nI lm) (nI cm) (nI li) (nI ci) a_disk v_isDown v_isArmed v_armedWrites v_armedWords v_writes a_kind a_many a_block a_keys a_vals a_isFresh a_kindWas a_manyWas a_blockWas a_keysWas a_valsWas a_freshWas v_root v_rootWas v_latest v_epoch a_reached a_oldKeys a_oldVals a_allKeys a_allVals v_oldMany v_allMany a_row a_written v_writtenMany a_path a_place v_depth a_freeRow v_isOther v_moved a_bothKeys a_bothVals v_leafDepth v_found v_lastKey v_hasLast, MA9 a_disk cI (w * b) d, MA9 a_reached cZ 240 rc]) [0, 1, 2] (by decide) rfl
      have hK9 := hK.sub (tys' := [(cI, .int), (cZ, .boolean)]) [0, 1] rfl
      exact W.zret (v := 0) hx hb hr rfl (fun t ht hW => ⟨⟨0, (v_leafDepth, v_found, v_lastKey, v_hasLast, rc), rfl, (Or.inl rfl), by rw [ht]; exact hP9, va_K.moved hW.alike hK9, hD9⟩, hS.F ht⟩) hS.2.2 dX9_isRight_34
    · refine lv_iload_n hx hb dX9_isRight_5 rfl (lv_at hl 2 rfl) ?_
      refine lv_aload_n hx hb dX9_isRight_6 rfl (lv_at hl 0 rfl) ?_
      refine va_get (D := (dC, dI)) (ci := 9) (v := .int (nI b)) (C := RX9) (T := TX9) (N := 50) hx hb hts k_1 hown hK hP 0 rfl rfl 1 (by decide) k_2 (fun _ h9 => h9) rfl dX9_isRight_7 ?_
      refine lv_icmp_ge (tgt := 33) hx hb dX9_isRight_10 (by decide) (fun c_2 => ?_) (fun c_2 => ?_)
      · refine lv_iconst (v := 0) hx hb dX9_isRight_33 (by decide) ?_
        have hP9 := hP.sub (ws' := [MO9 h0 (nI w) (nI b) (nI lm) (nI cm) (nI li) (nI ci) a_disk v_isDown v_isArmed v_armedWrites v_armedWords v_writes a_kind a_many a_block a_keys a_vals a_isFresh a_kindWas a_manyWas a_blockWas a_keysWas a_valsWas a_freshWas v_root v_rootWas v_latest v_epoch a_reached a_oldKeys a_oldVals a_allKeys a_allVals v_oldMany v_allMany a_row a_written v_writtenMany a_path a_place v_depth a_freeRow v_isOther v_moved a_bothKeys a_bothVals v_leafDepth v_found v_lastKey v_hasLast, MA9 a_disk cI (w * b) d, MA9 a_reached cZ 240 rc]) [0, 1, 2] rfl
        have hD9 := hD.sub (ws' := [MO9 h0 (nI w) (nI b) (nI lm) (nI cm) (nI li) (nI ci) a_disk v_isDown v_isArmed v_armedWrites v_armedWords v_writes a_kind a_many a_block a_keys a_vals a_isFresh a_kindWas a_manyWas a_blockWas a_keysWas a_valsWas a_freshWas v_root v_rootWas v_latest v_epoch a_reached a_oldKeys a_oldVals a_allKeys a_allVals v_oldMany v_allMany a_row a_written v_writtenMany a_path a_place v_depth a_freeRow v_isOther v_moved a_bothKeys a_bothVals v_leafDepth v_found v_lastKey v_hasLast, MA9 a_disk cI (w * b) d, MA9 a_reached cZ 240 rc]) [0, 1, 2] (by decide) rfl
        have hK9 := hK.sub (tys' := [(cI, .int), (cZ, .boolean)]) [0, 1] rfl
        exact W.zret (v := 0) hx hb hr rfl (fun t ht hW => ⟨⟨0, (v_leafDepth, v_found, v_lastKey, v_hasLast, rc), rfl, (Or.inl rfl), by rw [ht]; exact hP9, va_K.moved hW.alike hK9, hD9⟩, hS.F ht⟩) hS.2.2 dX9_isRight_34
      · obtain ⟨q0, hq0, eq0⟩ := nI_of (x := p1) (fun h9 => c_1 (Int32.lt_trans h9 (by decide)))
        replace hl : lv_has ls 15 [(0, .ref h0), (1, .int (nI r0)), (2, .int (nI q0)), (3, .int (nI dp)), (4, .int p3), (5, .int p4), (6, .int p5), (7, .int p6)] := by rw [← eq0]; exact hl
        have hq1 : 2 ≤ q0 := Nat.le_of_not_lt (fun h9 => c_1 (by rw [eq0]; exact nI_lt (b := 2) h9 (by decide)))
        have hqb : q0 < b := Nat.lt_of_not_le (fun h9 => c_2 (by rw [eq0]; exact nI_le h9 (by omega)))
        have hwq : w * q0 + w ≤ w * b := by have h9 := idx_g (w := w) (b := b) (q0 := q0) (i := w - 1) (by omega) (by omega); omega
        refine lv_iload_n hx hb dX9_isRight_13 rfl (lv_at hl 3 rfl) ?_
        refine lv_bipush (v := 12) hx hb dX9_isRight_14 (by decide) ?_
        refine lv_icmp_gt (tgt := 33) hx hb dX9_isRight_16 (by decide) (fun c_3 => ?_) (fun c_3 => ?_)
        · have n_c_3 : 12 < dp := (nI_ltI (a := 12) (b := dp) (by omega) (by omega)).mp c_3
          refine lv_iconst (v := 0) hx hb dX9_isRight_33 (by decide) ?_
          have hP9 := hP.sub (ws' := [MO9 h0 (nI w) (nI b) (nI lm) (nI cm) (nI li) (nI ci) a_disk v_isDown v_isArmed v_armedWrites v_armedWords v_writes a_kind a_many a_block a_keys a_vals a_isFresh a_kindWas a_manyWas a_blockWas a_keysWas a_valsWas a_freshWas v_root v_rootWas v_latest v_epoch a_reached a_oldKeys a_oldVals a_allKeys a_allVals v_oldMany v_allMany a_row a_written v_writtenMany a_path a_place v_depth a_freeRow v_isOther v_moved a_bothKeys a_bothVals v_leafDepth v_found v_lastKey v_hasLast, MA9 a_disk cI (w * b) d, MA9 a_reached cZ 240 rc]) [0, 1, 2] rfl
          have hD9 := hD.sub (ws' := [MO9 h0 (nI w) (nI b) (nI lm) (nI cm) (nI li) (nI ci) a_disk v_isDown v_isArmed v_armedWrites v_armedWords v_writes a_kind a_many a_block a_keys a_vals a_isFresh a_kindWas a_manyWas a_blockWas a_keysWas a_valsWas a_freshWas v_root v_rootWas v_latest v_epoch a_reached a_oldKeys a_oldVals a_allKeys a_allVals v_oldMany v_allMany a_row a_written v_writtenMany a_path a_place v_depth a_freeRow v_isOther v_moved a_bothKeys a_bothVals v_leafDepth v_found v_lastKey v_hasLast, MA9 a_disk cI (w * b) d, MA9 a_reached cZ 240 rc]) [0, 1, 2] (by decide) rfl
          have hK9 := hK.sub (tys' := [(cI, .int), (cZ, .boolean)]) [0, 1] rfl
          exact W.zret (v := 0) hx hb hr rfl (fun t ht hW => ⟨⟨0, (v_leafDepth, v_found, v_lastKey, v_hasLast, rc), rfl, (Or.inl rfl), by rw [ht]; exact hP9, va_K.moved hW.alike hK9, hD9⟩, hS.F ht⟩) hS.2.2 dX9_isRight_34
        · have n_c_3 : ¬ 12 < dp := fun h9 => c_3 ((nI_ltI (a := 12) (b := dp) (by omega) (by omega)).mpr h9)
          refine lv_aload_n hx hb dX9_isRight_19 rfl (lv_at hl 0 rfl) ?_
          refine va_get (D := (dC, dI)) (ci := 9) (v := .ref a_reached) (C := RX9) (T := TX9) (N := 50) hx hb hts k_1 hown hK hP 0 rfl rfl 28 (by decide) k_3 (fun _ h9 => h9) rfl dX9_isRight_20 ?_
          refine lv_bipush (v := 120) hx hb dX9_isRight_23 (by decide) ?_
          refine lv_iload_n hx hb dX9_isRight_25 rfl (lv_at hl 1 rfl) ?_
          refine lv_imul hx hb dX9_isRight_26 ?_
          refine lv_topi (fun z_4 ez_4 => ?_)
          obtain rfl : z_4 = nI (120 * r0) := ez_4.trans (pk_mul 120 r0)
          refine lv_iload_n hx hb dX9_isRight_27 rfl (lv_at hl 2 rfl) ?_
          refine lv_iadd hx hb dX9_isRight_28 ?_
          refine lv_topi (fun z_5 ez_5 => ?_)
          obtain rfl : z_5 = nI (120 * r0 + q0) := ez_5.trans (nI_add (120 * r0) q0)
          refine va_zald hx hb hK hP 2 1 rfl rfl (show vp_in (nI (120 * r0 + q0)) 240 from vp_in_nI (by omega) (by omega)) dX9_isRight_29 ?_
          refine lv_topi (fun z_6 ez_6 => ?_)
          obtain rfl : z_6 = rc (120 * r0 + q0) := ez_6.trans (congrArg rc (nI_clamp (by omega)))
          refine lv_if_eq (tgt := 35) hx hb dX9_isRight_30 (by decide) (fun c_7 => ?_) (fun c_7 => ?_)
          · have h00 : rc (120 * r0 + q0) = 0 := c_7
            refine lv_aload_n hx hb dX9_isRight_35 rfl (lv_at hl 0 rfl) ?_
            refine va_get (D := (dC, dI)) (ci := 9) (v := .ref a_reached) (C := RX9) (T := TX9) (N := 50) hx hb hts k_1 hown hK hP 0 rfl rfl 28 (by decide) k_3 (fun _ h9 => h9) rfl dX9_isRight_36 ?_
            refine lv_bipush (v := 120) hx hb dX9_isRight_39 (by decide) ?_
            refine lv_iload_n hx hb dX9_isRight_41 rfl (lv_at hl 1 rfl) ?_
            refine lv_imul hx hb dX9_isRight_42 ?_
            refine lv_topi (fun z_8 ez_8 => ?_)
            obtain rfl : z_8 = nI (120 * r0) := ez_8.trans (pk_mul 120 r0)
            refine lv_iload_n hx hb dX9_isRight_43 rfl (lv_at hl 2 rfl) ?_
            refine lv_iadd hx hb dX9_isRight_44 ?_
            refine lv_topi (fun z_9 ez_9 => ?_)
            obtain rfl : z_9 = nI (120 * r0 + q0) := ez_9.trans (nI_add (120 * r0) q0)
            refine lv_iconst (v := 1) hx hb dX9_isRight_45 (by decide) ?_
            refine va_zast hx hb hK hP hD hS 2 1 rfl rfl (show vp_in (nI (120 * r0 + q0)) 240 from vp_in_nI (by omega) (by omega)) dX9_isRight_46 (fun H locs hP9 hD9 hS9 => ?_)
            replace hP := hP9
            replace hD := hD9
            replace hS := hS9
            clear hP9 hD9 hS9
            replace hP : va_P (dC, dI) vwCl [MO9 h0 (nI w) (nI b) (nI lm) (nI cm) (nI li) (nI ci) a_disk v_isDown v_isArmed v_armedWrites v_armedWords v_writes a_kind a_many a_block a_keys a_vals a_isFresh a_kindWas a_manyWas a_blockWas a_keysWas a_valsWas a_freshWas v_root v_rootWas v_latest v_epoch a_reached a_oldKeys a_oldVals a_allKeys a_allVals v_oldMany v_allMany a_row a_written v_writtenMany a_path a_place v_depth a_freeRow v_isOther v_moved a_bothKeys a_bothVals v_leafDepth v_found v_lastKey v_hasLast, MA9 a_disk cI (w * b) d, MA9 a_reached cZ 240 (upd rc ((nI (120 * r0 + q0)).toNatClampNeg) (vp_nar .boolean 1))] H := hP
            replace hD : va_D A [MO9 h0 (nI w) (nI b) (nI lm) (nI cm) (nI li) (nI ci) a_disk v_isDown v_isArmed v_armedWrites v_armedWords v_writes a_kind a_many a_block a_keys a_vals a_isFresh a_kindWas a_manyWas a_blockWas a_keysWas a_valsWas a_freshWas v_root v_rootWas v_latest v_epoch a_reached a_oldKeys a_oldVals a_allKeys a_allVals v_oldMany v_allMany a_row a_written v_writtenMany a_path a_place v_depth a_freeRow v_isOther v_moved a_bothKeys a_bothVals v_leafDepth v_found v_lastKey v_hasLast, MA9 a_disk cI (w * b) d, MA9 a_reached cZ 240 (upd rc ((nI (120 * r0 + q0)).toNatClampNeg) (vp_nar .boolean 1))] := hD
            rw [show (nI (120 * r0 + q0)).toNatClampNeg = 120 * r0 + q0 from nI_clamp (by omega)] at hP hD
            rw [show vp_nar .boolean 1 = 1 from rfl] at hP hD
            obtain ⟨rc1, erc1⟩ : ∃ g9, g9 = upd rc (120 * r0 + q0) 1 := ⟨_, rfl⟩
            rw [← erc1] at hP hD
            refine lv_aload_n hx hb dX9_isRight_47 rfl (lv_at hl 0 rfl) ?_
            refine va_get (D := (dC, dI)) (ci := 9) (v := .int (nI w)) (C := RX9) (T := TX9) (N := 50) hx hb hts k_1 hown hK hP 0 rfl rfl 0 (by decide) k_4 (fun _ h9 => h9) rfl dX9_isRight_48 ?_
            refine lv_iload_n hx hb dX9_isRight_51 rfl (lv_at hl 2 rfl) ?_
            refine lv_imul hx hb dX9_isRight_52 ?_
            refine lv_topi (fun z_10 ez_10 => ?_)
            obtain rfl : z_10 = nI (w * q0) := ez_10.trans (pk_mul w q0)
            refine lv_istore (lv' := [(8, .int (nI (w * q0))), (0, .ref h0), (1, .int (nI r0)), (2, .int (nI q0)), (3, .int (nI dp)), (4, .int p3), (5, .int p4), (6, .int p5), (7, .int p6)]) hx hb dX9_isRight_53 hl (by decide) rfl (fun ls hl9 => ?_)
            replace hl := hl9
            clear hl9
            refine lv_aload_n hx hb dX9_isRight_55 rfl (lv_at hl 1 rfl) ?_
            refine va_get (D := (dC, dI)) (ci := 9) (v := .ref a_disk) (C := RX9) (T := TX9) (N := 50) hx hb hts k_1 hown hK hP 0 rfl rfl 6 (by decide) k_5 (fun _ h9 => h9) rfl dX9_isRight_56 ?_
            refine lv_iload hx hb dX9_isRight_59 (lv_at hl 0 rfl) ?_
            refine lv_iconst (v := 1) hx hb dX9_isRight_61 (by decide) ?_
            refine lv_iadd hx hb dX9_isRight_62 ?_
            refine lv_topi (fun z_11 ez_11 => ?_)
            obtain rfl : z_11 = nI (w * q0 + 1) := ez_11.trans (nI_add (w * q0) 1)
            refine va_iald hx hb hK hP 1 0 rfl rfl (show vp_in (nI (w * q0 + 1)) (w * b) from vp_in_nI (by omega) (by omega)) dX9_isRight_63 ?_
            refine lv_topi (fun z_12 ez_12 => ?_)
            obtain rfl : z_12 = d (w * q0 + 1) := ez_12.trans (congrArg d (nI_clamp (by omega)))
            refine lv_istore (lv' := [(9, .int (d (w * q0 + 1))), (8, .int (nI (w * q0))), (0, .ref h0), (1, .int (nI r0)), (2, .int (nI q0)), (3, .int (nI dp)), (4, .int p3), (5, .int p4), (6, .int p5), (7, .int p6)]) hx hb dX9_isRight_64 hl (by decide) rfl (fun ls hl9 => ?_)
            replace hl := hl9
            clear hl9
            refine lv_aload_n hx hb dX9_isRight_66 rfl (lv_at hl 2 rfl) ?_
            refine lv_iload_n hx hb dX9_isRight_67 rfl (lv_at hl 4 rfl) ?_
            have hPc := hP.sub (ws' := [MO9 h0 (nI w) (nI b) (nI lm) (nI cm) (nI li) (nI ci) a_disk v_isDown v_isArmed v_armedWrites v_armedWords v_writes a_kind a_many a_block a_keys a_vals a_isFresh a_kindWas a_manyWas a_blockWas a_keysWas a_valsWas a_freshWas v_root v_rootWas v_latest v_epoch a_reached a_oldKeys a_oldVals a_allKeys a_allVals v_oldMany v_allMany a_row a_written v_writtenMany a_path a_place v_depth a_freeRow v_isOther v_moved a_bothKeys a_bothVals v_leafDepth v_found v_lastKey v_hasLast, MA9 a_disk cI (w * b) d]) [0, 1] rfl
            have hDc := hD.sub (ws' := [MO9 h0 (nI w) (nI b) (nI lm) (nI cm) (nI li) (nI ci) a_disk v_isDown v_isArmed v_armedWrites v_armedWords v_writes a_kind a_many a_block a_keys a_vals a_isFresh a_kindWas a_manyWas a_blockWas a_keysWas a_valsWas a_freshWas v_root v_rootWas v_latest v_epoch a_reached a_oldKeys a_oldVals a_allKeys a_allVals v_oldMany v_allMany a_row a_written v_writtenMany a_path a_place v_depth a_freeRow v_isOther v_moved a_bothKeys a_bothVals v_leafDepth v_found v_lastKey v_hasLast, MA9 a_disk cI (w * b) d]) [0, 1] (by decide) rfl
            have hKc := hK.sub (tys' := [(cI, .int)]) [0] rfl
            have hFc := va_free (wc := [MO9 h0 (nI w) (nI b) (nI lm) (nI cm) (nI li) (nI ci) a_disk v_isDown v_isArmed v_armedWrites v_armedWords v_writes a_kind a_many a_block a_keys a_vals a_isFresh a_kindWas a_manyWas a_blockWas a_keysWas a_valsWas a_freshWas v_root v_rootWas v_latest v_epoch a_reached a_oldKeys a_oldVals a_allKeys a_allVals v_oldMany v_allMany a_row a_written v_writtenMany a_path a_place v_depth a_freeRow v_isOther v_moved a_bothKeys a_bothVals v_leafDepth v_found v_lastKey v_hasLast, MA9 a_disk cI (w * b) d]) hD hS hA [0, 1] rfl
            refine va_calli (va_runV (As := [.int (nI q0)]) (rest := []) ⟨hx, hb, hml, hown, hts⟩ (c_X9_sumOf l dC dI H.size h0 w b lm cm li ci a_disk a_kind a_many a_block a_keys a_vals a_isFresh a_kindWas a_manyWas a_blockWas a_keysWas a_valsWas a_freshWas a_reached a_oldKeys a_oldVals a_allKeys a_allVals a_row a_written a_path a_place a_freeRow a_bothKeys a_bothVals v_isDown v_isArmed v_armedWrites v_armedWords v_writes v_root v_rootWas v_latest v_epoch v_oldMany v_allMany v_writtenMany v_depth v_isOther v_moved v_leafDepth v_found v_lastKey v_hasLast cI d q0 (by first | assumption | omega | decide) (by first | assumption | omega | decide) (by first | assumption | omega | decide) (by first | assumption | omega | decide) (by first | assumption | omega | decide) (by first | assumption | omega | decide)) (cwV 1 hts g_X9_isRight_X9_sumOf rfl rfl rfl (by decide +kernel) ⟨(by show 0 + 1 ≤ fu + 1 + 2; omega), (by show 8 + (4 + 11) + (0) ≤ 200 * (fu + 1) + 200; omega)⟩) ⟨fun a U g mk q => by obtain ⟨q0, q1, qP, qK, qD⟩ := q; exact ⟨q0, q1, qP, va_K.moved (u := U) (U := U.calling g mk a) (Vm.Alike.refl U.vm) qK, qD⟩, va_recv hKc hPc (ci := 9) (q0 := 0) rfl rfl, fun U hU hW => ⟨rfl, by rw [hU], by rw [hU]; exact hPc, va_K.moved hW.alike hKc, hDc.weaken (fun _ _ _ _ => trivial)⟩⟩ rfl rfl hl.1 rfl (lv_room (Nat.le_of_ble_eq_true rfl)) dX9_isRight_68 ⟨(show 0 + 0 ≤ 0 by omega), (show 0 + 0 ≤ 0 by omega)⟩) hS (fun q _ h => hFc q h) hFc (fun r_13 u t H1 locs ht hvm hw hB hz1 hk1 hS9 => ?_)
            replace hS := hS9
            clear hS9
            obtain ⟨hP1, hK1, hD1⟩ := hB
            rw [ht] at hP1
            replace hK1 := va_K.moved hvm.symm hK1
            try dsimp only at hw
            obtain ⟨hP9, hD9⟩ := va_join (wr := [MA9 a_reached cZ 240 rc1]) (w1 := [MO9 h0 (nI w) (nI b) (nI lm) (nI cm) (nI li) (nI ci) a_disk v_isDown v_isArmed v_armedWrites v_armedWords v_writes a_kind a_many a_block a_keys a_vals a_isFresh a_kindWas a_manyWas a_blockWas a_keysWas a_valsWas a_freshWas v_root v_rootWas v_latest v_epoch a_reached a_oldKeys a_oldVals a_allKeys a_allVals v_oldMany v_allMany a_row a_written v_writtenMany a_path a_place v_depth a_freeRow v_isOther v_moved a_bothKeys a_bothVals v_leafDepth v_found v_lastKey v_hasLast, MA9 a_disk cI (w * b) d]) hP hD [0, 1] [2] rfl rfl (by decide) (by decide) hk1 hFc hP1 hD1
            replace hP := hP9
            replace hD := hD9
            clear hP9 hD9
            replace hK := (hK.sub (tys' := [(cZ, .boolean)]) [1] rfl).app hK1
            clear hP1 hD1 hK1 hPc hDc hKc hFc hk1 hz1 hvm ht
            generalize H1 = H at hP hS ⊢
            replace hP : va_P (dC, dI) vwCl [MA9 a_reached cZ 240 rc1, MO9 h0 (nI w) (nI b) (nI lm) (nI cm) (nI li) (nI ci) a_disk v_isDown v_isArmed v_armedWrites v_armedWords v_writes a_kind a_many a_block a_keys a_vals a_isFresh a_kindWas a_manyWas a_blockWas a_keysWas a_valsWas a_freshWas v_root v_rootWas v_latest v_epoch a_reached a_oldKeys a_oldVals a_allKeys a_allVals v_oldMany v_allMany a_row a_written v_writtenMany a_path a_place v_depth a_freeRow v_isOther v_moved a_bothKeys a_bothVals v_leafDepth v_found v_lastKey v_hasLast, MA9 a_disk cI (w * b) d] H := hP
            replace hD : va_D A [MA9 a_reached cZ 240 rc1, MO9 h0 (nI w) (nI b) (nI lm) (nI cm) (nI li) (nI ci) a_disk v_isDown v_isArmed v_armedWrites v_armedWords v_writes a_kind a_many a_block a_keys a_vals a_isFresh a_kindWas a_manyWas a_blockWas a_keysWas a_valsWas a_freshWas v_root v_rootWas v_latest v_epoch a_reached a_oldKeys a_oldVals a_allKeys a_allVals v_oldMany v_allMany a_row a_written v_writtenMany a_path a_place v_depth a_freeRow v_isOther v_moved a_bothKeys a_bothVals v_leafDepth v_found v_lastKey v_hasLast, MA9 a_disk cI (w * b) d] := hD
            replace hK : va_K (dC, dI) vwCl [(cZ, .boolean), (cI, .int)] s := hK
            have hw_r_13 := hw
            refine lv_aload_n hx hb dX9_isRight_71 rfl (lv_at hl 2 rfl) ?_
            refine va_get (D := (dC, dI)) (ci := 9) (v := .ref a_disk) (C := RX9) (T := TX9) (N := 50) hx hb hts k_1 hown hK hP 1 rfl rfl 6 (by decide) k_5 (fun _ h9 => h9) rfl dX9_isRight_72 ?_
            refine lv_iload hx hb dX9_isRight_75 (lv_at hl 1 rfl) ?_
            refine lv_aload_n hx hb dX9_isRight_77 rfl (lv_at hl 2 rfl) ?_
            refine va_get (D := (dC, dI)) (ci := 9) (v := .int (nI w)) (C := RX9) (T := TX9) (N := 50) hx hb hts k_1 hown hK hP 1 rfl rfl 0 (by decide) k_4 (fun _ h9 => h9) rfl dX9_isRight_78 ?_
            refine lv_iadd hx hb dX9_isRight_81 ?_
            refine lv_topi (fun z_14 ez_14 => ?_)
            obtain rfl : z_14 = nI (w * q0 + w) := ez_14.trans (nI_add (w * q0) w)
            refine lv_iconst (v := 1) hx hb dX9_isRight_82 (by decide) ?_
            refine lv_isub hx hb dX9_isRight_83 ?_
            refine lv_topi (fun z_15 ez_15 => ?_)
            obtain rfl : z_15 = nI (w * q0 + w - 1) := ez_15.trans (pk_sub (a := w * q0 + w) (b := 1) (by omega))
            refine va_iald hx hb hK hP 2 1 rfl rfl (show vp_in (nI (w * q0 + w - 1)) (w * b) from vp_in_nI (by omega) (by omega)) dX9_isRight_84 ?_
            refine lv_topi (fun z_16 ez_16 => ?_)
            obtain rfl : z_16 = d (w * q0 + w - 1) := ez_16.trans (congrArg d (nI_clamp (by omega)))
            refine lv_icmp_eq (tgt := 90) hx hb dX9_isRight_85 (by decide) (fun c_17 => ?_) (fun c_17 => ?_)
            · refine lv_aload_n hx hb dX9_isRight_90 rfl (lv_at hl 2 rfl) ?_
              refine va_get (D := (dC, dI)) (ci := 9) (v := .ref a_disk) (C := RX9) (T := TX9) (N := 50) hx hb hts k_1 hown hK hP 1 rfl rfl 6 (by decide) k_5 (fun _ h9 => h9) rfl dX9_isRight_91 ?_
              refine lv_iload hx hb dX9_isRight_94 (lv_at hl 1 rfl) ?_
              refine va_iald hx hb hK hP 2 1 rfl rfl (show vp_in (nI (w * q0)) (w * b) from vp_in_nI (by omega) (by omega)) dX9_isRight_96 ?_
              refine lv_topi (fun z_18 ez_18 => ?_)
              obtain rfl : z_18 = d (w * q0) := ez_18.trans (congrArg d (nI_clamp (by omega)))
              refine lv_iconst (v := 1) hx hb dX9_isRight_97 (by decide) ?_
              refine lv_icmp_ne (tgt := 235) hx hb dX9_isRight_98 (by decide) (fun c_19 => ?_) (fun c_19 => ?_)
              · refine lv_aload_n hx hb dX9_isRight_235 rfl (lv_at hl 2 rfl) ?_
                refine va_get (D := (dC, dI)) (ci := 9) (v := .ref a_disk) (C := RX9) (T := TX9) (N := 50) hx hb hts k_1 hown hK hP 1 rfl rfl 6 (by decide) k_5 (fun _ h9 => h9) rfl dX9_isRight_236 ?_
                refine lv_iload hx hb dX9_isRight_239 (lv_at hl 1 rfl) ?_
                refine va_iald hx hb hK hP 2 1 rfl rfl (show vp_in (nI (w * q0)) (w * b) from vp_in_nI (by omega) (by omega)) dX9_isRight_241 ?_
                refine lv_topi (fun z_20 ez_20 => ?_)
                obtain rfl : z_20 = d (w * q0) := ez_20.trans (congrArg d (nI_clamp (by omega)))
                refine lv_iconst (v := 2) hx hb dX9_isRight_242 (by decide) ?_
                refine lv_icmp_ne (tgt := 261) hx hb dX9_isRight_243 (by decide) (fun c_21 => ?_) (fun c_21 => ?_)
                · refine lv_iconst (v := 0) hx hb dX9_isRight_261 (by decide) ?_
                  have hP9 := hP.sub (ws' := [MO9 h0 (nI w) (nI b) (nI lm) (nI cm) (nI li) (nI ci) a_disk v_isDown v_isArmed v_armedWrites v_armedWords v_writes a_kind a_many a_block a_keys a_vals a_isFresh a_kindWas a_manyWas a_blockWas a_keysWas a_valsWas a_freshWas v_root v_rootWas v_latest v_epoch a_reached a_oldKeys a_oldVals a_allKeys a_allVals v_oldMany v_allMany a_row a_written v_writtenMany a_path a_place v_depth a_freeRow v_isOther v_moved a_bothKeys a_bothVals v_leafDepth v_found v_lastKey v_hasLast, MA9 a_disk cI (w * b) d, MA9 a_reached cZ 240 rc1]) [1, 2, 0] rfl
                  have hD9 := hD.sub (ws' := [MO9 h0 (nI w) (nI b) (nI lm) (nI cm) (nI li) (nI ci) a_disk v_isDown v_isArmed v_armedWrites v_armedWords v_writes a_kind a_many a_block a_keys a_vals a_isFresh a_kindWas a_manyWas a_blockWas a_keysWas a_valsWas a_freshWas v_root v_rootWas v_latest v_epoch a_reached a_oldKeys a_oldVals a_allKeys a_allVals v_oldMany v_allMany a_row a_written v_writtenMany a_path a_place v_depth a_freeRow v_isOther v_moved a_bothKeys a_bothVals v_leafDepth v_found v_lastKey v_hasLast, MA9 a_disk cI (w * b) d, MA9 a_reached cZ 240 rc1]) [1, 2, 0] (by decide) rfl
                  have hK9 := hK.sub (tys' := [(cI, .int), (cZ, .boolean)]) [1, 0] rfl
                  exact W.zret (v := 0) hx hb hr rfl (fun t ht hW => ⟨⟨0, (v_leafDepth, v_found, v_lastKey, v_hasLast, rc1), rfl, (Or.inl rfl), by rw [ht]; exact hP9, va_K.moved hW.alike hK9, hD9⟩, hS.F ht⟩) hS.2.2 dX9_isRight_262
                · refine lv_iload hx hb dX9_isRight_246 (lv_at hl 0 rfl) ?_
                  refine lv_iconst (v := 2) hx hb dX9_isRight_248 (by decide) ?_
                  refine lv_icmp_lt (tgt := 261) hx hb dX9_isRight_249 (by decide) (fun c_22 => ?_) (fun c_22 => ?_)
                  · refine lv_iconst (v := 0) hx hb dX9_isRight_261 (by decide) ?_
                    have hP9 := hP.sub (ws' := [MO9 h0 (nI w) (nI b) (nI lm) (nI cm) (nI li) (nI ci) a_disk v_isDown v_isArmed v_armedWrites v_armedWords v_writes a_kind a_many a_block a_keys a_vals a_isFresh a_kindWas a_manyWas a_blockWas a_keysWas a_valsWas a_freshWas v_root v_rootWas v_latest v_epoch a_reached a_oldKeys a_oldVals a_allKeys a_allVals v_oldMany v_allMany a_row a_written v_writtenMany a_path a_place v_depth a_freeRow v_isOther v_moved a_bothKeys a_bothVals v_leafDepth v_found v_lastKey v_hasLast, MA9 a_disk cI (w * b) d, MA9 a_reached cZ 240 rc1]) [1, 2, 0] rfl
                    have hD9 := hD.sub (ws' := [MO9 h0 (nI w) (nI b) (nI lm) (nI cm) (nI li) (nI ci) a_disk v_isDown v_isArmed v_armedWrites v_armedWords v_writes a_kind a_many a_block a_keys a_vals a_isFresh a_kindWas a_manyWas a_blockWas a_keysWas a_valsWas a_freshWas v_root v_rootWas v_latest v_epoch a_reached a_oldKeys a_oldVals a_allKeys a_allVals v_oldMany v_allMany a_row a_written v_writtenMany a_path a_place v_depth a_freeRow v_isOther v_moved a_bothKeys a_bothVals v_leafDepth v_found v_lastKey v_hasLast, MA9 a_disk cI (w * b) d, MA9 a_reached cZ 240 rc1]) [1, 2, 0] (by decide) rfl
                    have hK9 := hK.sub (tys' := [(cI, .int), (cZ, .boolean)]) [1, 0] rfl
                    exact W.zret (v := 0) hx hb hr rfl (fun t ht hW => ⟨⟨0, (v_leafDepth, v_found, v_lastKey, v_hasLast, rc1), rfl, (Or.inl rfl), by rw [ht]; exact hP9, va_K.moved hW.alike hK9, hD9⟩, hS.F ht⟩) hS.2.2 dX9_isRight_262
                  · obtain ⟨n9, hn9, en9⟩ := nI_of (x := d (w * q0 + 1)) (fun h9 => c_22 (Int32.lt_trans h9 (by decide)))
                    have hl : lv_has ls 15 [(9, .int (nI n9)), (8, .int (nI (w * q0))), (0, .ref h0), (1, .int (nI r0)), (2, .int (nI q0)), (3, .int (nI dp)), (4, .int p3), (5, .int p4), (6, .int p5), (7, .int p6)] := by rw [← en9]; exact hl
                    have hn1 : 2 ≤ n9 := Nat.le_of_not_lt (fun h9 => c_22 (by rw [en9]; exact nI_lt (b := 2) h9 (by decide)))
                    refine lv_iload hx hb dX9_isRight_252 (lv_at hl 0 rfl) ?_
                    refine lv_aload_n hx hb dX9_isRight_254 rfl (lv_at hl 2 rfl) ?_
                    refine va_get (D := (dC, dI)) (ci := 9) (v := .int (nI cm)) (C := RX9) (T := TX9) (N := 50) hx hb hts k_1 hown hK hP 1 rfl rfl 3 (by decide) k_6 (fun _ h9 => h9) rfl dX9_isRight_255 ?_
                    refine lv_icmp_le (tgt := 263) hx hb dX9_isRight_258 (by decide) (fun c_23 => ?_) (fun c_23 => ?_)
                    · have n_c_23 : n9 ≤ cm := (nI_leI (a := n9) (b := cm) (by omega) (by omega)).mp c_23
                      have hn2 : n9 ≤ cm := n_c_23
                      refine lv_iconst (v := 0) hx hb dX9_isRight_263 (by decide) ?_
                      refine lv_istore (lv' := [(10, .int 0), (9, .int (nI n9)), (8, .int (nI (w * q0))), (0, .ref h0), (1, .int (nI r0)), (2, .int (nI q0)), (3, .int (nI dp)), (4, .int p3), (5, .int p4), (6, .int p5), (7, .int p6)]) hx hb dX9_isRight_264 hl (by decide) rfl (fun ls hl9 => ?_)
                      replace hl := hl9
                      clear hl9
                      refine jn_cut (P := fun Q => ∀ (nf i : Nat) (lfv : Int32) (fov : Int32) (lkv : Int32) (hlv : Int32) (rcv : Nat → Int32) (H : Heap) (locs : List Loc) (ls : Array Slot), i ≤ n9 → n9 + 1 ≤ i + nf → (IrF d w b lm cm r0 dp q0 rc1 rcv v_leafDepth lfv i) → va_P (dC, dI) vwCl [MA9 a_reached cZ 240 rcv, MO9 h0 (nI w) (nI b) (nI lm) (nI cm) (nI li) (nI ci) a_disk v_isDown v_isArmed v_armedWrites v_armedWords v_writes a_kind a_many a_block a_keys a_vals a_isFresh a_kindWas a_manyWas a_blockWas a_keysWas a_valsWas a_freshWas v_root v_rootWas v_latest v_epoch a_reached a_oldKeys a_oldVals a_allKeys a_allVals v_oldMany v_allMany a_row a_written v_writtenMany a_path a_place v_depth a_freeRow v_isOther v_moved a_bothKeys a_bothVals lfv fov lkv hlv, MA9 a_disk cI (w * b) d] H → va_D A [MA9 a_reached cZ 240 rcv, MO9 h0 (nI w) (nI b) (nI lm) (nI cm) (nI li) (nI ci) a_disk v_isDown v_isArmed v_armedWrites v_armedWords v_writes a_kind a_many a_block a_keys a_vals a_isFresh a_kindWas a_manyWas a_blockWas a_keysWas a_valsWas a_freshWas v_root v_rootWas v_latest v_epoch a_reached a_oldKeys a_oldVals a_allKeys a_allVals v_oldMany v_allMany a_row a_written v_writtenMany a_path a_place v_depth a_freeRow v_isOther v_moved a_bothKeys a_bothVals lfv fov lkv hlv, MA9 a_disk cI (w * b) d] → va_S A s.heap H locs → lv_has ls 15 [(0, .ref h0), (1, .int (nI r0)), (2, .int (nI q0)), (3, .int (nI dp)), (4, .int p3), (5, .int p4), (6, .int p5), (7, .int p6), (8, .int (nI (w * q0))), (9, .int (nI n9)), (10, .int (nI i))] → W p l e (headSpec v_X9_isRight ({ frames := fu + 1 + 2, cells := 0, slots := 0, locals := 200 * (fu + 1) + 200 } : Room)).room s m ([.ref h0, .int (nI r0), .int p1, .int (nI dp), .int p3, .int p4, .int p5, .int p6] : List Value).toArray below meth c H locs 0 0 Q (F0 m 266 ls [])) ?_ (fun loop_266 => ?_)
                      · intro nf
                        induction nf with
                        | zero =>
                          intro i lfv fov lkv hlv rcv H locs ls h1 h2
                          exact absurd h2 (by omega)
                        | succ nf ih_266 =>
                          intro i lfv fov lkv hlv rcv H locs ls hi hn hir hP hD hS hl
                          refine lv_iload hx hb dX9_isRight_266 (lv_at hl 10 rfl) ?_
                          refine lv_iload hx hb dX9_isRight_268 (lv_at hl 9 rfl) ?_
                          refine lv_icmp_ge (tgt := 430) hx hb dX9_isRight_270 (by decide) (fun c_24 => ?_) (fun c_24 => ?_)
                          · have n_c_24 : n9 ≤ i := (nI_leI (a := n9) (b := i) (by omega) (by omega)).mp c_24
                            refine lv_iconst (v := 1) hx hb dX9_isRight_430 (by decide) ?_
                            have hP9 := hP.sub (ws' := [MO9 h0 (nI w) (nI b) (nI lm) (nI cm) (nI li) (nI ci) a_disk v_isDown v_isArmed v_armedWrites v_armedWords v_writes a_kind a_many a_block a_keys a_vals a_isFresh a_kindWas a_manyWas a_blockWas a_keysWas a_valsWas a_freshWas v_root v_rootWas v_latest v_epoch a_reached a_oldKeys a_oldVals a_allKeys a_allVals v_oldMany v_allMany a_row a_written v_writtenMany a_path a_place v_depth a_freeRow v_isOther v_moved a_bothKeys a_bothVals lfv fov lkv hlv, MA9 a_disk cI (w * b) d, MA9 a_reached cZ 240 rcv]) [1, 2, 0] rfl
                            have hD9 := hD.sub (ws' := [MO9 h0 (nI w) (nI b) (nI lm) (nI cm) (nI li) (nI ci) a_disk v_isDown v_isArmed v_armedWrites v_armedWords v_writes a_kind a_many a_block a_keys a_vals a_isFresh a_kindWas a_manyWas a_blockWas a_keysWas a_valsWas a_freshWas v_root v_rootWas v_latest v_epoch a_reached a_oldKeys a_oldVals a_allKeys a_allVals v_oldMany v_allMany a_row a_written v_writtenMany a_path a_place v_depth a_freeRow v_isOther v_moved a_bothKeys a_bothVals lfv fov lkv hlv, MA9 a_disk cI (w * b) d, MA9 a_reached cZ 240 rcv]) [1, 2, 0] (by decide) rfl
                            have hK9 := hK.sub (tys' := [(cI, .int), (cZ, .boolean)]) [1, 0] rfl
                            exact W.zret (v := 1) hx hb hr rfl (fun t ht hW => ⟨⟨1, (lfv, fov, lkv, hlv, rcv), rfl, (by rw [eq0]; exact isR_inner hir (by omega) hi hq1 hqb c_21 en9 hn1 hn2 zcm h00 erc1), by rw [ht]; exact hP9, va_K.moved hW.alike hK9, hD9⟩, hS.F ht⟩) hS.2.2 dX9_isRight_431
                          · have n_c_24 : ¬ n9 ≤ i := fun h9 => c_24 ((nI_leI (a := n9) (b := i) (by omega) (by omega)).mpr h9)
                            refine jn_cut (P := fun Q => ∀ (pl : Int32) (pv : Int32) (H : Heap) (locs : List Loc) (ls : Array Slot), va_P (dC, dI) vwCl [MA9 a_reached cZ 240 rcv, MO9 h0 (nI w) (nI b) (nI lm) (nI cm) (nI li) (nI ci) a_disk v_isDown v_isArmed v_armedWrites v_armedWords v_writes a_kind a_many a_block a_keys a_vals a_isFresh a_kindWas a_manyWas a_blockWas a_keysWas a_valsWas a_freshWas v_root v_rootWas v_latest v_epoch a_reached a_oldKeys a_oldVals a_allKeys a_allVals v_oldMany v_allMany a_row a_written v_writtenMany a_path a_place v_depth a_freeRow v_isOther v_moved a_bothKeys a_bothVals lfv fov lkv hlv, MA9 a_disk cI (w * b) d] H → va_D A [MA9 a_reached cZ 240 rcv, MO9 h0 (nI w) (nI b) (nI lm) (nI cm) (nI li) (nI ci) a_disk v_isDown v_isArmed v_armedWrites v_armedWords v_writes a_kind a_many a_block a_keys a_vals a_isFresh a_kindWas a_manyWas a_blockWas a_keysWas a_valsWas a_freshWas v_root v_rootWas v_latest v_epoch a_reached a_oldKeys a_oldVals a_allKeys a_allVals v_oldMany v_allMany a_row a_written v_writtenMany a_path a_place v_depth a_freeRow v_isOther v_moved a_bothKeys a_bothVals lfv fov lkv hlv, MA9 a_disk cI (w * b) d] → va_S A s.heap H locs → lv_has ls 15 [(0, .ref h0), (1, .int (nI r0)), (2, .int (nI q0)), (3, .int (nI dp)), (4, .int p3), (5, .int p4), (6, .int p5), (7, .int p6), (8, .int (nI (w * q0))), (9, .int (nI n9)), (10, .int (nI i)), (11, .int pl), (12, .int pv)] → W p l e (headSpec v_X9_isRight ({ frames := fu + 1 + 2, cells := 0, slots := 0, locals := 200 * (fu + 1) + 200 } : Room)).room s m ([.ref h0, .int (nI r0), .int p1, .int (nI dp), .int p3, .int p4, .int p5, .int p6] : List Value).toArray below meth c H locs 0 0 Q (F0 m 329 ls [])) ?_ (fun jn_25 => ?_)
                            · intro pl pv H locs ls hP hD hS hl
                              refine jn_cut (P := fun Q => ∀ (ph9 : Int32) (pw : Int32) (H : Heap) (locs : List Loc) (ls : Array Slot), va_P (dC, dI) vwCl [MA9 a_reached cZ 240 rcv, MO9 h0 (nI w) (nI b) (nI lm) (nI cm) (nI li) (nI ci) a_disk v_isDown v_isArmed v_armedWrites v_armedWords v_writes a_kind a_many a_block a_keys a_vals a_isFresh a_kindWas a_manyWas a_blockWas a_keysWas a_valsWas a_freshWas v_root v_rootWas v_latest v_epoch a_reached a_oldKeys a_oldVals a_allKeys a_allVals v_oldMany v_allMany a_row a_written v_writtenMany a_path a_place v_depth a_freeRow v_isOther v_moved a_bothKeys a_bothVals lfv fov lkv hlv, MA9 a_disk cI (w * b) d] H → va_D A [MA9 a_reached cZ 240 rcv, MO9 h0 (nI w) (nI b) (nI lm) (nI cm) (nI li) (nI ci) a_disk v_isDown v_isArmed v_armedWrites v_armedWords v_writes a_kind a_many a_block a_keys a_vals a_isFresh a_kindWas a_manyWas a_blockWas a_keysWas a_valsWas a_freshWas v_root v_rootWas v_latest v_epoch a_reached a_oldKeys a_oldVals a_allKeys a_allVals v_oldMany v_allMany a_row a_written v_writtenMany a_path a_place v_depth a_freeRow v_isOther v_moved a_bothKeys a_bothVals lfv fov lkv hlv, MA9 a_disk cI (w * b) d] → va_S A s.heap H locs → lv_has ls 15 [(0, .ref h0), (1, .int (nI r0)), (2, .int (nI q0)), (3, .int (nI dp)), (4, .int p3), (5, .int p4), (6, .int p5), (7, .int p6), (8, .int (nI (w * q0))), (9, .int (nI n9)), (10, .int (nI i)), (11, .int pl), (12, .int pv), (13, .int ph9), (14, .int pw)] → W p l e (headSpec v_X9_isRight ({ frames := fu + 1 + 2, cells := 0, slots := 0, locals := 200 * (fu + 1) + 200 } : Room)).room s m ([.ref h0, .int (nI r0), .int p1, .int (nI dp), .int p3, .int p4, .int p5, .int p6] : List Value).toArray below meth c H locs 0 0 Q (F0 m 389 ls [])) ?_ (fun jn_26 => ?_)
                              · intro ph9 pw H locs ls hP hD hS hl
                                refine lv_aload_n hx hb dX9_isRight_389 rfl (lv_at hl 0 rfl) ?_
                                refine lv_iload_n hx hb dX9_isRight_390 rfl (lv_at hl 1 rfl) ?_
                                refine lv_aload_n hx hb dX9_isRight_391 rfl (lv_at hl 0 rfl) ?_
                                refine va_get (D := (dC, dI)) (ci := 9) (v := .ref a_disk) (C := RX9) (T := TX9) (N := 50) hx hb hts k_1 hown hK hP 1 rfl rfl 6 (by decide) k_5 (fun _ h9 => h9) rfl dX9_isRight_392 ?_
                                refine lv_iload hx hb dX9_isRight_395 (lv_at hl 8 rfl) ?_
                                refine lv_iconst (v := 2) hx hb dX9_isRight_397 (by decide) ?_
                                refine lv_iadd hx hb dX9_isRight_398 ?_
                                refine lv_topi (fun z_27 ez_27 => ?_)
                                obtain rfl : z_27 = nI (w * q0 + 2) := ez_27.trans (nI_add (w * q0) 2)
                                refine lv_iconst (v := 2) hx hb dX9_isRight_399 (by decide) ?_
                                refine lv_iload hx hb dX9_isRight_400 (lv_at hl 10 rfl) ?_
                                refine lv_imul hx hb dX9_isRight_402 ?_
                                refine lv_topi (fun z_28 ez_28 => ?_)
                                obtain rfl : z_28 = nI (2 * i) := ez_28.trans (pk_mul 2 i)
                                refine lv_iadd hx hb dX9_isRight_403 ?_
                                refine lv_topi (fun z_29 ez_29 => ?_)
                                obtain rfl : z_29 = nI (w * q0 + 2 + (2 * i)) := ez_29.trans (nI_add (w * q0 + 2) (2 * i))
                                refine va_iald hx hb hK hP 2 1 rfl rfl (show vp_in (nI (w * q0 + 2 + (2 * i))) (w * b) from vp_in_nI (by omega) (by omega)) dX9_isRight_404 ?_
                                refine lv_topi (fun z_30 ez_30 => ?_)
                                obtain rfl : z_30 = d (w * q0 + 2 + (2 * i)) := ez_30.trans (congrArg d (nI_clamp (by omega)))
                                refine lv_iload_n hx hb dX9_isRight_405 rfl (lv_at hl 3 rfl) ?_
                                refine lv_iconst (v := 1) hx hb dX9_isRight_406 (by decide) ?_
                                refine lv_iadd hx hb dX9_isRight_407 ?_
                                refine lv_topi (fun z_31 ez_31 => ?_)
                                obtain rfl : z_31 = nI (dp + 1) := ez_31.trans (nI_add dp 1)
                                refine lv_iload hx hb dX9_isRight_408 (lv_at hl 11 rfl) ?_
                                refine lv_iload hx hb dX9_isRight_410 (lv_at hl 12 rfl) ?_
                                refine lv_iload hx hb dX9_isRight_412 (lv_at hl 13 rfl) ?_
                                refine lv_iload hx hb dX9_isRight_414 (lv_at hl 14 rfl) ?_
                                have hPc := hP.sub (ws' := [MO9 h0 (nI w) (nI b) (nI lm) (nI cm) (nI li) (nI ci) a_disk v_isDown v_isArmed v_armedWrites v_armedWords v_writes a_kind a_many a_block a_keys a_vals a_isFresh a_kindWas a_manyWas a_blockWas a_keysWas a_valsWas a_freshWas v_root v_rootWas v_latest v_epoch a_reached a_oldKeys a_oldVals a_allKeys a_allVals v_oldMany v_allMany a_row a_written v_writtenMany a_path a_place v_depth a_freeRow v_isOther v_moved a_bothKeys a_bothVals lfv fov lkv hlv, MA9 a_disk cI (w * b) d, MA9 a_reached cZ 240 rcv]) [1, 2, 0] rfl
                                have hDc := hD.sub (ws' := [MO9 h0 (nI w) (nI b) (nI lm) (nI cm) (nI li) (nI ci) a_disk v_isDown v_isArmed v_armedWrites v_armedWords v_writes a_kind a_many a_block a_keys a_vals a_isFresh a_kindWas a_manyWas a_blockWas a_keysWas a_valsWas a_freshWas v_root v_rootWas v_latest v_epoch a_reached a_oldKeys a_oldVals a_allKeys a_allVals v_oldMany v_allMany a_row a_written v_writtenMany a_path a_place v_depth a_freeRow v_isOther v_moved a_bothKeys a_bothVals lfv fov lkv hlv, MA9 a_disk cI (w * b) d, MA9 a_reached cZ 240 rcv]) [1, 2, 0] (by decide) rfl
                                have hKc := hK.sub (tys' := [(cI, .int), (cZ, .boolean)]) [1, 0] rfl
                                have hFc := va_free (wc := [MO9 h0 (nI w) (nI b) (nI lm) (nI cm) (nI li) (nI ci) a_disk v_isDown v_isArmed v_armedWrites v_armedWords v_writes a_kind a_many a_block a_keys a_vals a_isFresh a_kindWas a_manyWas a_blockWas a_keysWas a_valsWas a_freshWas v_root v_rootWas v_latest v_epoch a_reached a_oldKeys a_oldVals a_allKeys a_allVals v_oldMany v_allMany a_row a_written v_writtenMany a_path a_place v_depth a_freeRow v_isOther v_moved a_bothKeys a_bothVals lfv fov lkv hlv, MA9 a_disk cI (w * b) d, MA9 a_reached cZ 240 rcv]) hD hS hA [1, 2, 0] rfl
                                refine va_calli (va_runV (As := [.int (nI r0), .int (d (w * q0 + 2 + (2 * i))), .int (nI (dp + 1)), .int pl, .int pv, .int ph9, .int pw]) (rest := []) ⟨hx, hb, hml, hown, hts⟩ (ihr H.size h0 w b lm cm li ci a_disk a_kind a_many a_block a_keys a_vals a_isFresh a_kindWas a_manyWas a_blockWas a_keysWas a_valsWas a_freshWas a_reached a_oldKeys a_oldVals a_allKeys a_allVals a_row a_written a_path a_place a_freeRow a_bothKeys a_bothVals v_isDown v_isArmed v_armedWrites v_armedWords v_writes v_root v_rootWas v_latest v_epoch v_oldMany v_allMany v_writtenMany v_depth v_isOther v_moved lfv fov lkv hlv cI cZ d rcv r0 (dp + 1) (d (w * q0 + 2 + (2 * i))) pl pv ph9 pw (by first | assumption | omega | decide) (by first | assumption | omega | decide) (by first | assumption | omega | decide) (by first | assumption | omega | decide) (by first | assumption | omega | decide) (by first | assumption | omega | decide) (by first | assumption | omega | decide) (by first | assumption | omega | decide) (by first | assumption | omega | decide) (by first | assumption | omega | decide) (by first | assumption | omega | decide) (by first | assumption | omega | decide)) (cwV 7 hts g_X9_isRight_X9_isRight rfl rfl rfl (by decide +kernel) ⟨(by show fu + 2 + 1 ≤ fu + 1 + 2; omega), (by show 8 + (15 + 11) + (200 * fu + 200) ≤ 200 * (fu + 1) + 200; omega)⟩) ⟨fun a U g mk q => by obtain ⟨q0, q1, qP, qK, qD⟩ := q; exact ⟨q0, q1, qP, va_K.moved (u := U) (U := U.calling g mk a) (Vm.Alike.refl U.vm) qK, qD⟩, va_recv hKc hPc (ci := 9) (q0 := 0) rfl rfl, fun U hU hW => ⟨rfl, by rw [hU], by rw [hU]; exact hPc, va_K.moved hW.alike hKc, hDc.weaken (fun _ _ _ _ => trivial)⟩⟩ rfl rfl hl.1 rfl (lv_room (Nat.le_of_ble_eq_true rfl)) dX9_isRight_416 ⟨(show 0 + 0 ≤ 0 by omega), (show 0 + 0 ≤ 0 by omega)⟩) hS (fun q _ h => hFc q h) hFc (fun r_32 u t H1 locs ht hvm hw hB hz1 hk1 hS9 => ?_)
                                replace hS := hS9
                                clear hS9
                                obtain ⟨lfY, foY, lkY, hlY, rcY⟩ := u
                                obtain ⟨hP1, hK1, hD1⟩ := hB
                                rw [ht] at hP1
                                replace hK1 := va_K.moved hvm.symm hK1
                                try dsimp only at hw
                                obtain ⟨hP9, hD9⟩ := va_join (wr := []) (w1 := [MO9 h0 (nI w) (nI b) (nI lm) (nI cm) (nI li) (nI ci) a_disk v_isDown v_isArmed v_armedWrites v_armedWords v_writes a_kind a_many a_block a_keys a_vals a_isFresh a_kindWas a_manyWas a_blockWas a_keysWas a_valsWas a_freshWas v_root v_rootWas v_latest v_epoch a_reached a_oldKeys a_oldVals a_allKeys a_allVals v_oldMany v_allMany a_row a_written v_writtenMany a_path a_place v_depth a_freeRow v_isOther v_moved a_bothKeys a_bothVals lfY foY lkY hlY, MA9 a_disk cI (w * b) d, MA9 a_reached cZ 240 rcY]) hP hD [1, 2, 0] [] rfl rfl (by decide) (by decide) hk1 hFc hP1 hD1
                                replace hP := hP9
                                replace hD := hD9
                                clear hP9 hD9
                                replace hK := (hK.sub (tys' := []) [] rfl).app hK1
                                clear hP1 hD1 hK1 hPc hDc hKc hFc hk1 hz1 hvm ht
                                generalize H1 = H at hP hS ⊢
                                replace hP : va_P (dC, dI) vwCl [MO9 h0 (nI w) (nI b) (nI lm) (nI cm) (nI li) (nI ci) a_disk v_isDown v_isArmed v_armedWrites v_armedWords v_writes a_kind a_many a_block a_keys a_vals a_isFresh a_kindWas a_manyWas a_blockWas a_keysWas a_valsWas a_freshWas v_root v_rootWas v_latest v_epoch a_reached a_oldKeys a_oldVals a_allKeys a_allVals v_oldMany v_allMany a_row a_written v_writtenMany a_path a_place v_depth a_freeRow v_isOther v_moved a_bothKeys a_bothVals lfY foY lkY hlY, MA9 a_disk cI (w * b) d, MA9 a_reached cZ 240 rcY] H := hP
                                replace hD : va_D A [MO9 h0 (nI w) (nI b) (nI lm) (nI cm) (nI li) (nI ci) a_disk v_isDown v_isArmed v_armedWrites v_armedWords v_writes a_kind a_many a_block a_keys a_vals a_isFresh a_kindWas a_manyWas a_blockWas a_keysWas a_valsWas a_freshWas v_root v_rootWas v_latest v_epoch a_reached a_oldKeys a_oldVals a_allKeys a_allVals v_oldMany v_allMany a_row a_written v_writtenMany a_path a_place v_depth a_freeRow v_isOther v_moved a_bothKeys a_bothVals lfY foY lkY hlY, MA9 a_disk cI (w * b) d, MA9 a_reached cZ 240 rcY] := hD
                                replace hK : va_K (dC, dI) vwCl [(cI, .int), (cZ, .boolean)] s := hK
                                have hw_r_32 := hw
                                refine lv_if_ne (tgt := 424) hx hb dX9_isRight_419 (by decide) (fun c_33 => ?_) (fun c_33 => ?_)
                                · refine lv_iinc (v := (nI (i + 1))) (lv' := [(10, .int (nI (i + 1))), (0, .ref h0), (1, .int (nI r0)), (2, .int (nI q0)), (3, .int (nI dp)), (4, .int p3), (5, .int p4), (6, .int p5), (7, .int p6), (8, .int (nI (w * q0))), (9, .int (nI n9)), (11, .int pl), (12, .int pv), (13, .int ph9), (14, .int pw)]) hx hb dX9_isRight_424 hl (k := 10) rfl (nI_1 i) (by decide) rfl (fun ls hl9 => ?_)
                                  replace hl := hl9
                                  clear hl9
                                  refine lv_goto (tgt := 266) hx hb dX9_isRight_427 (by decide) ?_
                                  exact ih_266 (i + 1) lfY foY lkY hlY rcY _ _ _ (by omega) (by omega) (irF_step hir (by omega) (by omega) hw_r_32 c_33) (hP.sub [2, 0, 1] rfl) (hD.sub [2, 0, 1] (by decide) rfl) hS (lv_sub hl [1, 2, 3, 4, 5, 6, 7, 8, 9, 10, 0] rfl)
                                · refine lv_iconst (v := 0) hx hb dX9_isRight_422 (by decide) ?_
                                  have hP9 := hP.sub (ws' := [MO9 h0 (nI w) (nI b) (nI lm) (nI cm) (nI li) (nI ci) a_disk v_isDown v_isArmed v_armedWrites v_armedWords v_writes a_kind a_many a_block a_keys a_vals a_isFresh a_kindWas a_manyWas a_blockWas a_keysWas a_valsWas a_freshWas v_root v_rootWas v_latest v_epoch a_reached a_oldKeys a_oldVals a_allKeys a_allVals v_oldMany v_allMany a_row a_written v_writtenMany a_path a_place v_depth a_freeRow v_isOther v_moved a_bothKeys a_bothVals lfY foY lkY hlY, MA9 a_disk cI (w * b) d, MA9 a_reached cZ 240 rcY]) [0, 1, 2] rfl
                                  have hD9 := hD.sub (ws' := [MO9 h0 (nI w) (nI b) (nI lm) (nI cm) (nI li) (nI ci) a_disk v_isDown v_isArmed v_armedWrites v_armedWords v_writes a_kind a_many a_block a_keys a_vals a_isFresh a_kindWas a_manyWas a_blockWas a_keysWas a_valsWas a_freshWas v_root v_rootWas v_latest v_epoch a_reached a_oldKeys a_oldVals a_allKeys a_allVals v_oldMany v_allMany a_row a_written v_writtenMany a_path a_place v_depth a_freeRow v_isOther v_moved a_bothKeys a_bothVals lfY foY lkY hlY, MA9 a_disk cI (w * b) d, MA9 a_reached cZ 240 rcY]) [0, 1, 2] (by decide) rfl
                                  have hK9 := hK.sub (tys' := [(cI, .int), (cZ, .boolean)]) [0, 1] rfl
                                  exact W.zret (v := 0) hx hb hr rfl (fun t ht hW => ⟨⟨0, (lfY, foY, lkY, hlY, rcY), rfl, (Or.inl rfl), by rw [ht]; exact hP9, va_K.moved hW.alike hK9, hD9⟩, hS.F ht⟩) hS.2.2 dX9_isRight_423
                              refine lv_iload hx hb dX9_isRight_329 (lv_at hl 6 rfl) ?_
                              refine lv_istore (lv' := [(13, .int p5), (0, .ref h0), (1, .int (nI r0)), (2, .int (nI q0)), (3, .int (nI dp)), (4, .int p3), (5, .int p4), (6, .int p5), (7, .int p6), (8, .int (nI (w * q0))), (9, .int (nI n9)), (10, .int (nI i)), (11, .int pl), (12, .int pv)]) hx hb dX9_isRight_331 hl (by decide) rfl (fun ls hl9 => ?_)
                              replace hl := hl9
                              clear hl9
                              refine lv_iload hx hb dX9_isRight_333 (lv_at hl 8 rfl) ?_
                              refine lv_istore (lv' := [(14, .int p6), (13, .int p5), (0, .ref h0), (1, .int (nI r0)), (2, .int (nI q0)), (3, .int (nI dp)), (4, .int p3), (5, .int p4), (6, .int p5), (7, .int p6), (8, .int (nI (w * q0))), (9, .int (nI n9)), (10, .int (nI i)), (11, .int pl), (12, .int pv)]) hx hb dX9_isRight_335 hl (by decide) rfl (fun ls hl9 => ?_)
                              replace hl := hl9
                              clear hl9
                              refine lv_iload hx hb dX9_isRight_337 (lv_at hl 12 rfl) ?_
                              refine lv_iconst (v := 1) hx hb dX9_isRight_339 (by decide) ?_
                              refine lv_iadd hx hb dX9_isRight_340 ?_
                              refine lv_topi (fun z_34 ez_34 => ?_)
                              obtain rfl : z_34 = nI (i + 1) := ez_34.trans (nI_add i 1)
                              refine lv_iload hx hb dX9_isRight_341 (lv_at hl 11 rfl) ?_
                              refine lv_icmp_ge (tgt := 389) hx hb dX9_isRight_343 (by decide) (fun c_35 => ?_) (fun c_35 => ?_)
                              · have n_c_35 : n9 ≤ (i + 1) := (nI_leI (a := n9) (b := i + 1) (by omega) (by omega)).mp c_35
                                exact jn_26 p5 p6 _ _ _ hP hD hS (lv_sub hl [2, 3, 4, 5, 6, 7, 8, 9, 10, 11, 12, 13, 14, 1, 0] rfl)
                              · have n_c_35 : ¬ n9 ≤ (i + 1) := fun h9 => c_35 ((nI_leI (a := n9) (b := i + 1) (by omega) (by omega)).mpr h9)
                                refine lv_iload hx hb dX9_isRight_346 (lv_at hl 1 rfl) ?_
                                refine lv_if_eq (tgt := 370) hx hb dX9_isRight_348 (by decide) (fun c_36 => ?_) (fun c_36 => ?_)
                                · refine lv_iconst (v := 1) hx hb dX9_isRight_370 (by decide) ?_
                                  refine lv_istore (lv' := [(13, .int 1), (14, .int p6), (0, .ref h0), (1, .int (nI r0)), (2, .int (nI q0)), (3, .int (nI dp)), (4, .int p3), (5, .int p4), (6, .int p5), (7, .int p6), (8, .int (nI (w * q0))), (9, .int (nI n9)), (10, .int (nI i)), (11, .int pl), (12, .int pv)]) hx hb dX9_isRight_371 hl (by decide) rfl (fun ls hl9 => ?_)
                                  replace hl := hl9
                                  clear hl9
                                  refine lv_aload_n hx hb dX9_isRight_373 rfl (lv_at hl 2 rfl) ?_
                                  refine va_get (D := (dC, dI)) (ci := 9) (v := .ref a_disk) (C := RX9) (T := TX9) (N := 50) hx hb hts k_1 hown hK hP 1 rfl rfl 6 (by decide) k_5 (fun _ h9 => h9) rfl dX9_isRight_374 ?_
                                  refine lv_iload hx hb dX9_isRight_377 (lv_at hl 10 rfl) ?_
                                  refine lv_iconst (v := 3) hx hb dX9_isRight_379 (by decide) ?_
                                  refine lv_iadd hx hb dX9_isRight_380 ?_
                                  refine lv_topi (fun z_37 ez_37 => ?_)
                                  obtain rfl : z_37 = nI (w * q0 + 3) := ez_37.trans (nI_add (w * q0) 3)
                                  refine lv_iconst (v := 2) hx hb dX9_isRight_381 (by decide) ?_
                                  refine lv_iload hx hb dX9_isRight_382 (lv_at hl 12 rfl) ?_
                                  refine lv_imul hx hb dX9_isRight_384 ?_
                                  refine lv_topi (fun z_38 ez_38 => ?_)
                                  obtain rfl : z_38 = nI (2 * i) := ez_38.trans (pk_mul 2 i)
                                  refine lv_iadd hx hb dX9_isRight_385 ?_
                                  refine lv_topi (fun z_39 ez_39 => ?_)
                                  obtain rfl : z_39 = nI (w * q0 + 3 + (2 * i)) := ez_39.trans (nI_add (w * q0 + 3) (2 * i))
                                  refine va_iald hx hb hK hP 2 1 rfl rfl (show vp_in (nI (w * q0 + 3 + (2 * i))) (w * b) from vp_in_nI (by omega) (by omega)) dX9_isRight_386 ?_
                                  refine lv_topi (fun z_40 ez_40 => ?_)
                                  obtain rfl : z_40 = d (w * q0 + 3 + (2 * i)) := ez_40.trans (congrArg d (nI_clamp (by omega)))
                                  refine lv_istore (lv' := [(14, .int (d (w * q0 + 3 + (2 * i)))), (13, .int 1), (0, .ref h0), (1, .int (nI r0)), (2, .int (nI q0)), (3, .int (nI dp)), (4, .int p3), (5, .int p4), (6, .int p5), (7, .int p6), (8, .int (nI (w * q0))), (9, .int (nI n9)), (10, .int (nI i)), (11, .int pl), (12, .int pv)]) hx hb dX9_isRight_387 hl (by decide) rfl (fun ls hl9 => ?_)
                                  replace hl := hl9
                                  clear hl9
                                  exact jn_26 1 (d (w * q0 + 3 + (2 * i))) _ _ _ hP hD hS (lv_sub hl [2, 3, 4, 5, 6, 7, 8, 9, 10, 11, 12, 13, 14, 1, 0] rfl)
                                · refine lv_aload_n hx hb dX9_isRight_351 rfl (lv_at hl 2 rfl) ?_
                                  refine va_get (D := (dC, dI)) (ci := 9) (v := .ref a_disk) (C := RX9) (T := TX9) (N := 50) hx hb hts k_1 hown hK hP 1 rfl rfl 6 (by decide) k_5 (fun _ h9 => h9) rfl dX9_isRight_352 ?_
                                  refine lv_iload hx hb dX9_isRight_355 (lv_at hl 10 rfl) ?_
                                  refine lv_iconst (v := 3) hx hb dX9_isRight_357 (by decide) ?_
                                  refine lv_iadd hx hb dX9_isRight_358 ?_
                                  refine lv_topi (fun z_41 ez_41 => ?_)
                                  obtain rfl : z_41 = nI (w * q0 + 3) := ez_41.trans (nI_add (w * q0) 3)
                                  refine lv_iconst (v := 2) hx hb dX9_isRight_359 (by decide) ?_
                                  refine lv_iload hx hb dX9_isRight_360 (lv_at hl 12 rfl) ?_
                                  refine lv_imul hx hb dX9_isRight_362 ?_
                                  refine lv_topi (fun z_42 ez_42 => ?_)
                                  obtain rfl : z_42 = nI (2 * i) := ez_42.trans (pk_mul 2 i)
                                  refine lv_iadd hx hb dX9_isRight_363 ?_
                                  refine lv_topi (fun z_43 ez_43 => ?_)
                                  obtain rfl : z_43 = nI (w * q0 + 3 + (2 * i)) := ez_43.trans (nI_add (w * q0 + 3) (2 * i))
                                  refine va_iald hx hb hK hP 2 1 rfl rfl (show vp_in (nI (w * q0 + 3 + (2 * i))) (w * b) from vp_in_nI (by omega) (by omega)) dX9_isRight_364 ?_
                                  refine lv_topi (fun z_44 ez_44 => ?_)
                                  obtain rfl : z_44 = d (w * q0 + 3 + (2 * i)) := ez_44.trans (congrArg d (nI_clamp (by omega)))
                                  refine lv_iload hx hb dX9_isRight_365 (lv_at hl 0 rfl) ?_
                                  refine lv_icmp_ge (tgt := 389) hx hb dX9_isRight_367 (by decide) (fun c_45 => ?_) (fun c_45 => ?_)
                                  · exact jn_26 p5 p6 _ _ _ hP hD hS (lv_sub hl [2, 3, 4, 5, 6, 7, 8, 9, 10, 11, 12, 13, 14, 1, 0] rfl)
                                  · refine lv_iconst (v := 1) hx hb dX9_isRight_370 (by decide) ?_
                                    refine lv_istore (lv' := [(13, .int 1), (14, .int p6), (0, .ref h0), (1, .int (nI r0)), (2, .int (nI q0)), (3, .int (nI dp)), (4, .int p3), (5, .int p4), (6, .int p5), (7, .int p6), (8, .int (nI (w * q0))), (9, .int (nI n9)), (10, .int (nI i)), (11, .int pl), (12, .int pv)]) hx hb dX9_isRight_371 hl (by decide) rfl (fun ls hl9 => ?_)
                                    replace hl := hl9
                                    clear hl9
                                    refine lv_aload_n hx hb dX9_isRight_373 rfl (lv_at hl 2 rfl) ?_
                                    refine va_get (D := (dC, dI)) (ci := 9) (v := .ref a_disk) (C := RX9) (T := TX9) (N := 50) hx hb hts k_1 hown hK hP 1 rfl rfl 6 (by decide) k_5 (fun _ h9 => h9) rfl dX9_isRight_374 ?_
                                    refine lv_iload hx hb dX9_isRight_377 (lv_at hl 10 rfl) ?_
                                    refine lv_iconst (v := 3) hx hb dX9_isRight_379 (by decide) ?_
                                    refine lv_iadd hx hb dX9_isRight_380 ?_
                                    refine lv_topi (fun z_46 ez_46 => ?_)
                                    obtain rfl : z_46 = nI (w * q0 + 3) := ez_46.trans (nI_add (w * q0) 3)
                                    refine lv_iconst (v := 2) hx hb dX9_isRight_381 (by decide) ?_
                                    refine lv_iload hx hb dX9_isRight_382 (lv_at hl 12 rfl) ?_
                                    refine lv_imul hx hb dX9_isRight_384 ?_
                                    refine lv_topi (fun z_47 ez_47 => ?_)
                                    obtain rfl : z_47 = nI (2 * i) := ez_47.trans (pk_mul 2 i)
                                    refine lv_iadd hx hb dX9_isRight_385 ?_
                                    refine lv_topi (fun z_48 ez_48 => ?_)
                                    obtain rfl : z_48 = nI (w * q0 + 3 + (2 * i)) := ez_48.trans (nI_add (w * q0 + 3) (2 * i))
                                    refine va_iald hx hb hK hP 2 1 rfl rfl (show vp_in (nI (w * q0 + 3 + (2 * i))) (w * b) from vp_in_nI (by omega) (by omega)) dX9_isRight_386 ?_
                                    refine lv_topi (fun z_49 ez_49 => ?_)
                                    obtain rfl : z_49 = d (w * q0 + 3 + (2 * i)) := ez_49.trans (congrArg d (nI_clamp (by omega)))
                                    refine lv_istore (lv' := [(14, .int (d (w * q0 + 3 + (2 * i)))), (13, .int 1), (0, .ref h0), (1, .int (nI r0)), (2, .int (nI q0)), (3, .int (nI dp)), (4, .int p3), (5, .int p4), (6, .int p5), (7, .int p6), (8, .int (nI (w * q0))), (9, .int (nI n9)), (10, .int (nI i)), (11, .int pl), (12, .int pv)]) hx hb dX9_isRight_387 hl (by decide) rfl (fun ls hl9 => ?_)
                                    replace hl := hl9
                                    clear hl9
                                    exact jn_26 1 (d (w * q0 + 3 + (2 * i))) _ _ _ hP hD hS (lv_sub hl [2, 3, 4, 5, 6, 7, 8, 9, 10, 11, 12, 13, 14, 1, 0] rfl)
                            refine lv_iload hx hb dX9_isRight_273 (lv_at hl 4 rfl) ?_
                            refine lv_istore (lv' := [(11, .int p3), (0, .ref h0), (1, .int (nI r0)), (2, .int (nI q0)), (3, .int (nI dp)), (4, .int p3), (5, .int p4), (6, .int p5), (7, .int p6), (8, .int (nI (w * q0))), (9, .int (nI n9)), (10, .int (nI i))]) hx hb dX9_isRight_275 hl (by decide) rfl (fun ls hl9 => ?_)
                            replace hl := hl9
                            clear hl9
                            refine lv_iload hx hb dX9_isRight_277 (lv_at hl 6 rfl) ?_
                            refine lv_istore (lv' := [(12, .int p4), (11, .int p3), (0, .ref h0), (1, .int (nI r0)), (2, .int (nI q0)), (3, .int (nI dp)), (4, .int p3), (5, .int p4), (6, .int p5), (7, .int p6), (8, .int (nI (w * q0))), (9, .int (nI n9)), (10, .int (nI i))]) hx hb dX9_isRight_279 hl (by decide) rfl (fun ls hl9 => ?_)
                            replace hl := hl9
                            clear hl9
                            refine lv_iload hx hb dX9_isRight_281 (lv_at hl 12 rfl) ?_
                            refine lv_if_le (tgt := 329) hx hb dX9_isRight_283 (by decide) (fun c_50 => ?_) (fun c_50 => ?_)
                            · have n_c_50 : i ≤ 0 := (nI_leI (a := i) (b := 0) (by omega) (by omega)).mp c_50
                              exact jn_25 p3 p4 _ _ _ hP hD hS (lv_sub hl [2, 3, 4, 5, 6, 7, 8, 9, 10, 11, 12, 1, 0] rfl)
                            · have n_c_50 : ¬ i ≤ 0 := fun h9 => c_50 ((nI_leI (a := i) (b := 0) (by omega) (by omega)).mpr h9)
                              refine lv_iload hx hb dX9_isRight_286 (lv_at hl 1 rfl) ?_
                              refine lv_if_eq (tgt := 310) hx hb dX9_isRight_288 (by decide) (fun c_51 => ?_) (fun c_51 => ?_)
                              · refine lv_iconst (v := 1) hx hb dX9_isRight_310 (by decide) ?_
                                refine lv_istore (lv' := [(11, .int 1), (12, .int p4), (0, .ref h0), (1, .int (nI r0)), (2, .int (nI q0)), (3, .int (nI dp)), (4, .int p3), (5, .int p4), (6, .int p5), (7, .int p6), (8, .int (nI (w * q0))), (9, .int (nI n9)), (10, .int (nI i))]) hx hb dX9_isRight_311 hl (by decide) rfl (fun ls hl9 => ?_)
                                replace hl := hl9
                                clear hl9
                                refine lv_aload_n hx hb dX9_isRight_313 rfl (lv_at hl 2 rfl) ?_
                                refine va_get (D := (dC, dI)) (ci := 9) (v := .ref a_disk) (C := RX9) (T := TX9) (N := 50) hx hb hts k_1 hown hK hP 1 rfl rfl 6 (by decide) k_5 (fun _ h9 => h9) rfl dX9_isRight_314 ?_
                                refine lv_iload hx hb dX9_isRight_317 (lv_at hl 10 rfl) ?_
                                refine lv_iconst (v := 1) hx hb dX9_isRight_319 (by decide) ?_
                                refine lv_iadd hx hb dX9_isRight_320 ?_
                                refine lv_topi (fun z_52 ez_52 => ?_)
                                obtain rfl : z_52 = nI (w * q0 + 1) := ez_52.trans (nI_add (w * q0) 1)
                                refine lv_iconst (v := 2) hx hb dX9_isRight_321 (by decide) ?_
                                refine lv_iload hx hb dX9_isRight_322 (lv_at hl 12 rfl) ?_
                                refine lv_imul hx hb dX9_isRight_324 ?_
                                refine lv_topi (fun z_53 ez_53 => ?_)
                                obtain rfl : z_53 = nI (2 * i) := ez_53.trans (pk_mul 2 i)
                                refine lv_iadd hx hb dX9_isRight_325 ?_
                                refine lv_topi (fun z_54 ez_54 => ?_)
                                obtain rfl : z_54 = nI (w * q0 + 1 + (2 * i)) := ez_54.trans (nI_add (w * q0 + 1) (2 * i))
                                refine va_iald hx hb hK hP 2 1 rfl rfl (show vp_in (nI (w * q0 + 1 + (2 * i))) (w * b) from vp_in_nI (by omega) (by omega)) dX9_isRight_326 ?_
                                refine lv_topi (fun z_55 ez_55 => ?_)
                                obtain rfl : z_55 = d (w * q0 + 1 + (2 * i)) := ez_55.trans (congrArg d (nI_clamp (by omega)))
                                refine lv_istore (lv' := [(12, .int (d (w * q0 + 1 + (2 * i)))), (11, .int 1), (0, .ref h0), (1, .int (nI r0)), (2, .int (nI q0)), (3, .int (nI dp)), (4, .int p3), (5, .int p4), (6, .int p5), (7, .int p6), (8, .int (nI (w * q0))), (9, .int (nI n9)), (10, .int (nI i))]) hx hb dX9_isRight_327 hl (by decide) rfl (fun ls hl9 => ?_)
                                replace hl := hl9
                                clear hl9
                                exact jn_25 1 (d (w * q0 + 1 + (2 * i))) _ _ _ hP hD hS (lv_sub hl [2, 3, 4, 5, 6, 7, 8, 9, 10, 11, 12, 1, 0] rfl)
                              · refine lv_aload_n hx hb dX9_isRight_291 rfl (lv_at hl 2 rfl) ?_
                                refine va_get (D := (dC, dI)) (ci := 9) (v := .ref a_disk) (C := RX9) (T := TX9) (N := 50) hx hb hts k_1 hown hK hP 1 rfl rfl 6 (by decide) k_5 (fun _ h9 => h9) rfl dX9_isRight_292 ?_
                                refine lv_iload hx hb dX9_isRight_295 (lv_at hl 10 rfl) ?_
                                refine lv_iconst (v := 1) hx hb dX9_isRight_297 (by decide) ?_
                                refine lv_iadd hx hb dX9_isRight_298 ?_
                                refine lv_topi (fun z_56 ez_56 => ?_)
                                obtain rfl : z_56 = nI (w * q0 + 1) := ez_56.trans (nI_add (w * q0) 1)
                                refine lv_iconst (v := 2) hx hb dX9_isRight_299 (by decide) ?_
                                refine lv_iload hx hb dX9_isRight_300 (lv_at hl 12 rfl) ?_
                                refine lv_imul hx hb dX9_isRight_302 ?_
                                refine lv_topi (fun z_57 ez_57 => ?_)
                                obtain rfl : z_57 = nI (2 * i) := ez_57.trans (pk_mul 2 i)
                                refine lv_iadd hx hb dX9_isRight_303 ?_
                                refine lv_topi (fun z_58 ez_58 => ?_)
                                obtain rfl : z_58 = nI (w * q0 + 1 + (2 * i)) := ez_58.trans (nI_add (w * q0 + 1) (2 * i))
                                refine va_iald hx hb hK hP 2 1 rfl rfl (show vp_in (nI (w * q0 + 1 + (2 * i))) (w * b) from vp_in_nI (by omega) (by omega)) dX9_isRight_304 ?_
                                refine lv_topi (fun z_59 ez_59 => ?_)
                                obtain rfl : z_59 = d (w * q0 + 1 + (2 * i)) := ez_59.trans (congrArg d (nI_clamp (by omega)))
                                refine lv_iload hx hb dX9_isRight_305 (lv_at hl 0 rfl) ?_
                                refine lv_icmp_le (tgt := 329) hx hb dX9_isRight_307 (by decide) (fun c_60 => ?_) (fun c_60 => ?_)
                                · exact jn_25 p3 p4 _ _ _ hP hD hS (lv_sub hl [2, 3, 4, 5, 6, 7, 8, 9, 10, 11, 12, 1, 0] rfl)
                                · refine lv_iconst (v := 1) hx hb dX9_isRight_310 (by decide) ?_
                                  refine lv_istore (lv' := [(11, .int 1), (12, .int p4), (0, .ref h0), (1, .int (nI r0)), (2, .int (nI q0)), (3, .int (nI dp)), (4, .int p3), (5, .int p4), (6, .int p5), (7, .int p6), (8, .int (nI (w * q0))), (9, .int (nI n9)), (10, .int (nI i))]) hx hb dX9_isRight_311 hl (by decide) rfl (fun ls hl9 => ?_)
                                  replace hl := hl9
                                  clear hl9
                                  refine lv_aload_n hx hb dX9_isRight_313 rfl (lv_at hl 2 rfl) ?_
                                  refine va_get (D := (dC, dI)) (ci := 9) (v := .ref a_disk) (C := RX9) (T := TX9) (N := 50) hx hb hts k_1 hown hK hP 1 rfl rfl 6 (by decide) k_5 (fun _ h9 => h9) rfl dX9_isRight_314 ?_
                                  refine lv_iload hx hb dX9_isRight_317 (lv_at hl 10 rfl) ?_
                                  refine lv_iconst (v := 1) hx hb dX9_isRight_319 (by decide) ?_
                                  refine lv_iadd hx hb dX9_isRight_320 ?_
                                  refine lv_topi (fun z_61 ez_61 => ?_)
                                  obtain rfl : z_61 = nI (w * q0 + 1) := ez_61.trans (nI_add (w * q0) 1)
                                  refine lv_iconst (v := 2) hx hb dX9_isRight_321 (by decide) ?_
                                  refine lv_iload hx hb dX9_isRight_322 (lv_at hl 12 rfl) ?_
                                  refine lv_imul hx hb dX9_isRight_324 ?_
                                  refine lv_topi (fun z_62 ez_62 => ?_)
                                  obtain rfl : z_62 = nI (2 * i) := ez_62.trans (pk_mul 2 i)
                                  refine lv_iadd hx hb dX9_isRight_325 ?_
                                  refine lv_topi (fun z_63 ez_63 => ?_)
                                  obtain rfl : z_63 = nI (w * q0 + 1 + (2 * i)) := ez_63.trans (nI_add (w * q0 + 1) (2 * i))
                                  refine va_iald hx hb hK hP 2 1 rfl rfl (show vp_in (nI (w * q0 + 1 + (2 * i))) (w * b) from vp_in_nI (by omega) (by omega)) dX9_isRight_326 ?_
                                  refine lv_topi (fun z_64 ez_64 => ?_)
                                  obtain rfl : z_64 = d (w * q0 + 1 + (2 * i)) := ez_64.trans (congrArg d (nI_clamp (by omega)))
                                  refine lv_istore (lv' := [(12, .int (d (w * q0 + 1 + (2 * i)))), (11, .int 1), (0, .ref h0), (1, .int (nI r0)), (2, .int (nI q0)), (3, .int (nI dp)), (4, .int p3), (5, .int p4), (6, .int p5), (7, .int p6), (8, .int (nI (w * q0))), (9, .int (nI n9)), (10, .int (nI i))]) hx hb dX9_isRight_327 hl (by decide) rfl (fun ls hl9 => ?_)
                                  replace hl := hl9
                                  clear hl9
                                  exact jn_25 1 (d (w * q0 + 1 + (2 * i))) _ _ _ hP hD hS (lv_sub hl [2, 3, 4, 5, 6, 7, 8, 9, 10, 11, 12, 1, 0] rfl)
                      exact loop_266 (n9 + 1) 0 v_leafDepth v_found v_lastKey v_hasLast rc1 _ _ _ (by omega) (by omega) (irF_start _ _ _ _ _ _ _ _ _ _) hP hD hS (lv_sub hl [3, 4, 5, 6, 7, 8, 9, 10, 2, 1, 0] rfl)
                    · have n_c_23 : ¬ n9 ≤ cm := fun h9 => c_23 ((nI_leI (a := n9) (b := cm) (by omega) (by omega)).mpr h9)
                      refine lv_iconst (v := 0) hx hb dX9_isRight_261 (by decide) ?_
                      have hP9 := hP.sub (ws' := [MO9 h0 (nI w) (nI b) (nI lm) (nI cm) (nI li) (nI ci) a_disk v_isDown v_isArmed v_armedWrites v_armedWords v_writes a_kind a_many a_block a_keys a_vals a_isFresh a_kindWas a_manyWas a_blockWas a_keysWas a_valsWas a_freshWas v_root v_rootWas v_latest v_epoch a_reached a_oldKeys a_oldVals a_allKeys a_allVals v_oldMany v_allMany a_row a_written v_writtenMany a_path a_place v_depth a_freeRow v_isOther v_moved a_bothKeys a_bothVals v_leafDepth v_found v_lastKey v_hasLast, MA9 a_disk cI (w * b) d, MA9 a_reached cZ 240 rc1]) [1, 2, 0] rfl
                      have hD9 := hD.sub (ws' := [MO9 h0 (nI w) (nI b) (nI lm) (nI cm) (nI li) (nI ci) a_disk v_isDown v_isArmed v_armedWrites v_armedWords v_writes a_kind a_many a_block a_keys a_vals a_isFresh a_kindWas a_manyWas a_blockWas a_keysWas a_valsWas a_freshWas v_root v_rootWas v_latest v_epoch a_reached a_oldKeys a_oldVals a_allKeys a_allVals v_oldMany v_allMany a_row a_written v_writtenMany a_path a_place v_depth a_freeRow v_isOther v_moved a_bothKeys a_bothVals v_leafDepth v_found v_lastKey v_hasLast, MA9 a_disk cI (w * b) d, MA9 a_reached cZ 240 rc1]) [1, 2, 0] (by decide) rfl
                      have hK9 := hK.sub (tys' := [(cI, .int), (cZ, .boolean)]) [1, 0] rfl
                      exact W.zret (v := 0) hx hb hr rfl (fun t ht hW => ⟨⟨0, (v_leafDepth, v_found, v_lastKey, v_hasLast, rc1), rfl, (Or.inl rfl), by rw [ht]; exact hP9, va_K.moved hW.alike hK9, hD9⟩, hS.F ht⟩) hS.2.2 dX9_isRight_262
              · refine lv_iload hx hb dX9_isRight_101 (lv_at hl 0 rfl) ?_
                refine lv_iconst (v := 1) hx hb dX9_isRight_103 (by decide) ?_
                refine lv_icmp_lt (tgt := 131) hx hb dX9_isRight_104 (by decide) (fun c_65 => ?_) (fun c_65 => ?_)
                · refine lv_iconst (v := 0) hx hb dX9_isRight_131 (by decide) ?_
                  have hP9 := hP.sub (ws' := [MO9 h0 (nI w) (nI b) (nI lm) (nI cm) (nI li) (nI ci) a_disk v_isDown v_isArmed v_armedWrites v_armedWords v_writes a_kind a_many a_block a_keys a_vals a_isFresh a_kindWas a_manyWas a_blockWas a_keysWas a_valsWas a_freshWas v_root v_rootWas v_latest v_epoch a_reached a_oldKeys a_oldVals a_allKeys a_allVals v_oldMany v_allMany a_row a_written v_writtenMany a_path a_place v_depth a_freeRow v_isOther v_moved a_bothKeys a_bothVals v_leafDepth v_found v_lastKey v_hasLast, MA9 a_disk cI (w * b) d, MA9 a_reached cZ 240 rc1]) [1, 2, 0] rfl
                  have hD9 := hD.sub (ws' := [MO9 h0 (nI w) (nI b) (nI lm) (nI cm) (nI li) (nI ci) a_disk v_isDown v_isArmed v_armedWrites v_armedWords v_writes a_kind a_many a_block a_keys a_vals a_isFresh a_kindWas a_manyWas a_blockWas a_keysWas a_valsWas a_freshWas v_root v_rootWas v_latest v_epoch a_reached a_oldKeys a_oldVals a_allKeys a_allVals v_oldMany v_allMany a_row a_written v_writtenMany a_path a_place v_depth a_freeRow v_isOther v_moved a_bothKeys a_bothVals v_leafDepth v_found v_lastKey v_hasLast, MA9 a_disk cI (w * b) d, MA9 a_reached cZ 240 rc1]) [1, 2, 0] (by decide) rfl
                  have hK9 := hK.sub (tys' := [(cI, .int), (cZ, .boolean)]) [1, 0] rfl
                  exact W.zret (v := 0) hx hb hr rfl (fun t ht hW => ⟨⟨0, (v_leafDepth, v_found, v_lastKey, v_hasLast, rc1), rfl, (Or.inl rfl), by rw [ht]; exact hP9, va_K.moved hW.alike hK9, hD9⟩, hS.F ht⟩) hS.2.2 dX9_isRight_132
                · obtain ⟨n9, hn9, en9⟩ := nI_of (x := d (w * q0 + 1)) (fun h9 => c_65 (Int32.lt_trans h9 (by decide)))
                  have hl : lv_has ls 15 [(9, .int (nI n9)), (8, .int (nI (w * q0))), (0, .ref h0), (1, .int (nI r0)), (2, .int (nI q0)), (3, .int (nI dp)), (4, .int p3), (5, .int p4), (6, .int p5), (7, .int p6)] := by rw [← en9]; exact hl
                  have hn1 : 1 ≤ n9 := Nat.le_of_not_lt (fun h9 => c_65 (by rw [en9]; exact nI_lt (b := 1) h9 (by decide)))
                  refine lv_iload hx hb dX9_isRight_107 (lv_at hl 0 rfl) ?_
                  refine lv_aload_n hx hb dX9_isRight_109 rfl (lv_at hl 2 rfl) ?_
                  refine va_get (D := (dC, dI)) (ci := 9) (v := .int (nI lm)) (C := RX9) (T := TX9) (N := 50) hx hb hts k_1 hown hK hP 1 rfl rfl 2 (by decide) k_7 (fun _ h9 => h9) rfl dX9_isRight_110 ?_
                  refine lv_icmp_gt (tgt := 131) hx hb dX9_isRight_113 (by decide) (fun c_66 => ?_) (fun c_66 => ?_)
                  · have n_c_66 : lm < n9 := (nI_ltI (a := lm) (b := n9) (by omega) (by omega)).mp c_66
                    refine lv_iconst (v := 0) hx hb dX9_isRight_131 (by decide) ?_
                    have hP9 := hP.sub (ws' := [MO9 h0 (nI w) (nI b) (nI lm) (nI cm) (nI li) (nI ci) a_disk v_isDown v_isArmed v_armedWrites v_armedWords v_writes a_kind a_many a_block a_keys a_vals a_isFresh a_kindWas a_manyWas a_blockWas a_keysWas a_valsWas a_freshWas v_root v_rootWas v_latest v_epoch a_reached a_oldKeys a_oldVals a_allKeys a_allVals v_oldMany v_allMany a_row a_written v_writtenMany a_path a_place v_depth a_freeRow v_isOther v_moved a_bothKeys a_bothVals v_leafDepth v_found v_lastKey v_hasLast, MA9 a_disk cI (w * b) d, MA9 a_reached cZ 240 rc1]) [1, 2, 0] rfl
                    have hD9 := hD.sub (ws' := [MO9 h0 (nI w) (nI b) (nI lm) (nI cm) (nI li) (nI ci) a_disk v_isDown v_isArmed v_armedWrites v_armedWords v_writes a_kind a_many a_block a_keys a_vals a_isFresh a_kindWas a_manyWas a_blockWas a_keysWas a_valsWas a_freshWas v_root v_rootWas v_latest v_epoch a_reached a_oldKeys a_oldVals a_allKeys a_allVals v_oldMany v_allMany a_row a_written v_writtenMany a_path a_place v_depth a_freeRow v_isOther v_moved a_bothKeys a_bothVals v_leafDepth v_found v_lastKey v_hasLast, MA9 a_disk cI (w * b) d, MA9 a_reached cZ 240 rc1]) [1, 2, 0] (by decide) rfl
                    have hK9 := hK.sub (tys' := [(cI, .int), (cZ, .boolean)]) [1, 0] rfl
                    exact W.zret (v := 0) hx hb hr rfl (fun t ht hW => ⟨⟨0, (v_leafDepth, v_found, v_lastKey, v_hasLast, rc1), rfl, (Or.inl rfl), by rw [ht]; exact hP9, va_K.moved hW.alike hK9, hD9⟩, hS.F ht⟩) hS.2.2 dX9_isRight_132
                  · have n_c_66 : ¬ lm < n9 := fun h9 => c_66 ((nI_ltI (a := lm) (b := n9) (by omega) (by omega)).mpr h9)
                    have hn2 : n9 ≤ lm := Nat.le_of_not_lt n_c_66
                    refine lv_aload_n hx hb dX9_isRight_116 rfl (lv_at hl 2 rfl) ?_
                    refine va_get (D := (dC, dI)) (ci := 9) (v := .int v_leafDepth) (C := RX9) (T := TX9) (N := 50) hx hb hts k_1 hown hK hP 1 rfl rfl 46 (by decide) k_8 (fun _ h9 => h9) rfl dX9_isRight_117 ?_
                    refine lv_if_eq (tgt := 133) hx hb dX9_isRight_120 (by decide) (fun c_67 => ?_) (fun c_67 => ?_)
                    · have hlf : v_leafDepth = 0 ∨ v_leafDepth = nI dp := by first | exact Or.inl c_67 | exact Or.inr c_67
                      refine lv_aload_n hx hb dX9_isRight_133 rfl (lv_at hl 2 rfl) ?_
                      refine lv_iload_n hx hb dX9_isRight_134 rfl (lv_at hl 5 rfl) ?_
                      refine va_put (D := (dC, dI)) (ci := 9) (v := .int (nI dp)) (ty := .int) (C := RX9) (T := TX9) (N := 50) hx hb hts k_1 tyX9 tyX9_ok nmX9 hown hK hP hD hS 1 rfl rfl 46 (by decide) k_8 (fun _ h9 => h9) rfl (by decide +kernel) rfl rfl (Nat.le_of_ble_eq_true rfl) dX9_isRight_135 (fun H locs hP9 hD9 hS9 => ?_)
                      replace hP := hP9
                      replace hD := hD9
                      replace hS := hS9
                      clear hP9 hD9 hS9
                      replace hP : va_P (dC, dI) vwCl [MA9 a_reached cZ 240 rc1, MO9 h0 (nI w) (nI b) (nI lm) (nI cm) (nI li) (nI ci) a_disk v_isDown v_isArmed v_armedWrites v_armedWords v_writes a_kind a_many a_block a_keys a_vals a_isFresh a_kindWas a_manyWas a_blockWas a_keysWas a_valsWas a_freshWas v_root v_rootWas v_latest v_epoch a_reached a_oldKeys a_oldVals a_allKeys a_allVals v_oldMany v_allMany a_row a_written v_writtenMany a_path a_place v_depth a_freeRow v_isOther v_moved a_bothKeys a_bothVals (nI dp) v_found v_lastKey v_hasLast, MA9 a_disk cI (w * b) d] H := hP
                      replace hD : va_D A [MA9 a_reached cZ 240 rc1, MO9 h0 (nI w) (nI b) (nI lm) (nI cm) (nI li) (nI ci) a_disk v_isDown v_isArmed v_armedWrites v_armedWords v_writes a_kind a_many a_block a_keys a_vals a_isFresh a_kindWas a_manyWas a_blockWas a_keysWas a_valsWas a_freshWas v_root v_rootWas v_latest v_epoch a_reached a_oldKeys a_oldVals a_allKeys a_allVals v_oldMany v_allMany a_row a_written v_writtenMany a_path a_place v_depth a_freeRow v_isOther v_moved a_bothKeys a_bothVals (nI dp) v_found v_lastKey v_hasLast, MA9 a_disk cI (w * b) d] := hD
                      refine lv_iconst (v := 0) hx hb dX9_isRight_138 (by decide) ?_
                      refine lv_istore (lv' := [(10, .int 0), (9, .int (nI n9)), (8, .int (nI (w * q0))), (0, .ref h0), (1, .int (nI r0)), (2, .int (nI q0)), (3, .int (nI dp)), (4, .int p3), (5, .int p4), (6, .int p5), (7, .int p6)]) hx hb dX9_isRight_139 hl (by decide) rfl (fun ls hl9 => ?_)
                      replace hl := hl9
                      clear hl9
                      refine jn_cut (P := fun Q => ∀ (nf i : Nat) (fov : Int32) (lkv : Int32) (hlv : Int32) (H : Heap) (locs : List Loc) (ls : Array Slot), i ≤ n9 → n9 + 1 ≤ i + nf → va_P (dC, dI) vwCl [MA9 a_reached cZ 240 rc1, MO9 h0 (nI w) (nI b) (nI lm) (nI cm) (nI li) (nI ci) a_disk v_isDown v_isArmed v_armedWrites v_armedWords v_writes a_kind a_many a_block a_keys a_vals a_isFresh a_kindWas a_manyWas a_blockWas a_keysWas a_valsWas a_freshWas v_root v_rootWas v_latest v_epoch a_reached a_oldKeys a_oldVals a_allKeys a_allVals v_oldMany v_allMany a_row a_written v_writtenMany a_path a_place v_depth a_freeRow v_isOther v_moved a_bothKeys a_bothVals (nI dp) fov lkv hlv, MA9 a_disk cI (w * b) d] H → va_D A [MA9 a_reached cZ 240 rc1, MO9 h0 (nI w) (nI b) (nI lm) (nI cm) (nI li) (nI ci) a_disk v_isDown v_isArmed v_armedWrites v_armedWords v_writes a_kind a_many a_block a_keys a_vals a_isFresh a_kindWas a_manyWas a_blockWas a_keysWas a_valsWas a_freshWas v_root v_rootWas v_latest v_epoch a_reached a_oldKeys a_oldVals a_allKeys a_allVals v_oldMany v_allMany a_row a_written v_writtenMany a_path a_place v_depth a_freeRow v_isOther v_moved a_bothKeys a_bothVals (nI dp) fov lkv hlv, MA9 a_disk cI (w * b) d] → va_S A s.heap H locs → lv_has ls 15 [(0, .ref h0), (1, .int (nI r0)), (2, .int (nI q0)), (3, .int (nI dp)), (4, .int p3), (5, .int p4), (6, .int p5), (7, .int p6), (8, .int (nI (w * q0))), (9, .int (nI n9)), (10, .int (nI i))] → W p l e (headSpec v_X9_isRight ({ frames := fu + 1 + 2, cells := 0, slots := 0, locals := 200 * (fu + 1) + 200 } : Room)).room s m ([.ref h0, .int (nI r0), .int p1, .int (nI dp), .int p3, .int p4, .int p5, .int p6] : List Value).toArray below meth c H locs 0 0 Q (F0 m 141 ls [])) ?_ (fun loop_141 => ?_)
                      · intro nf
                        induction nf with
                        | zero =>
                          intro i fov lkv hlv H locs ls h1 h2
                          exact absurd h2 (by omega)
                        | succ nf ih_141 =>
                          intro i fov lkv hlv H locs ls hi hn hP hD hS hl
                          refine lv_iload hx hb dX9_isRight_141 (lv_at hl 10 rfl) ?_
                          refine lv_iload hx hb dX9_isRight_143 (lv_at hl 9 rfl) ?_
                          refine lv_icmp_ge (tgt := 233) hx hb dX9_isRight_145 (by decide) (fun c_68 => ?_) (fun c_68 => ?_)
                          · have n_c_68 : n9 ≤ i := (nI_leI (a := n9) (b := i) (by omega) (by omega)).mp c_68
                            refine lv_iconst (v := 1) hx hb dX9_isRight_233 (by decide) ?_
                            have hP9 := hP.sub (ws' := [MO9 h0 (nI w) (nI b) (nI lm) (nI cm) (nI li) (nI ci) a_disk v_isDown v_isArmed v_armedWrites v_armedWords v_writes a_kind a_many a_block a_keys a_vals a_isFresh a_kindWas a_manyWas a_blockWas a_keysWas a_valsWas a_freshWas v_root v_rootWas v_latest v_epoch a_reached a_oldKeys a_oldVals a_allKeys a_allVals v_oldMany v_allMany a_row a_written v_writtenMany a_path a_place v_depth a_freeRow v_isOther v_moved a_bothKeys a_bothVals (nI dp) fov lkv hlv, MA9 a_disk cI (w * b) d, MA9 a_reached cZ 240 rc1]) [1, 2, 0] rfl
                            have hD9 := hD.sub (ws' := [MO9 h0 (nI w) (nI b) (nI lm) (nI cm) (nI li) (nI ci) a_disk v_isDown v_isArmed v_armedWrites v_armedWords v_writes a_kind a_many a_block a_keys a_vals a_isFresh a_kindWas a_manyWas a_blockWas a_keysWas a_valsWas a_freshWas v_root v_rootWas v_latest v_epoch a_reached a_oldKeys a_oldVals a_allKeys a_allVals v_oldMany v_allMany a_row a_written v_writtenMany a_path a_place v_depth a_freeRow v_isOther v_moved a_bothKeys a_bothVals (nI dp) fov lkv hlv, MA9 a_disk cI (w * b) d, MA9 a_reached cZ 240 rc1]) [1, 2, 0] (by decide) rfl
                            have hK9 := hK.sub (tys' := [(cI, .int), (cZ, .boolean)]) [1, 0] rfl
                            exact W.zret (v := 1) hx hb hr rfl (fun t ht hW => ⟨⟨1, (nI dp, fov, lkv, hlv, rc1), rfl, (by rw [eq0]; exact isR_leaf hq1 hqb c_19 en9 hn1 hn2 zlm (by omega) hlf h00 erc1), by rw [ht]; exact hP9, va_K.moved hW.alike hK9, hD9⟩, hS.F ht⟩) hS.2.2 dX9_isRight_234
                          · have n_c_68 : ¬ n9 ≤ i := fun h9 => c_68 ((nI_leI (a := n9) (b := i) (by omega) (by omega)).mpr h9)
                            refine lv_aload_n hx hb dX9_isRight_148 rfl (lv_at hl 0 rfl) ?_
                            refine va_get (D := (dC, dI)) (ci := 9) (v := .ref a_disk) (C := RX9) (T := TX9) (N := 50) hx hb hts k_1 hown hK hP 1 rfl rfl 6 (by decide) k_5 (fun _ h9 => h9) rfl dX9_isRight_149 ?_
                            refine lv_iload hx hb dX9_isRight_152 (lv_at hl 8 rfl) ?_
                            refine lv_iconst (v := 2) hx hb dX9_isRight_154 (by decide) ?_
                            refine lv_iadd hx hb dX9_isRight_155 ?_
                            refine lv_topi (fun z_69 ez_69 => ?_)
                            obtain rfl : z_69 = nI (w * q0 + 2) := ez_69.trans (nI_add (w * q0) 2)
                            refine lv_iconst (v := 2) hx hb dX9_isRight_156 (by decide) ?_
                            refine lv_iload hx hb dX9_isRight_157 (lv_at hl 10 rfl) ?_
                            refine lv_imul hx hb dX9_isRight_159 ?_
                            refine lv_topi (fun z_70 ez_70 => ?_)
                            obtain rfl : z_70 = nI (2 * i) := ez_70.trans (pk_mul 2 i)
                            refine lv_iadd hx hb dX9_isRight_160 ?_
                            refine lv_topi (fun z_71 ez_71 => ?_)
                            obtain rfl : z_71 = nI (w * q0 + 2 + (2 * i)) := ez_71.trans (nI_add (w * q0 + 2) (2 * i))
                            refine va_iald hx hb hK hP 2 1 rfl rfl (show vp_in (nI (w * q0 + 2 + (2 * i))) (w * b) from vp_in_nI (by omega) (by omega)) dX9_isRight_161 ?_
                            refine lv_topi (fun z_72 ez_72 => ?_)
                            obtain rfl : z_72 = d (w * q0 + 2 + (2 * i)) := ez_72.trans (congrArg d (nI_clamp (by omega)))
                            refine lv_istore (lv' := [(11, .int (d (w * q0 + 2 + (2 * i)))), (0, .ref h0), (1, .int (nI r0)), (2, .int (nI q0)), (3, .int (nI dp)), (4, .int p3), (5, .int p4), (6, .int p5), (7, .int p6), (8, .int (nI (w * q0))), (9, .int (nI n9)), (10, .int (nI i))]) hx hb dX9_isRight_162 hl (by decide) rfl (fun ls hl9 => ?_)
                            replace hl := hl9
                            clear hl9
                            refine jn_cut (P := fun Q => ∀ (H : Heap) (locs : List Loc) (ls : Array Slot), va_P (dC, dI) vwCl [MA9 a_reached cZ 240 rc1, MO9 h0 (nI w) (nI b) (nI lm) (nI cm) (nI li) (nI ci) a_disk v_isDown v_isArmed v_armedWrites v_armedWords v_writes a_kind a_many a_block a_keys a_vals a_isFresh a_kindWas a_manyWas a_blockWas a_keysWas a_valsWas a_freshWas v_root v_rootWas v_latest v_epoch a_reached a_oldKeys a_oldVals a_allKeys a_allVals v_oldMany v_allMany a_row a_written v_writtenMany a_path a_place v_depth a_freeRow v_isOther v_moved a_bothKeys a_bothVals (nI dp) fov lkv hlv, MA9 a_disk cI (w * b) d] H → va_D A [MA9 a_reached cZ 240 rc1, MO9 h0 (nI w) (nI b) (nI lm) (nI cm) (nI li) (nI ci) a_disk v_isDown v_isArmed v_armedWrites v_armedWords v_writes a_kind a_many a_block a_keys a_vals a_isFresh a_kindWas a_manyWas a_blockWas a_keysWas a_valsWas a_freshWas v_root v_rootWas v_latest v_epoch a_reached a_oldKeys a_oldVals a_allKeys a_allVals v_oldMany v_allMany a_row a_written v_writtenMany a_path a_place v_depth a_freeRow v_isOther v_moved a_bothKeys a_bothVals (nI dp) fov lkv hlv, MA9 a_disk cI (w * b) d] → va_S A s.heap H locs → lv_has ls 15 [(11, .int (d (w * q0 + 2 + (2 * i)))), (0, .ref h0), (1, .int (nI r0)), (2, .int (nI q0)), (3, .int (nI dp)), (4, .int p3), (5, .int p4), (6, .int p5), (7, .int p6), (8, .int (nI (w * q0))), (9, .int (nI n9)), (10, .int (nI i))] → W p l e (headSpec v_X9_isRight ({ frames := fu + 1 + 2, cells := 0, slots := 0, locals := 200 * (fu + 1) + 200 } : Room)).room s m ([.ref h0, .int (nI r0), .int p1, .int (nI dp), .int p3, .int p4, .int p5, .int p6] : List Value).toArray below meth c H locs 0 0 Q (F0 m 206 ls [])) ?_ (fun jn_73 => ?_)
                            · intro H locs ls hP hD hS hl
                              refine lv_aload_n hx hb dX9_isRight_206 rfl (lv_at hl 1 rfl) ?_
                              refine lv_iconst (v := 1) hx hb dX9_isRight_207 (by decide) ?_
                              refine va_put (D := (dC, dI)) (ci := 9) (v := .int 1) (ty := .boolean) (C := RX9) (T := TX9) (N := 50) hx hb hts k_1 tyX9 tyX9_ok nmX9 hown hK hP hD hS 1 rfl rfl 49 (by decide) k_9 (fun _ h9 => h9) rfl (by decide +kernel) rfl rfl (Nat.le_of_ble_eq_true rfl) dX9_isRight_208 (fun H locs hP9 hD9 hS9 => ?_)
                              replace hP := hP9
                              replace hD := hD9
                              replace hS := hS9
                              clear hP9 hD9 hS9
                              replace hP : va_P (dC, dI) vwCl [MA9 a_reached cZ 240 rc1, MO9 h0 (nI w) (nI b) (nI lm) (nI cm) (nI li) (nI ci) a_disk v_isDown v_isArmed v_armedWrites v_armedWords v_writes a_kind a_many a_block a_keys a_vals a_isFresh a_kindWas a_manyWas a_blockWas a_keysWas a_valsWas a_freshWas v_root v_rootWas v_latest v_epoch a_reached a_oldKeys a_oldVals a_allKeys a_allVals v_oldMany v_allMany a_row a_written v_writtenMany a_path a_place v_depth a_freeRow v_isOther v_moved a_bothKeys a_bothVals (nI dp) fov lkv 1, MA9 a_disk cI (w * b) d] H := hP
                              replace hD : va_D A [MA9 a_reached cZ 240 rc1, MO9 h0 (nI w) (nI b) (nI lm) (nI cm) (nI li) (nI ci) a_disk v_isDown v_isArmed v_armedWrites v_armedWords v_writes a_kind a_many a_block a_keys a_vals a_isFresh a_kindWas a_manyWas a_blockWas a_keysWas a_valsWas a_freshWas v_root v_rootWas v_latest v_epoch a_reached a_oldKeys a_oldVals a_allKeys a_allVals v_oldMany v_allMany a_row a_written v_writtenMany a_path a_place v_depth a_freeRow v_isOther v_moved a_bothKeys a_bothVals (nI dp) fov lkv 1, MA9 a_disk cI (w * b) d] := hD
                              refine lv_aload_n hx hb dX9_isRight_211 rfl (lv_at hl 1 rfl) ?_
                              refine lv_iload hx hb dX9_isRight_212 (lv_at hl 0 rfl) ?_
                              refine va_put (D := (dC, dI)) (ci := 9) (v := .int (d (w * q0 + 2 + (2 * i)))) (ty := .int) (C := RX9) (T := TX9) (N := 50) hx hb hts k_1 tyX9 tyX9_ok nmX9 hown hK hP hD hS 1 rfl rfl 48 (by decide) k_10 (fun _ h9 => h9) rfl (by decide +kernel) rfl rfl (Nat.le_of_ble_eq_true rfl) dX9_isRight_214 (fun H locs hP9 hD9 hS9 => ?_)
                              replace hP := hP9
                              replace hD := hD9
                              replace hS := hS9
                              clear hP9 hD9 hS9
                              replace hP : va_P (dC, dI) vwCl [MA9 a_reached cZ 240 rc1, MO9 h0 (nI w) (nI b) (nI lm) (nI cm) (nI li) (nI ci) a_disk v_isDown v_isArmed v_armedWrites v_armedWords v_writes a_kind a_many a_block a_keys a_vals a_isFresh a_kindWas a_manyWas a_blockWas a_keysWas a_valsWas a_freshWas v_root v_rootWas v_latest v_epoch a_reached a_oldKeys a_oldVals a_allKeys a_allVals v_oldMany v_allMany a_row a_written v_writtenMany a_path a_place v_depth a_freeRow v_isOther v_moved a_bothKeys a_bothVals (nI dp) fov (d (w * q0 + 2 + (2 * i))) 1, MA9 a_disk cI (w * b) d] H := hP
                              replace hD : va_D A [MA9 a_reached cZ 240 rc1, MO9 h0 (nI w) (nI b) (nI lm) (nI cm) (nI li) (nI ci) a_disk v_isDown v_isArmed v_armedWrites v_armedWords v_writes a_kind a_many a_block a_keys a_vals a_isFresh a_kindWas a_manyWas a_blockWas a_keysWas a_valsWas a_freshWas v_root v_rootWas v_latest v_epoch a_reached a_oldKeys a_oldVals a_allKeys a_allVals v_oldMany v_allMany a_row a_written v_writtenMany a_path a_place v_depth a_freeRow v_isOther v_moved a_bothKeys a_bothVals (nI dp) fov (d (w * q0 + 2 + (2 * i))) 1, MA9 a_disk cI (w * b) d] := hD
                              refine lv_aload_n hx hb dX9_isRight_217 rfl (lv_at hl 1 rfl) ?_
                              refine lv_dup hx hb dX9_isRight_218 rfl ?_
                              refine va_get (D := (dC, dI)) (ci := 9) (v := .int fov) (C := RX9) (T := TX9) (N := 50) hx hb hts k_1 hown hK hP 1 rfl rfl 47 (by decide) k_11 (fun _ h9 => h9) rfl dX9_isRight_219 ?_
                              refine lv_iconst (v := 1) hx hb dX9_isRight_222 (by decide) ?_
                              refine lv_iadd hx hb dX9_isRight_223 ?_
                              refine lv_topi (fun z_74 _ => ?_)
                              refine va_put (D := (dC, dI)) (ci := 9) (v := .int z_74) (ty := .int) (C := RX9) (T := TX9) (N := 50) hx hb hts k_1 tyX9 tyX9_ok nmX9 hown hK hP hD hS 1 rfl rfl 47 (by decide) k_11 (fun _ h9 => h9) rfl (by decide +kernel) rfl rfl (Nat.le_of_ble_eq_true rfl) dX9_isRight_224 (fun H locs hP9 hD9 hS9 => ?_)
                              replace hP := hP9
                              replace hD := hD9
                              replace hS := hS9
                              clear hP9 hD9 hS9
                              replace hP : va_P (dC, dI) vwCl [MA9 a_reached cZ 240 rc1, MO9 h0 (nI w) (nI b) (nI lm) (nI cm) (nI li) (nI ci) a_disk v_isDown v_isArmed v_armedWrites v_armedWords v_writes a_kind a_many a_block a_keys a_vals a_isFresh a_kindWas a_manyWas a_blockWas a_keysWas a_valsWas a_freshWas v_root v_rootWas v_latest v_epoch a_reached a_oldKeys a_oldVals a_allKeys a_allVals v_oldMany v_allMany a_row a_written v_writtenMany a_path a_place v_depth a_freeRow v_isOther v_moved a_bothKeys a_bothVals (nI dp) z_74 (d (w * q0 + 2 + (2 * i))) 1, MA9 a_disk cI (w * b) d] H := hP
                              replace hD : va_D A [MA9 a_reached cZ 240 rc1, MO9 h0 (nI w) (nI b) (nI lm) (nI cm) (nI li) (nI ci) a_disk v_isDown v_isArmed v_armedWrites v_armedWords v_writes a_kind a_many a_block a_keys a_vals a_isFresh a_kindWas a_manyWas a_blockWas a_keysWas a_valsWas a_freshWas v_root v_rootWas v_latest v_epoch a_reached a_oldKeys a_oldVals a_allKeys a_allVals v_oldMany v_allMany a_row a_written v_writtenMany a_path a_place v_depth a_freeRow v_isOther v_moved a_bothKeys a_bothVals (nI dp) z_74 (d (w * q0 + 2 + (2 * i))) 1, MA9 a_disk cI (w * b) d] := hD
                              refine lv_iinc (v := (nI (i + 1))) (lv' := [(10, .int (nI (i + 1))), (11, .int (d (w * q0 + 2 + (2 * i)))), (0, .ref h0), (1, .int (nI r0)), (2, .int (nI q0)), (3, .int (nI dp)), (4, .int p3), (5, .int p4), (6, .int p5), (7, .int p6), (8, .int (nI (w * q0))), (9, .int (nI n9))]) hx hb dX9_isRight_227 hl (k := 11) rfl (nI_1 i) (by decide) rfl (fun ls hl9 => ?_)
                              replace hl := hl9
                              clear hl9
                              refine lv_goto (tgt := 141) hx hb dX9_isRight_230 (by decide) ?_
                              exact ih_141 (i + 1) z_74 (d (w * q0 + 2 + (2 * i))) 1 _ _ _ (by omega) (by omega) hP hD hS (lv_sub hl [2, 3, 4, 5, 6, 7, 8, 9, 10, 11, 0] rfl)
                            refine lv_aload_n hx hb dX9_isRight_164 rfl (lv_at hl 1 rfl) ?_
                            refine va_get (D := (dC, dI)) (ci := 9) (v := .int hlv) (C := RX9) (T := TX9) (N := 50) hx hb hts k_1 hown hK hP 1 rfl rfl 49 (by decide) k_9 (fun _ h9 => h9) rfl dX9_isRight_165 ?_
                            refine lv_if_eq (tgt := 180) hx hb dX9_isRight_168 (by decide) (fun c_75 => ?_) (fun c_75 => ?_)
                            · refine lv_iload hx hb dX9_isRight_180 (lv_at hl 5 rfl) ?_
                              refine lv_if_eq (tgt := 192) hx hb dX9_isRight_182 (by decide) (fun c_76 => ?_) (fun c_76 => ?_)
                              · refine lv_iload hx hb dX9_isRight_192 (lv_at hl 7 rfl) ?_
                                refine lv_if_eq (tgt := 206) hx hb dX9_isRight_194 (by decide) (fun c_77 => ?_) (fun c_77 => ?_)
                                · exact jn_73 _ _ _ hP hD hS (lv_sub hl [0, 1, 2, 3, 4, 5, 6, 7, 8, 9, 10, 11] rfl)
                                · refine lv_iload hx hb dX9_isRight_197 (lv_at hl 0 rfl) ?_
                                  refine lv_iload hx hb dX9_isRight_199 (lv_at hl 8 rfl) ?_
                                  refine lv_icmp_lt (tgt := 206) hx hb dX9_isRight_201 (by decide) (fun c_78 => ?_) (fun c_78 => ?_)
                                  · exact jn_73 _ _ _ hP hD hS (lv_sub hl [0, 1, 2, 3, 4, 5, 6, 7, 8, 9, 10, 11] rfl)
                                  · refine lv_iconst (v := 0) hx hb dX9_isRight_204 (by decide) ?_
                                    have hP9 := hP.sub (ws' := [MO9 h0 (nI w) (nI b) (nI lm) (nI cm) (nI li) (nI ci) a_disk v_isDown v_isArmed v_armedWrites v_armedWords v_writes a_kind a_many a_block a_keys a_vals a_isFresh a_kindWas a_manyWas a_blockWas a_keysWas a_valsWas a_freshWas v_root v_rootWas v_latest v_epoch a_reached a_oldKeys a_oldVals a_allKeys a_allVals v_oldMany v_allMany a_row a_written v_writtenMany a_path a_place v_depth a_freeRow v_isOther v_moved a_bothKeys a_bothVals (nI dp) fov lkv hlv, MA9 a_disk cI (w * b) d, MA9 a_reached cZ 240 rc1]) [1, 2, 0] rfl
                                    have hD9 := hD.sub (ws' := [MO9 h0 (nI w) (nI b) (nI lm) (nI cm) (nI li) (nI ci) a_disk v_isDown v_isArmed v_armedWrites v_armedWords v_writes a_kind a_many a_block a_keys a_vals a_isFresh a_kindWas a_manyWas a_blockWas a_keysWas a_valsWas a_freshWas v_root v_rootWas v_latest v_epoch a_reached a_oldKeys a_oldVals a_allKeys a_allVals v_oldMany v_allMany a_row a_written v_writtenMany a_path a_place v_depth a_freeRow v_isOther v_moved a_bothKeys a_bothVals (nI dp) fov lkv hlv, MA9 a_disk cI (w * b) d, MA9 a_reached cZ 240 rc1]) [1, 2, 0] (by decide) rfl
                                    have hK9 := hK.sub (tys' := [(cI, .int), (cZ, .boolean)]) [1, 0] rfl
                                    exact W.zret (v := 0) hx hb hr rfl (fun t ht hW => ⟨⟨0, (nI dp, fov, lkv, hlv, rc1), rfl, (Or.inl rfl), by rw [ht]; exact hP9, va_K.moved hW.alike hK9, hD9⟩, hS.F ht⟩) hS.2.2 dX9_isRight_205
                              · refine lv_iload hx hb dX9_isRight_185 (lv_at hl 0 rfl) ?_
                                refine lv_iload hx hb dX9_isRight_187 (lv_at hl 6 rfl) ?_
                                refine lv_icmp_lt (tgt := 204) hx hb dX9_isRight_189 (by decide) (fun c_79 => ?_) (fun c_79 => ?_)
                                · refine lv_iconst (v := 0) hx hb dX9_isRight_204 (by decide) ?_
                                  have hP9 := hP.sub (ws' := [MO9 h0 (nI w) (nI b) (nI lm) (nI cm) (nI li) (nI ci) a_disk v_isDown v_isArmed v_armedWrites v_armedWords v_writes a_kind a_many a_block a_keys a_vals a_isFresh a_kindWas a_manyWas a_blockWas a_keysWas a_valsWas a_freshWas v_root v_rootWas v_latest v_epoch a_reached a_oldKeys a_oldVals a_allKeys a_allVals v_oldMany v_allMany a_row a_written v_writtenMany a_path a_place v_depth a_freeRow v_isOther v_moved a_bothKeys a_bothVals (nI dp) fov lkv hlv, MA9 a_disk cI (w * b) d, MA9 a_reached cZ 240 rc1]) [1, 2, 0] rfl
                                  have hD9 := hD.sub (ws' := [MO9 h0 (nI w) (nI b) (nI lm) (nI cm) (nI li) (nI ci) a_disk v_isDown v_isArmed v_armedWrites v_armedWords v_writes a_kind a_many a_block a_keys a_vals a_isFresh a_kindWas a_manyWas a_blockWas a_keysWas a_valsWas a_freshWas v_root v_rootWas v_latest v_epoch a_reached a_oldKeys a_oldVals a_allKeys a_allVals v_oldMany v_allMany a_row a_written v_writtenMany a_path a_place v_depth a_freeRow v_isOther v_moved a_bothKeys a_bothVals (nI dp) fov lkv hlv, MA9 a_disk cI (w * b) d, MA9 a_reached cZ 240 rc1]) [1, 2, 0] (by decide) rfl
                                  have hK9 := hK.sub (tys' := [(cI, .int), (cZ, .boolean)]) [1, 0] rfl
                                  exact W.zret (v := 0) hx hb hr rfl (fun t ht hW => ⟨⟨0, (nI dp, fov, lkv, hlv, rc1), rfl, (Or.inl rfl), by rw [ht]; exact hP9, va_K.moved hW.alike hK9, hD9⟩, hS.F ht⟩) hS.2.2 dX9_isRight_205
                                · refine lv_iload hx hb dX9_isRight_192 (lv_at hl 7 rfl) ?_
                                  refine lv_if_eq (tgt := 206) hx hb dX9_isRight_194 (by decide) (fun c_80 => ?_) (fun c_80 => ?_)
                                  · exact jn_73 _ _ _ hP hD hS (lv_sub hl [0, 1, 2, 3, 4, 5, 6, 7, 8, 9, 10, 11] rfl)
                                  · refine lv_iload hx hb dX9_isRight_197 (lv_at hl 0 rfl) ?_
                                    refine lv_iload hx hb dX9_isRight_199 (lv_at hl 8 rfl) ?_
                                    refine lv_icmp_lt (tgt := 206) hx hb dX9_isRight_201 (by decide) (fun c_81 => ?_) (fun c_81 => ?_)
                                    · exact jn_73 _ _ _ hP hD hS (lv_sub hl [0, 1, 2, 3, 4, 5, 6, 7, 8, 9, 10, 11] rfl)
                                    · refine lv_iconst (v := 0) hx hb dX9_isRight_204 (by decide) ?_
                                      have hP9 := hP.sub (ws' := [MO9 h0 (nI w) (nI b) (nI lm) (nI cm) (nI li) (nI ci) a_disk v_isDown v_isArmed v_armedWrites v_armedWords v_writes a_kind a_many a_block a_keys a_vals a_isFresh a_kindWas a_manyWas a_blockWas a_keysWas a_valsWas a_freshWas v_root v_rootWas v_latest v_epoch a_reached a_oldKeys a_oldVals a_allKeys a_allVals v_oldMany v_allMany a_row a_written v_writtenMany a_path a_place v_depth a_freeRow v_isOther v_moved a_bothKeys a_bothVals (nI dp) fov lkv hlv, MA9 a_disk cI (w * b) d, MA9 a_reached cZ 240 rc1]) [1, 2, 0] rfl
                                      have hD9 := hD.sub (ws' := [MO9 h0 (nI w) (nI b) (nI lm) (nI cm) (nI li) (nI ci) a_disk v_isDown v_isArmed v_armedWrites v_armedWords v_writes a_kind a_many a_block a_keys a_vals a_isFresh a_kindWas a_manyWas a_blockWas a_keysWas a_valsWas a_freshWas v_root v_rootWas v_latest v_epoch a_reached a_oldKeys a_oldVals a_allKeys a_allVals v_oldMany v_allMany a_row a_written v_writtenMany a_path a_place v_depth a_freeRow v_isOther v_moved a_bothKeys a_bothVals (nI dp) fov lkv hlv, MA9 a_disk cI (w * b) d, MA9 a_reached cZ 240 rc1]) [1, 2, 0] (by decide) rfl
                                      have hK9 := hK.sub (tys' := [(cI, .int), (cZ, .boolean)]) [1, 0] rfl
                                      exact W.zret (v := 0) hx hb hr rfl (fun t ht hW => ⟨⟨0, (nI dp, fov, lkv, hlv, rc1), rfl, (Or.inl rfl), by rw [ht]; exact hP9, va_K.moved hW.alike hK9, hD9⟩, hS.F ht⟩) hS.2.2 dX9_isRight_205
                            · refine lv_iload hx hb dX9_isRight_171 (lv_at hl 0 rfl) ?_
                              refine lv_aload_n hx hb dX9_isRight_173 rfl (lv_at hl 1 rfl) ?_
                              refine va_get (D := (dC, dI)) (ci := 9) (v := .int lkv) (C := RX9) (T := TX9) (N := 50) hx hb hts k_1 hown hK hP 1 rfl rfl 48 (by decide) k_10 (fun _ h9 => h9) rfl dX9_isRight_174 ?_
                              refine lv_icmp_le (tgt := 204) hx hb dX9_isRight_177 (by decide) (fun c_82 => ?_) (fun c_82 => ?_)
                              · refine lv_iconst (v := 0) hx hb dX9_isRight_204 (by decide) ?_
                                have hP9 := hP.sub (ws' := [MO9 h0 (nI w) (nI b) (nI lm) (nI cm) (nI li) (nI ci) a_disk v_isDown v_isArmed v_armedWrites v_armedWords v_writes a_kind a_many a_block a_keys a_vals a_isFresh a_kindWas a_manyWas a_blockWas a_keysWas a_valsWas a_freshWas v_root v_rootWas v_latest v_epoch a_reached a_oldKeys a_oldVals a_allKeys a_allVals v_oldMany v_allMany a_row a_written v_writtenMany a_path a_place v_depth a_freeRow v_isOther v_moved a_bothKeys a_bothVals (nI dp) fov lkv hlv, MA9 a_disk cI (w * b) d, MA9 a_reached cZ 240 rc1]) [1, 2, 0] rfl
                                have hD9 := hD.sub (ws' := [MO9 h0 (nI w) (nI b) (nI lm) (nI cm) (nI li) (nI ci) a_disk v_isDown v_isArmed v_armedWrites v_armedWords v_writes a_kind a_many a_block a_keys a_vals a_isFresh a_kindWas a_manyWas a_blockWas a_keysWas a_valsWas a_freshWas v_root v_rootWas v_latest v_epoch a_reached a_oldKeys a_oldVals a_allKeys a_allVals v_oldMany v_allMany a_row a_written v_writtenMany a_path a_place v_depth a_freeRow v_isOther v_moved a_bothKeys a_bothVals (nI dp) fov lkv hlv, MA9 a_disk cI (w * b) d, MA9 a_reached cZ 240 rc1]) [1, 2, 0] (by decide) rfl
                                have hK9 := hK.sub (tys' := [(cI, .int), (cZ, .boolean)]) [1, 0] rfl
                                exact W.zret (v := 0) hx hb hr rfl (fun t ht hW => ⟨⟨0, (nI dp, fov, lkv, hlv, rc1), rfl, (Or.inl rfl), by rw [ht]; exact hP9, va_K.moved hW.alike hK9, hD9⟩, hS.F ht⟩) hS.2.2 dX9_isRight_205
                              · refine lv_iload hx hb dX9_isRight_180 (lv_at hl 5 rfl) ?_
                                refine lv_if_eq (tgt := 192) hx hb dX9_isRight_182 (by decide) (fun c_83 => ?_) (fun c_83 => ?_)
                                · refine lv_iload hx hb dX9_isRight_192 (lv_at hl 7 rfl) ?_
                                  refine lv_if_eq (tgt := 206) hx hb dX9_isRight_194 (by decide) (fun c_84 => ?_) (fun c_84 => ?_)
                                  · exact jn_73 _ _ _ hP hD hS (lv_sub hl [0, 1, 2, 3, 4, 5, 6, 7, 8, 9, 10, 11] rfl)
                                  · refine lv_iload hx hb dX9_isRight_197 (lv_at hl 0 rfl) ?_
                                    refine lv_iload hx hb dX9_isRight_199 (lv_at hl 8 rfl) ?_
                                    refine lv_icmp_lt (tgt := 206) hx hb dX9_isRight_201 (by decide) (fun c_85 => ?_) (fun c_85 => ?_)
                                    · exact jn_73 _ _ _ hP hD hS (lv_sub hl [0, 1, 2, 3, 4, 5, 6, 7, 8, 9, 10, 11] rfl)
                                    · refine lv_iconst (v := 0) hx hb dX9_isRight_204 (by decide) ?_
                                      have hP9 := hP.sub (ws' := [MO9 h0 (nI w) (nI b) (nI lm) (nI cm) (nI li) (nI ci) a_disk v_isDown v_isArmed v_armedWrites v_armedWords v_writes a_kind a_many a_block a_keys a_vals a_isFresh a_kindWas a_manyWas a_blockWas a_keysWas a_valsWas a_freshWas v_root v_rootWas v_latest v_epoch a_reached a_oldKeys a_oldVals a_allKeys a_allVals v_oldMany v_allMany a_row a_written v_writtenMany a_path a_place v_depth a_freeRow v_isOther v_moved a_bothKeys a_bothVals (nI dp) fov lkv hlv, MA9 a_disk cI (w * b) d, MA9 a_reached cZ 240 rc1]) [1, 2, 0] rfl
                                      have hD9 := hD.sub (ws' := [MO9 h0 (nI w) (nI b) (nI lm) (nI cm) (nI li) (nI ci) a_disk v_isDown v_isArmed v_armedWrites v_armedWords v_writes a_kind a_many a_block a_keys a_vals a_isFresh a_kindWas a_manyWas a_blockWas a_keysWas a_valsWas a_freshWas v_root v_rootWas v_latest v_epoch a_reached a_oldKeys a_oldVals a_allKeys a_allVals v_oldMany v_allMany a_row a_written v_writtenMany a_path a_place v_depth a_freeRow v_isOther v_moved a_bothKeys a_bothVals (nI dp) fov lkv hlv, MA9 a_disk cI (w * b) d, MA9 a_reached cZ 240 rc1]) [1, 2, 0] (by decide) rfl
                                      have hK9 := hK.sub (tys' := [(cI, .int), (cZ, .boolean)]) [1, 0] rfl
                                      exact W.zret (v := 0) hx hb hr rfl (fun t ht hW => ⟨⟨0, (nI dp, fov, lkv, hlv, rc1), rfl, (Or.inl rfl), by rw [ht]; exact hP9, va_K.moved hW.alike hK9, hD9⟩, hS.F ht⟩) hS.2.2 dX9_isRight_205
                                · refine lv_iload hx hb dX9_isRight_185 (lv_at hl 0 rfl) ?_
                                  refine lv_iload hx hb dX9_isRight_187 (lv_at hl 6 rfl) ?_
                                  refine lv_icmp_lt (tgt := 204) hx hb dX9_isRight_189 (by decide) (fun c_86 => ?_) (fun c_86 => ?_)
                                  · refine lv_iconst (v := 0) hx hb dX9_isRight_204 (by decide) ?_
                                    have hP9 := hP.sub (ws' := [MO9 h0 (nI w) (nI b) (nI lm) (nI cm) (nI li) (nI ci) a_disk v_isDown v_isArmed v_armedWrites v_armedWords v_writes a_kind a_many a_block a_keys a_vals a_isFresh a_kindWas a_manyWas a_blockWas a_keysWas a_valsWas a_freshWas v_root v_rootWas v_latest v_epoch a_reached a_oldKeys a_oldVals a_allKeys a_allVals v_oldMany v_allMany a_row a_written v_writtenMany a_path a_place v_depth a_freeRow v_isOther v_moved a_bothKeys a_bothVals (nI dp) fov lkv hlv, MA9 a_disk cI (w * b) d, MA9 a_reached cZ 240 rc1]) [1, 2, 0] rfl
                                    have hD9 := hD.sub (ws' := [MO9 h0 (nI w) (nI b) (nI lm) (nI cm) (nI li) (nI ci) a_disk v_isDown v_isArmed v_armedWrites v_armedWords v_writes a_kind a_many a_block a_keys a_vals a_isFresh a_kindWas a_manyWas a_blockWas a_keysWas a_valsWas a_freshWas v_root v_rootWas v_latest v_epoch a_reached a_oldKeys a_oldVals a_allKeys a_allVals v_oldMany v_allMany a_row a_written v_writtenMany a_path a_place v_depth a_freeRow v_isOther v_moved a_bothKeys a_bothVals (nI dp) fov lkv hlv, MA9 a_disk cI (w * b) d, MA9 a_reached cZ 240 rc1]) [1, 2, 0] (by decide) rfl
                                    have hK9 := hK.sub (tys' := [(cI, .int), (cZ, .boolean)]) [1, 0] rfl
                                    exact W.zret (v := 0) hx hb hr rfl (fun t ht hW => ⟨⟨0, (nI dp, fov, lkv, hlv, rc1), rfl, (Or.inl rfl), by rw [ht]; exact hP9, va_K.moved hW.alike hK9, hD9⟩, hS.F ht⟩) hS.2.2 dX9_isRight_205
                                  · refine lv_iload hx hb dX9_isRight_192 (lv_at hl 7 rfl) ?_
                                    refine lv_if_eq (tgt := 206) hx hb dX9_isRight_194 (by decide) (fun c_87 => ?_) (fun c_87 => ?_)
                                    · exact jn_73 _ _ _ hP hD hS (lv_sub hl [0, 1, 2, 3, 4, 5, 6, 7, 8, 9, 10, 11] rfl)
                                    · refine lv_iload hx hb dX9_isRight_197 (lv_at hl 0 rfl) ?_
                                      refine lv_iload hx hb dX9_isRight_199 (lv_at hl 8 rfl) ?_
                                      refine lv_icmp_lt (tgt := 206) hx hb dX9_isRight_201 (by decide) (fun c_88 => ?_) (fun c_88 => ?_)
                                      · exact jn_73 _ _ _ hP hD hS (lv_sub hl [0, 1, 2, 3, 4, 5, 6, 7, 8, 9, 10, 11] rfl)
                                      · refine lv_iconst (v := 0) hx hb dX9_isRight_204 (by decide) ?_
                                        have hP9 := hP.sub (ws' := [MO9 h0 (nI w) (nI b) (nI lm) (nI cm) (nI li) (nI ci) a_disk v_isDown v_isArmed v_armedWrites v_armedWords v_writes a_kind a_many a_block a_keys a_vals a_isFresh a_kindWas a_manyWas a_blockWas a_keysWas a_valsWas a_freshWas v_root v_rootWas v_latest v_epoch a_reached a_oldKeys a_oldVals a_allKeys a_allVals v_oldMany v_allMany a_row a_written v_writtenMany a_path a_place v_depth a_freeRow v_isOther v_moved a_bothKeys a_bothVals (nI dp) fov lkv hlv, MA9 a_disk cI (w * b) d, MA9 a_reached cZ 240 rc1]) [1, 2, 0] rfl
                                        have hD9 := hD.sub (ws' := [MO9 h0 (nI w) (nI b) (nI lm) (nI cm) (nI li) (nI ci) a_disk v_isDown v_isArmed v_armedWrites v_armedWords v_writes a_kind a_many a_block a_keys a_vals a_isFresh a_kindWas a_manyWas a_blockWas a_keysWas a_valsWas a_freshWas v_root v_rootWas v_latest v_epoch a_reached a_oldKeys a_oldVals a_allKeys a_allVals v_oldMany v_allMany a_row a_written v_writtenMany a_path a_place v_depth a_freeRow v_isOther v_moved a_bothKeys a_bothVals (nI dp) fov lkv hlv, MA9 a_disk cI (w * b) d, MA9 a_reached cZ 240 rc1]) [1, 2, 0] (by decide) rfl
                                        have hK9 := hK.sub (tys' := [(cI, .int), (cZ, .boolean)]) [1, 0] rfl
                                        exact W.zret (v := 0) hx hb hr rfl (fun t ht hW => ⟨⟨0, (nI dp, fov, lkv, hlv, rc1), rfl, (Or.inl rfl), by rw [ht]; exact hP9, va_K.moved hW.alike hK9, hD9⟩, hS.F ht⟩) hS.2.2 dX9_isRight_205
                      exact loop_141 (n9 + 1) 0 v_found v_lastKey v_hasLast _ _ _ (by omega) (by omega) hP hD hS (lv_sub hl [3, 4, 5, 6, 7, 8, 9, 10, 2, 1, 0] rfl)
                    · refine lv_aload_n hx hb dX9_isRight_123 rfl (lv_at hl 2 rfl) ?_
                      refine va_get (D := (dC, dI)) (ci := 9) (v := .int v_leafDepth) (C := RX9) (T := TX9) (N := 50) hx hb hts k_1 hown hK hP 1 rfl rfl 46 (by decide) k_8 (fun _ h9 => h9) rfl dX9_isRight_124 ?_
                      refine lv_iload_n hx hb dX9_isRight_127 rfl (lv_at hl 5 rfl) ?_
                      refine lv_icmp_eq (tgt := 133) hx hb dX9_isRight_128 (by decide) (fun c_89 => ?_) (fun c_89 => ?_)
                      · have hlf : v_leafDepth = 0 ∨ v_leafDepth = nI dp := by first | exact Or.inl c_89 | exact Or.inr c_89
                        refine lv_aload_n hx hb dX9_isRight_133 rfl (lv_at hl 2 rfl) ?_
                        refine lv_iload_n hx hb dX9_isRight_134 rfl (lv_at hl 5 rfl) ?_
                        refine va_put (D := (dC, dI)) (ci := 9) (v := .int (nI dp)) (ty := .int) (C := RX9) (T := TX9) (N := 50) hx hb hts k_1 tyX9 tyX9_ok nmX9 hown hK hP hD hS 1 rfl rfl 46 (by decide) k_8 (fun _ h9 => h9) rfl (by decide +kernel) rfl rfl (Nat.le_of_ble_eq_true rfl) dX9_isRight_135 (fun H locs hP9 hD9 hS9 => ?_)
                        replace hP := hP9
                        replace hD := hD9
                        replace hS := hS9
                        clear hP9 hD9 hS9
                        replace hP : va_P (dC, dI) vwCl [MA9 a_reached cZ 240 rc1, MO9 h0 (nI w) (nI b) (nI lm) (nI cm) (nI li) (nI ci) a_disk v_isDown v_isArmed v_armedWrites v_armedWords v_writes a_kind a_many a_block a_keys a_vals a_isFresh a_kindWas a_manyWas a_blockWas a_keysWas a_valsWas a_freshWas v_root v_rootWas v_latest v_epoch a_reached a_oldKeys a_oldVals a_allKeys a_allVals v_oldMany v_allMany a_row a_written v_writtenMany a_path a_place v_depth a_freeRow v_isOther v_moved a_bothKeys a_bothVals (nI dp) v_found v_lastKey v_hasLast, MA9 a_disk cI (w * b) d] H := hP
                        replace hD : va_D A [MA9 a_reached cZ 240 rc1, MO9 h0 (nI w) (nI b) (nI lm) (nI cm) (nI li) (nI ci) a_disk v_isDown v_isArmed v_armedWrites v_armedWords v_writes a_kind a_many a_block a_keys a_vals a_isFresh a_kindWas a_manyWas a_blockWas a_keysWas a_valsWas a_freshWas v_root v_rootWas v_latest v_epoch a_reached a_oldKeys a_oldVals a_allKeys a_allVals v_oldMany v_allMany a_row a_written v_writtenMany a_path a_place v_depth a_freeRow v_isOther v_moved a_bothKeys a_bothVals (nI dp) v_found v_lastKey v_hasLast, MA9 a_disk cI (w * b) d] := hD
                        refine lv_iconst (v := 0) hx hb dX9_isRight_138 (by decide) ?_
                        refine lv_istore (lv' := [(10, .int 0), (9, .int (nI n9)), (8, .int (nI (w * q0))), (0, .ref h0), (1, .int (nI r0)), (2, .int (nI q0)), (3, .int (nI dp)), (4, .int p3), (5, .int p4), (6, .int p5), (7, .int p6)]) hx hb dX9_isRight_139 hl (by decide) rfl (fun ls hl9 => ?_)
                        replace hl := hl9
                        clear hl9
                        refine jn_cut (P := fun Q => ∀ (nf i : Nat) (fov : Int32) (lkv : Int32) (hlv : Int32) (H : Heap) (locs : List Loc) (ls : Array Slot), i ≤ n9 → n9 + 1 ≤ i + nf → va_P (dC, dI) vwCl [MA9 a_reached cZ 240 rc1, MO9 h0 (nI w) (nI b) (nI lm) (nI cm) (nI li) (nI ci) a_disk v_isDown v_isArmed v_armedWrites v_armedWords v_writes a_kind a_many a_block a_keys a_vals a_isFresh a_kindWas a_manyWas a_blockWas a_keysWas a_valsWas a_freshWas v_root v_rootWas v_latest v_epoch a_reached a_oldKeys a_oldVals a_allKeys a_allVals v_oldMany v_allMany a_row a_written v_writtenMany a_path a_place v_depth a_freeRow v_isOther v_moved a_bothKeys a_bothVals (nI dp) fov lkv hlv, MA9 a_disk cI (w * b) d] H → va_D A [MA9 a_reached cZ 240 rc1, MO9 h0 (nI w) (nI b) (nI lm) (nI cm) (nI li) (nI ci) a_disk v_isDown v_isArmed v_armedWrites v_armedWords v_writes a_kind a_many a_block a_keys a_vals a_isFresh a_kindWas a_manyWas a_blockWas a_keysWas a_valsWas a_freshWas v_root v_rootWas v_latest v_epoch a_reached a_oldKeys a_oldVals a_allKeys a_allVals v_oldMany v_allMany a_row a_written v_writtenMany a_path a_place v_depth a_freeRow v_isOther v_moved a_bothKeys a_bothVals (nI dp) fov lkv hlv, MA9 a_disk cI (w * b) d] → va_S A s.heap H locs → lv_has ls 15 [(0, .ref h0), (1, .int (nI r0)), (2, .int (nI q0)), (3, .int (nI dp)), (4, .int p3), (5, .int p4), (6, .int p5), (7, .int p6), (8, .int (nI (w * q0))), (9, .int (nI n9)), (10, .int (nI i))] → W p l e (headSpec v_X9_isRight ({ frames := fu + 1 + 2, cells := 0, slots := 0, locals := 200 * (fu + 1) + 200 } : Room)).room s m ([.ref h0, .int (nI r0), .int p1, .int (nI dp), .int p3, .int p4, .int p5, .int p6] : List Value).toArray below meth c H locs 0 0 Q (F0 m 141 ls [])) ?_ (fun loop_141 => ?_)
                        · intro nf
                          induction nf with
                          | zero =>
                            intro i fov lkv hlv H locs ls h1 h2
                            exact absurd h2 (by omega)
                          | succ nf ih_141 =>
                            intro i fov lkv hlv H locs ls hi hn hP hD hS hl
                            refine lv_iload hx hb dX9_isRight_141 (lv_at hl 10 rfl) ?_
                            refine lv_iload hx hb dX9_isRight_143 (lv_at hl 9 rfl) ?_
                            refine lv_icmp_ge (tgt := 233) hx hb dX9_isRight_145 (by decide) (fun c_90 => ?_) (fun c_90 => ?_)
                            · have n_c_90 : n9 ≤ i := (nI_leI (a := n9) (b := i) (by omega) (by omega)).mp c_90
                              refine lv_iconst (v := 1) hx hb dX9_isRight_233 (by decide) ?_
                              have hP9 := hP.sub (ws' := [MO9 h0 (nI w) (nI b) (nI lm) (nI cm) (nI li) (nI ci) a_disk v_isDown v_isArmed v_armedWrites v_armedWords v_writes a_kind a_many a_block a_keys a_vals a_isFresh a_kindWas a_manyWas a_blockWas a_keysWas a_valsWas a_freshWas v_root v_rootWas v_latest v_epoch a_reached a_oldKeys a_oldVals a_allKeys a_allVals v_oldMany v_allMany a_row a_written v_writtenMany a_path a_place v_depth a_freeRow v_isOther v_moved a_bothKeys a_bothVals (nI dp) fov lkv hlv, MA9 a_disk cI (w * b) d, MA9 a_reached cZ 240 rc1]) [1, 2, 0] rfl
                              have hD9 := hD.sub (ws' := [MO9 h0 (nI w) (nI b) (nI lm) (nI cm) (nI li) (nI ci) a_disk v_isDown v_isArmed v_armedWrites v_armedWords v_writes a_kind a_many a_block a_keys a_vals a_isFresh a_kindWas a_manyWas a_blockWas a_keysWas a_valsWas a_freshWas v_root v_rootWas v_latest v_epoch a_reached a_oldKeys a_oldVals a_allKeys a_allVals v_oldMany v_allMany a_row a_written v_writtenMany a_path a_place v_depth a_freeRow v_isOther v_moved a_bothKeys a_bothVals (nI dp) fov lkv hlv, MA9 a_disk cI (w * b) d, MA9 a_reached cZ 240 rc1]) [1, 2, 0] (by decide) rfl
                              have hK9 := hK.sub (tys' := [(cI, .int), (cZ, .boolean)]) [1, 0] rfl
                              exact W.zret (v := 1) hx hb hr rfl (fun t ht hW => ⟨⟨1, (nI dp, fov, lkv, hlv, rc1), rfl, (by rw [eq0]; exact isR_leaf hq1 hqb c_19 en9 hn1 hn2 zlm (by omega) hlf h00 erc1), by rw [ht]; exact hP9, va_K.moved hW.alike hK9, hD9⟩, hS.F ht⟩) hS.2.2 dX9_isRight_234
                            · have n_c_90 : ¬ n9 ≤ i := fun h9 => c_90 ((nI_leI (a := n9) (b := i) (by omega) (by omega)).mpr h9)
                              refine lv_aload_n hx hb dX9_isRight_148 rfl (lv_at hl 0 rfl) ?_
                              refine va_get (D := (dC, dI)) (ci := 9) (v := .ref a_disk) (C := RX9) (T := TX9) (N := 50) hx hb hts k_1 hown hK hP 1 rfl rfl 6 (by decide) k_5 (fun _ h9 => h9) rfl dX9_isRight_149 ?_
                              refine lv_iload hx hb dX9_isRight_152 (lv_at hl 8 rfl) ?_
                              refine lv_iconst (v := 2) hx hb dX9_isRight_154 (by decide) ?_
                              refine lv_iadd hx hb dX9_isRight_155 ?_
                              refine lv_topi (fun z_91 ez_91 => ?_)
                              obtain rfl : z_91 = nI (w * q0 + 2) := ez_91.trans (nI_add (w * q0) 2)
                              refine lv_iconst (v := 2) hx hb dX9_isRight_156 (by decide) ?_
                              refine lv_iload hx hb dX9_isRight_157 (lv_at hl 10 rfl) ?_
                              refine lv_imul hx hb dX9_isRight_159 ?_
                              refine lv_topi (fun z_92 ez_92 => ?_)
                              obtain rfl : z_92 = nI (2 * i) := ez_92.trans (pk_mul 2 i)
                              refine lv_iadd hx hb dX9_isRight_160 ?_
                              refine lv_topi (fun z_93 ez_93 => ?_)
                              obtain rfl : z_93 = nI (w * q0 + 2 + (2 * i)) := ez_93.trans (nI_add (w * q0 + 2) (2 * i))
                              refine va_iald hx hb hK hP 2 1 rfl rfl (show vp_in (nI (w * q0 + 2 + (2 * i))) (w * b) from vp_in_nI (by omega) (by omega)) dX9_isRight_161 ?_
                              refine lv_topi (fun z_94 ez_94 => ?_)
                              obtain rfl : z_94 = d (w * q0 + 2 + (2 * i)) := ez_94.trans (congrArg d (nI_clamp (by omega)))
                              refine lv_istore (lv' := [(11, .int (d (w * q0 + 2 + (2 * i)))), (0, .ref h0), (1, .int (nI r0)), (2, .int (nI q0)), (3, .int (nI dp)), (4, .int p3), (5, .int p4), (6, .int p5), (7, .int p6), (8, .int (nI (w * q0))), (9, .int (nI n9)), (10, .int (nI i))]) hx hb dX9_isRight_162 hl (by decide) rfl (fun ls hl9 => ?_)
                              replace hl := hl9
                              clear hl9
                              refine jn_cut (P := fun Q => ∀ (H : Heap) (locs : List Loc) (ls : Array Slot), va_P (dC, dI) vwCl [MA9 a_reached cZ 240 rc1, MO9 h0 (nI w) (nI b) (nI lm) (nI cm) (nI li) (nI ci) a_disk v_isDown v_isArmed v_armedWrites v_armedWords v_writes a_kind a_many a_block a_keys a_vals a_isFresh a_kindWas a_manyWas a_blockWas a_keysWas a_valsWas a_freshWas v_root v_rootWas v_latest v_epoch a_reached a_oldKeys a_oldVals a_allKeys a_allVals v_oldMany v_allMany a_row a_written v_writtenMany a_path a_place v_depth a_freeRow v_isOther v_moved a_bothKeys a_bothVals (nI dp) fov lkv hlv, MA9 a_disk cI (w * b) d] H → va_D A [MA9 a_reached cZ 240 rc1, MO9 h0 (nI w) (nI b) (nI lm) (nI cm) (nI li) (nI ci) a_disk v_isDown v_isArmed v_armedWrites v_armedWords v_writes a_kind a_many a_block a_keys a_vals a_isFresh a_kindWas a_manyWas a_blockWas a_keysWas a_valsWas a_freshWas v_root v_rootWas v_latest v_epoch a_reached a_oldKeys a_oldVals a_allKeys a_allVals v_oldMany v_allMany a_row a_written v_writtenMany a_path a_place v_depth a_freeRow v_isOther v_moved a_bothKeys a_bothVals (nI dp) fov lkv hlv, MA9 a_disk cI (w * b) d] → va_S A s.heap H locs → lv_has ls 15 [(11, .int (d (w * q0 + 2 + (2 * i)))), (0, .ref h0), (1, .int (nI r0)), (2, .int (nI q0)), (3, .int (nI dp)), (4, .int p3), (5, .int p4), (6, .int p5), (7, .int p6), (8, .int (nI (w * q0))), (9, .int (nI n9)), (10, .int (nI i))] → W p l e (headSpec v_X9_isRight ({ frames := fu + 1 + 2, cells := 0, slots := 0, locals := 200 * (fu + 1) + 200 } : Room)).room s m ([.ref h0, .int (nI r0), .int p1, .int (nI dp), .int p3, .int p4, .int p5, .int p6] : List Value).toArray below meth c H locs 0 0 Q (F0 m 206 ls [])) ?_ (fun jn_95 => ?_)
                              · intro H locs ls hP hD hS hl
                                refine lv_aload_n hx hb dX9_isRight_206 rfl (lv_at hl 1 rfl) ?_
                                refine lv_iconst (v := 1) hx hb dX9_isRight_207 (by decide) ?_
                                refine va_put (D := (dC, dI)) (ci := 9) (v := .int 1) (ty := .boolean) (C := RX9) (T := TX9) (N := 50) hx hb hts k_1 tyX9 tyX9_ok nmX9 hown hK hP hD hS 1 rfl rfl 49 (by decide) k_9 (fun _ h9 => h9) rfl (by decide +kernel) rfl rfl (Nat.le_of_ble_eq_true rfl) dX9_isRight_208 (fun H locs hP9 hD9 hS9 => ?_)
                                replace hP := hP9
                                replace hD := hD9
                                replace hS := hS9
                                clear hP9 hD9 hS9
                                replace hP : va_P (dC, dI) vwCl [MA9 a_reached cZ 240 rc1, MO9 h0 (nI w) (nI b) (nI lm) (nI cm) (nI li) (nI ci) a_disk v_isDown v_isArmed v_armedWrites v_armedWords v_writes a_kind a_many a_block a_keys a_vals a_isFresh a_kindWas a_manyWas a_blockWas a_keysWas a_valsWas a_freshWas v_root v_rootWas v_latest v_epoch a_reached a_oldKeys a_oldVals a_allKeys a_allVals v_oldMany v_allMany a_row a_written v_writtenMany a_path a_place v_depth a_freeRow v_isOther v_moved a_bothKeys a_bothVals (nI dp) fov lkv 1, MA9 a_disk cI (w * b) d] H := hP
                                replace hD : va_D A [MA9 a_reached cZ 240 rc1, MO9 h0 (nI w) (nI b) (nI lm) (nI cm) (nI li) (nI ci) a_disk v_isDown v_isArmed v_armedWrites v_armedWords v_writes a_kind a_many a_block a_keys a_vals a_isFresh a_kindWas a_manyWas a_blockWas a_keysWas a_valsWas a_freshWas v_root v_rootWas v_latest v_epoch a_reached a_oldKeys a_oldVals a_allKeys a_allVals v_oldMany v_allMany a_row a_written v_writtenMany a_path a_place v_depth a_freeRow v_isOther v_moved a_bothKeys a_bothVals (nI dp) fov lkv 1, MA9 a_disk cI (w * b) d] := hD
                                refine lv_aload_n hx hb dX9_isRight_211 rfl (lv_at hl 1 rfl) ?_
                                refine lv_iload hx hb dX9_isRight_212 (lv_at hl 0 rfl) ?_
                                refine va_put (D := (dC, dI)) (ci := 9) (v := .int (d (w * q0 + 2 + (2 * i)))) (ty := .int) (C := RX9) (T := TX9) (N := 50) hx hb hts k_1 tyX9 tyX9_ok nmX9 hown hK hP hD hS 1 rfl rfl 48 (by decide) k_10 (fun _ h9 => h9) rfl (by decide +kernel) rfl rfl (Nat.le_of_ble_eq_true rfl) dX9_isRight_214 (fun H locs hP9 hD9 hS9 => ?_)
                                replace hP := hP9
                                replace hD := hD9
                                replace hS := hS9
                                clear hP9 hD9 hS9
                                replace hP : va_P (dC, dI) vwCl [MA9 a_reached cZ 240 rc1, MO9 h0 (nI w) (nI b) (nI lm) (nI cm) (nI li) (nI ci) a_disk v_isDown v_isArmed v_armedWrites v_armedWords v_writes a_kind a_many a_block a_keys a_vals a_isFresh a_kindWas a_manyWas a_blockWas a_keysWas a_valsWas a_freshWas v_root v_rootWas v_latest v_epoch a_reached a_oldKeys a_oldVals a_allKeys a_allVals v_oldMany v_allMany a_row a_written v_writtenMany a_path a_place v_depth a_freeRow v_isOther v_moved a_bothKeys a_bothVals (nI dp) fov (d (w * q0 + 2 + (2 * i))) 1, MA9 a_disk cI (w * b) d] H := hP
                                replace hD : va_D A [MA9 a_reached cZ 240 rc1, MO9 h0 (nI w) (nI b) (nI lm) (nI cm) (nI li) (nI ci) a_disk v_isDown v_isArmed v_armedWrites v_armedWords v_writes a_kind a_many a_block a_keys a_vals a_isFresh a_kindWas a_manyWas a_blockWas a_keysWas a_valsWas a_freshWas v_root v_rootWas v_latest v_epoch a_reached a_oldKeys a_oldVals a_allKeys a_allVals v_oldMany v_allMany a_row a_written v_writtenMany a_path a_place v_depth a_freeRow v_isOther v_moved a_bothKeys a_bothVals (nI dp) fov (d (w * q0 + 2 + (2 * i))) 1, MA9 a_disk cI (w * b) d] := hD
                                refine lv_aload_n hx hb dX9_isRight_217 rfl (lv_at hl 1 rfl) ?_
                                refine lv_dup hx hb dX9_isRight_218 rfl ?_
                                refine va_get (D := (dC, dI)) (ci := 9) (v := .int fov) (C := RX9) (T := TX9) (N := 50) hx hb hts k_1 hown hK hP 1 rfl rfl 47 (by decide) k_11 (fun _ h9 => h9) rfl dX9_isRight_219 ?_
                                refine lv_iconst (v := 1) hx hb dX9_isRight_222 (by decide) ?_
                                refine lv_iadd hx hb dX9_isRight_223 ?_
                                refine lv_topi (fun z_96 _ => ?_)
                                refine va_put (D := (dC, dI)) (ci := 9) (v := .int z_96) (ty := .int) (C := RX9) (T := TX9) (N := 50) hx hb hts k_1 tyX9 tyX9_ok nmX9 hown hK hP hD hS 1 rfl rfl 47 (by decide) k_11 (fun _ h9 => h9) rfl (by decide +kernel) rfl rfl (Nat.le_of_ble_eq_true rfl) dX9_isRight_224 (fun H locs hP9 hD9 hS9 => ?_)
                                replace hP := hP9
                                replace hD := hD9
                                replace hS := hS9
                                clear hP9 hD9 hS9
                                replace hP : va_P (dC, dI) vwCl [MA9 a_reached cZ 240 rc1, MO9 h0 (nI w) (nI b) (nI lm) (nI cm) (nI li) (nI ci) a_disk v_isDown v_isArmed v_armedWrites v_armedWords v_writes a_kind a_many a_block a_keys a_vals a_isFresh a_kindWas a_manyWas a_blockWas a_keysWas a_valsWas a_freshWas v_root v_rootWas v_latest v_epoch a_reached a_oldKeys a_oldVals a_allKeys a_allVals v_oldMany v_allMany a_row a_written v_writtenMany a_path a_place v_depth a_freeRow v_isOther v_moved a_bothKeys a_bothVals (nI dp) z_96 (d (w * q0 + 2 + (2 * i))) 1, MA9 a_disk cI (w * b) d] H := hP
                                replace hD : va_D A [MA9 a_reached cZ 240 rc1, MO9 h0 (nI w) (nI b) (nI lm) (nI cm) (nI li) (nI ci) a_disk v_isDown v_isArmed v_armedWrites v_armedWords v_writes a_kind a_many a_block a_keys a_vals a_isFresh a_kindWas a_manyWas a_blockWas a_keysWas a_valsWas a_freshWas v_root v_rootWas v_latest v_epoch a_reached a_oldKeys a_oldVals a_allKeys a_allVals v_oldMany v_allMany a_row a_written v_writtenMany a_path a_place v_depth a_freeRow v_isOther v_moved a_bothKeys a_bothVals (nI dp) z_96 (d (w * q0 + 2 + (2 * i))) 1, MA9 a_disk cI (w * b) d] := hD
                                refine lv_iinc (v := (nI (i + 1))) (lv' := [(10, .int (nI (i + 1))), (11, .int (d (w * q0 + 2 + (2 * i)))), (0, .ref h0), (1, .int (nI r0)), (2, .int (nI q0)), (3, .int (nI dp)), (4, .int p3), (5, .int p4), (6, .int p5), (7, .int p6), (8, .int (nI (w * q0))), (9, .int (nI n9))]) hx hb dX9_isRight_227 hl (k := 11) rfl (nI_1 i) (by decide) rfl (fun ls hl9 => ?_)
                                replace hl := hl9
                                clear hl9
                                refine lv_goto (tgt := 141) hx hb dX9_isRight_230 (by decide) ?_
                                exact ih_141 (i + 1) z_96 (d (w * q0 + 2 + (2 * i))) 1 _ _ _ (by omega) (by omega) hP hD hS (lv_sub hl [2, 3, 4, 5, 6, 7, 8, 9, 10, 11, 0] rfl)
                              refine lv_aload_n hx hb dX9_isRight_164 rfl (lv_at hl 1 rfl) ?_
                              refine va_get (D := (dC, dI)) (ci := 9) (v := .int hlv) (C := RX9) (T := TX9) (N := 50) hx hb hts k_1 hown hK hP 1 rfl rfl 49 (by decide) k_9 (fun _ h9 => h9) rfl dX9_isRight_165 ?_
                              refine lv_if_eq (tgt := 180) hx hb dX9_isRight_168 (by decide) (fun c_97 => ?_) (fun c_97 => ?_)
                              · refine lv_iload hx hb dX9_isRight_180 (lv_at hl 5 rfl) ?_
                                refine lv_if_eq (tgt := 192) hx hb dX9_isRight_182 (by decide) (fun c_98 => ?_) (fun c_98 => ?_)
                                · refine lv_iload hx hb dX9_isRight_192 (lv_at hl 7 rfl) ?_
                                  refine lv_if_eq (tgt := 206) hx hb dX9_isRight_194 (by decide) (fun c_99 => ?_) (fun c_99 => ?_)
                                  · exact jn_95 _ _ _ hP hD hS (lv_sub hl [0, 1, 2, 3, 4, 5, 6, 7, 8, 9, 10, 11] rfl)
                                  · refine lv_iload hx hb dX9_isRight_197 (lv_at hl 0 rfl) ?_
                                    refine lv_iload hx hb dX9_isRight_199 (lv_at hl 8 rfl) ?_
                                    refine lv_icmp_lt (tgt := 206) hx hb dX9_isRight_201 (by decide) (fun c_100 => ?_) (fun c_100 => ?_)
                                    · exact jn_95 _ _ _ hP hD hS (lv_sub hl [0, 1, 2, 3, 4, 5, 6, 7, 8, 9, 10, 11] rfl)
                                    · refine lv_iconst (v := 0) hx hb dX9_isRight_204 (by decide) ?_
                                      have hP9 := hP.sub (ws' := [MO9 h0 (nI w) (nI b) (nI lm) (nI cm) (nI li) (nI ci) a_disk v_isDown v_isArmed v_armedWrites v_armedWords v_writes a_kind a_many a_block a_keys a_vals a_isFresh a_kindWas a_manyWas a_blockWas a_keysWas a_valsWas a_freshWas v_root v_rootWas v_latest v_epoch a_reached a_oldKeys a_oldVals a_allKeys a_allVals v_oldMany v_allMany a_row a_written v_writtenMany a_path a_place v_depth a_freeRow v_isOther v_moved a_bothKeys a_bothVals (nI dp) fov lkv hlv, MA9 a_disk cI (w * b) d, MA9 a_reached cZ 240 rc1]) [1, 2, 0] rfl
                                      have hD9 := hD.sub (ws' := [MO9 h0 (nI w) (nI b) (nI lm) (nI cm) (nI li) (nI ci) a_disk v_isDown v_isArmed v_armedWrites v_armedWords v_writes a_kind a_many a_block a_keys a_vals a_isFresh a_kindWas a_manyWas a_blockWas a_keysWas a_valsWas a_freshWas v_root v_rootWas v_latest v_epoch a_reached a_oldKeys a_oldVals a_allKeys a_allVals v_oldMany v_allMany a_row a_written v_writtenMany a_path a_place v_depth a_freeRow v_isOther v_moved a_bothKeys a_bothVals (nI dp) fov lkv hlv, MA9 a_disk cI (w * b) d, MA9 a_reached cZ 240 rc1]) [1, 2, 0] (by decide) rfl
                                      have hK9 := hK.sub (tys' := [(cI, .int), (cZ, .boolean)]) [1, 0] rfl
                                      exact W.zret (v := 0) hx hb hr rfl (fun t ht hW => ⟨⟨0, (nI dp, fov, lkv, hlv, rc1), rfl, (Or.inl rfl), by rw [ht]; exact hP9, va_K.moved hW.alike hK9, hD9⟩, hS.F ht⟩) hS.2.2 dX9_isRight_205
                                · refine lv_iload hx hb dX9_isRight_185 (lv_at hl 0 rfl) ?_
                                  refine lv_iload hx hb dX9_isRight_187 (lv_at hl 6 rfl) ?_
                                  refine lv_icmp_lt (tgt := 204) hx hb dX9_isRight_189 (by decide) (fun c_101 => ?_) (fun c_101 => ?_)
                                  · refine lv_iconst (v := 0) hx hb dX9_isRight_204 (by decide) ?_
                                    have hP9 := hP.sub (ws' := [MO9 h0 (nI w) (nI b) (nI lm) (nI cm) (nI li) (nI ci) a_disk v_isDown v_isArmed v_armedWrites v_armedWords v_writes a_kind a_many a_block a_keys a_vals a_isFresh a_kindWas a_manyWas a_blockWas a_keysWas a_valsWas a_freshWas v_root v_rootWas v_latest v_epoch a_reached a_oldKeys a_oldVals a_allKeys a_allVals v_oldMany v_allMany a_row a_written v_writtenMany a_path a_place v_depth a_freeRow v_isOther v_moved a_bothKeys a_bothVals (nI dp) fov lkv hlv, MA9 a_disk cI (w * b) d, MA9 a_reached cZ 240 rc1]) [1, 2, 0] rfl
                                    have hD9 := hD.sub (ws' := [MO9 h0 (nI w) (nI b) (nI lm) (nI cm) (nI li) (nI ci) a_disk v_isDown v_isArmed v_armedWrites v_armedWords v_writes a_kind a_many a_block a_keys a_vals a_isFresh a_kindWas a_manyWas a_blockWas a_keysWas a_valsWas a_freshWas v_root v_rootWas v_latest v_epoch a_reached a_oldKeys a_oldVals a_allKeys a_allVals v_oldMany v_allMany a_row a_written v_writtenMany a_path a_place v_depth a_freeRow v_isOther v_moved a_bothKeys a_bothVals (nI dp) fov lkv hlv, MA9 a_disk cI (w * b) d, MA9 a_reached cZ 240 rc1]) [1, 2, 0] (by decide) rfl
                                    have hK9 := hK.sub (tys' := [(cI, .int), (cZ, .boolean)]) [1, 0] rfl
                                    exact W.zret (v := 0) hx hb hr rfl (fun t ht hW => ⟨⟨0, (nI dp, fov, lkv, hlv, rc1), rfl, (Or.inl rfl), by rw [ht]; exact hP9, va_K.moved hW.alike hK9, hD9⟩, hS.F ht⟩) hS.2.2 dX9_isRight_205
                                  · refine lv_iload hx hb dX9_isRight_192 (lv_at hl 7 rfl) ?_
                                    refine lv_if_eq (tgt := 206) hx hb dX9_isRight_194 (by decide) (fun c_102 => ?_) (fun c_102 => ?_)
                                    · exact jn_95 _ _ _ hP hD hS (lv_sub hl [0, 1, 2, 3, 4, 5, 6, 7, 8, 9, 10, 11] rfl)
                                    · refine lv_iload hx hb dX9_isRight_197 (lv_at hl 0 rfl) ?_
                                      refine lv_iload hx hb dX9_isRight_199 (lv_at hl 8 rfl) ?_
                                      refine lv_icmp_lt (tgt := 206) hx hb dX9_isRight_201 (by decide) (fun c_103 => ?_) (fun c_103 => ?_)
                                      · exact jn_95 _ _ _ hP hD hS (lv_sub hl [0, 1, 2, 3, 4, 5, 6, 7, 8, 9, 10, 11] rfl)
                                      · refine lv_iconst (v := 0) hx hb dX9_isRight_204 (by decide) ?_
                                        have hP9 := hP.sub (ws' := [MO9 h0 (nI w) (nI b) (nI lm) (nI cm) (nI li) (nI ci) a_disk v_isDown v_isArmed v_armedWrites v_armedWords v_writes a_kind a_many a_block a_keys a_vals a_isFresh a_kindWas a_manyWas a_blockWas a_keysWas a_valsWas a_freshWas v_root v_rootWas v_latest v_epoch a_reached a_oldKeys a_oldVals a_allKeys a_allVals v_oldMany v_allMany a_row a_written v_writtenMany a_path a_place v_depth a_freeRow v_isOther v_moved a_bothKeys a_bothVals (nI dp) fov lkv hlv, MA9 a_disk cI (w * b) d, MA9 a_reached cZ 240 rc1]) [1, 2, 0] rfl
                                        have hD9 := hD.sub (ws' := [MO9 h0 (nI w) (nI b) (nI lm) (nI cm) (nI li) (nI ci) a_disk v_isDown v_isArmed v_armedWrites v_armedWords v_writes a_kind a_many a_block a_keys a_vals a_isFresh a_kindWas a_manyWas a_blockWas a_keysWas a_valsWas a_freshWas v_root v_rootWas v_latest v_epoch a_reached a_oldKeys a_oldVals a_allKeys a_allVals v_oldMany v_allMany a_row a_written v_writtenMany a_path a_place v_depth a_freeRow v_isOther v_moved a_bothKeys a_bothVals (nI dp) fov lkv hlv, MA9 a_disk cI (w * b) d, MA9 a_reached cZ 240 rc1]) [1, 2, 0] (by decide) rfl
                                        have hK9 := hK.sub (tys' := [(cI, .int), (cZ, .boolean)]) [1, 0] rfl
                                        exact W.zret (v := 0) hx hb hr rfl (fun t ht hW => ⟨⟨0, (nI dp, fov, lkv, hlv, rc1), rfl, (Or.inl rfl), by rw [ht]; exact hP9, va_K.moved hW.alike hK9, hD9⟩, hS.F ht⟩) hS.2.2 dX9_isRight_205
                              · refine lv_iload hx hb dX9_isRight_171 (lv_at hl 0 rfl) ?_
                                refine lv_aload_n hx hb dX9_isRight_173 rfl (lv_at hl 1 rfl) ?_
                                refine va_get (D := (dC, dI)) (ci := 9) (v := .int lkv) (C := RX9) (T := TX9) (N := 50) hx hb hts k_1 hown hK hP 1 rfl rfl 48 (by decide) k_10 (fun _ h9 => h9) rfl dX9_isRight_174 ?_
                                refine lv_icmp_le (tgt := 204) hx hb dX9_isRight_177 (by decide) (fun c_104 => ?_) (fun c_104 => ?_)
                                · refine lv_iconst (v := 0) hx hb dX9_isRight_204 (by decide) ?_
                                  have hP9 := hP.sub (ws' := [MO9 h0 (nI w) (nI b) (nI lm) (nI cm) (nI li) (nI ci) a_disk v_isDown v_isArmed v_armedWrites v_armedWords v_writes a_kind a_many a_block a_keys a_vals a_isFresh a_kindWas a_manyWas a_blockWas a_keysWas a_valsWas a_freshWas v_root v_rootWas v_latest v_epoch a_reached a_oldKeys a_oldVals a_allKeys a_allVals v_oldMany v_allMany a_row a_written v_writtenMany a_path a_place v_depth a_freeRow v_isOther v_moved a_bothKeys a_bothVals (nI dp) fov lkv hlv, MA9 a_disk cI (w * b) d, MA9 a_reached cZ 240 rc1]) [1, 2, 0] rfl
                                  have hD9 := hD.sub (ws' := [MO9 h0 (nI w) (nI b) (nI lm) (nI cm) (nI li) (nI ci) a_disk v_isDown v_isArmed v_armedWrites v_armedWords v_writes a_kind a_many a_block a_keys a_vals a_isFresh a_kindWas a_manyWas a_blockWas a_keysWas a_valsWas a_freshWas v_root v_rootWas v_latest v_epoch a_reached a_oldKeys a_oldVals a_allKeys a_allVals v_oldMany v_allMany a_row a_written v_writtenMany a_path a_place v_depth a_freeRow v_isOther v_moved a_bothKeys a_bothVals (nI dp) fov lkv hlv, MA9 a_disk cI (w * b) d, MA9 a_reached cZ 240 rc1]) [1, 2, 0] (by decide) rfl
                                  have hK9 := hK.sub (tys' := [(cI, .int), (cZ, .boolean)]) [1, 0] rfl
                                  exact W.zret (v := 0) hx hb hr rfl (fun t ht hW => ⟨⟨0, (nI dp, fov, lkv, hlv, rc1), rfl, (Or.inl rfl), by rw [ht]; exact hP9, va_K.moved hW.alike hK9, hD9⟩, hS.F ht⟩) hS.2.2 dX9_isRight_205
                                · refine lv_iload hx hb dX9_isRight_180 (lv_at hl 5 rfl) ?_
                                  refine lv_if_eq (tgt := 192) hx hb dX9_isRight_182 (by decide) (fun c_105 => ?_) (fun c_105 => ?_)
                                  · refine lv_iload hx hb dX9_isRight_192 (lv_at hl 7 rfl) ?_
                                    refine lv_if_eq (tgt := 206) hx hb dX9_isRight_194 (by decide) (fun c_106 => ?_) (fun c_106 => ?_)
                                    · exact jn_95 _ _ _ hP hD hS (lv_sub hl [0, 1, 2, 3, 4, 5, 6, 7, 8, 9, 10, 11] rfl)
                                    · refine lv_iload hx hb dX9_isRight_197 (lv_at hl 0 rfl) ?_
                                      refine lv_iload hx hb dX9_isRight_199 (lv_at hl 8 rfl) ?_
                                      refine lv_icmp_lt (tgt := 206) hx hb dX9_isRight_201 (by decide) (fun c_107 => ?_) (fun c_107 => ?_)
                                      · exact jn_95 _ _ _ hP hD hS (lv_sub hl [0, 1, 2, 3, 4, 5, 6, 7, 8, 9, 10, 11] rfl)
                                      · refine lv_iconst (v := 0) hx hb dX9_isRight_204 (by decide) ?_
                                        have hP9 := hP.sub (ws' := [MO9 h0 (nI w) (nI b) (nI lm) (nI cm) (nI li) (nI ci) a_disk v_isDown v_isArmed v_armedWrites v_armedWords v_writes a_kind a_many a_block a_keys a_vals a_isFresh a_kindWas a_manyWas a_blockWas a_keysWas a_valsWas a_freshWas v_root v_rootWas v_latest v_epoch a_reached a_oldKeys a_oldVals a_allKeys a_allVals v_oldMany v_allMany a_row a_written v_writtenMany a_path a_place v_depth a_freeRow v_isOther v_moved a_bothKeys a_bothVals (nI dp) fov lkv hlv, MA9 a_disk cI (w * b) d, MA9 a_reached cZ 240 rc1]) [1, 2, 0] rfl
                                        have hD9 := hD.sub (ws' := [MO9 h0 (nI w) (nI b) (nI lm) (nI cm) (nI li) (nI ci) a_disk v_isDown v_isArmed v_armedWrites v_armedWords v_writes a_kind a_many a_block a_keys a_vals a_isFresh a_kindWas a_manyWas a_blockWas a_keysWas a_valsWas a_freshWas v_root v_rootWas v_latest v_epoch a_reached a_oldKeys a_oldVals a_allKeys a_allVals v_oldMany v_allMany a_row a_written v_writtenMany a_path a_place v_depth a_freeRow v_isOther v_moved a_bothKeys a_bothVals (nI dp) fov lkv hlv, MA9 a_disk cI (w * b) d, MA9 a_reached cZ 240 rc1]) [1, 2, 0] (by decide) rfl
                                        have hK9 := hK.sub (tys' := [(cI, .int), (cZ, .boolean)]) [1, 0] rfl
                                        exact W.zret (v := 0) hx hb hr rfl (fun t ht hW => ⟨⟨0, (nI dp, fov, lkv, hlv, rc1), rfl, (Or.inl rfl), by rw [ht]; exact hP9, va_K.moved hW.alike hK9, hD9⟩, hS.F ht⟩) hS.2.2 dX9_isRight_205
                                  · refine lv_iload hx hb dX9_isRight_185 (lv_at hl 0 rfl) ?_
                                    refine lv_iload hx hb dX9_isRight_187 (lv_at hl 6 rfl) ?_
                                    refine lv_icmp_lt (tgt := 204) hx hb dX9_isRight_189 (by decide) (fun c_108 => ?_) (fun c_108 => ?_)
                                    · refine lv_iconst (v := 0) hx hb dX9_isRight_204 (by decide) ?_
                                      have hP9 := hP.sub (ws' := [MO9 h0 (nI w) (nI b) (nI lm) (nI cm) (nI li) (nI ci) a_disk v_isDown v_isArmed v_armedWrites v_armedWords v_writes a_kind a_many a_block a_keys a_vals a_isFresh a_kindWas a_manyWas a_blockWas a_keysWas a_valsWas a_freshWas v_root v_rootWas v_latest v_epoch a_reached a_oldKeys a_oldVals a_allKeys a_allVals v_oldMany v_allMany a_row a_written v_writtenMany a_path a_place v_depth a_freeRow v_isOther v_moved a_bothKeys a_bothVals (nI dp) fov lkv hlv, MA9 a_disk cI (w * b) d, MA9 a_reached cZ 240 rc1]) [1, 2, 0] rfl
                                      have hD9 := hD.sub (ws' := [MO9 h0 (nI w) (nI b) (nI lm) (nI cm) (nI li) (nI ci) a_disk v_isDown v_isArmed v_armedWrites v_armedWords v_writes a_kind a_many a_block a_keys a_vals a_isFresh a_kindWas a_manyWas a_blockWas a_keysWas a_valsWas a_freshWas v_root v_rootWas v_latest v_epoch a_reached a_oldKeys a_oldVals a_allKeys a_allVals v_oldMany v_allMany a_row a_written v_writtenMany a_path a_place v_depth a_freeRow v_isOther v_moved a_bothKeys a_bothVals (nI dp) fov lkv hlv, MA9 a_disk cI (w * b) d, MA9 a_reached cZ 240 rc1]) [1, 2, 0] (by decide) rfl
                                      have hK9 := hK.sub (tys' := [(cI, .int), (cZ, .boolean)]) [1, 0] rfl
                                      exact W.zret (v := 0) hx hb hr rfl (fun t ht hW => ⟨⟨0, (nI dp, fov, lkv, hlv, rc1), rfl, (Or.inl rfl), by rw [ht]; exact hP9, va_K.moved hW.alike hK9, hD9⟩, hS.F ht⟩) hS.2.2 dX9_isRight_205
                                    · refine lv_iload hx hb dX9_isRight_192 (lv_at hl 7 rfl) ?_
                                      refine lv_if_eq (tgt := 206) hx hb dX9_isRight_194 (by decide) (fun c_109 => ?_) (fun c_109 => ?_)
                                      · exact jn_95 _ _ _ hP hD hS (lv_sub hl [0, 1, 2, 3, 4, 5, 6, 7, 8, 9, 10, 11] rfl)
                                      · refine lv_iload hx hb dX9_isRight_197 (lv_at hl 0 rfl) ?_
                                        refine lv_iload hx hb dX9_isRight_199 (lv_at hl 8 rfl) ?_
                                        refine lv_icmp_lt (tgt := 206) hx hb dX9_isRight_201 (by decide) (fun c_110 => ?_) (fun c_110 => ?_)
                                        · exact jn_95 _ _ _ hP hD hS (lv_sub hl [0, 1, 2, 3, 4, 5, 6, 7, 8, 9, 10, 11] rfl)
                                        · refine lv_iconst (v := 0) hx hb dX9_isRight_204 (by decide) ?_
                                          have hP9 := hP.sub (ws' := [MO9 h0 (nI w) (nI b) (nI lm) (nI cm) (nI li) (nI ci) a_disk v_isDown v_isArmed v_armedWrites v_armedWords v_writes a_kind a_many a_block a_keys a_vals a_isFresh a_kindWas a_manyWas a_blockWas a_keysWas a_valsWas a_freshWas v_root v_rootWas v_latest v_epoch a_reached a_oldKeys a_oldVals a_allKeys a_allVals v_oldMany v_allMany a_row a_written v_writtenMany a_path a_place v_depth a_freeRow v_isOther v_moved a_bothKeys a_bothVals (nI dp) fov lkv hlv, MA9 a_disk cI (w * b) d, MA9 a_reached cZ 240 rc1]) [1, 2, 0] rfl
                                          have hD9 := hD.sub (ws' := [MO9 h0 (nI w) (nI b) (nI lm) (nI cm) (nI li) (nI ci) a_disk v_isDown v_isArmed v_armedWrites v_armedWords v_writes a_kind a_many a_block a_keys a_vals a_isFresh a_kindWas a_manyWas a_blockWas a_keysWas a_valsWas a_freshWas v_root v_rootWas v_latest v_epoch a_reached a_oldKeys a_oldVals a_allKeys a_allVals v_oldMany v_allMany a_row a_written v_writtenMany a_path a_place v_depth a_freeRow v_isOther v_moved a_bothKeys a_bothVals (nI dp) fov lkv hlv, MA9 a_disk cI (w * b) d, MA9 a_reached cZ 240 rc1]) [1, 2, 0] (by decide) rfl
                                          have hK9 := hK.sub (tys' := [(cI, .int), (cZ, .boolean)]) [1, 0] rfl
                                          exact W.zret (v := 0) hx hb hr rfl (fun t ht hW => ⟨⟨0, (nI dp, fov, lkv, hlv, rc1), rfl, (Or.inl rfl), by rw [ht]; exact hP9, va_K.moved hW.alike hK9, hD9⟩, hS.F ht⟩) hS.2.2 dX9_isRight_205
                        exact loop_141 (n9 + 1) 0 v_found v_lastKey v_hasLast _ _ _ (by omega) (by omega) hP hD hS (lv_sub hl [3, 4, 5, 6, 7, 8, 9, 10, 2, 1, 0] rfl)
                      · refine lv_iconst (v := 0) hx hb dX9_isRight_131 (by decide) ?_
                        have hP9 := hP.sub (ws' := [MO9 h0 (nI w) (nI b) (nI lm) (nI cm) (nI li) (nI ci) a_disk v_isDown v_isArmed v_armedWrites v_armedWords v_writes a_kind a_many a_block a_keys a_vals a_isFresh a_kindWas a_manyWas a_blockWas a_keysWas a_valsWas a_freshWas v_root v_rootWas v_latest v_epoch a_reached a_oldKeys a_oldVals a_allKeys a_allVals v_oldMany v_allMany a_row a_written v_writtenMany a_path a_place v_depth a_freeRow v_isOther v_moved a_bothKeys a_bothVals v_leafDepth v_found v_lastKey v_hasLast, MA9 a_disk cI (w * b) d, MA9 a_reached cZ 240 rc1]) [1, 2, 0] rfl
                        have hD9 := hD.sub (ws' := [MO9 h0 (nI w) (nI b) (nI lm) (nI cm) (nI li) (nI ci) a_disk v_isDown v_isArmed v_armedWrites v_armedWords v_writes a_kind a_many a_block a_keys a_vals a_isFresh a_kindWas a_manyWas a_blockWas a_keysWas a_valsWas a_freshWas v_root v_rootWas v_latest v_epoch a_reached a_oldKeys a_oldVals a_allKeys a_allVals v_oldMany v_allMany a_row a_written v_writtenMany a_path a_place v_depth a_freeRow v_isOther v_moved a_bothKeys a_bothVals v_leafDepth v_found v_lastKey v_hasLast, MA9 a_disk cI (w * b) d, MA9 a_reached cZ 240 rc1]) [1, 2, 0] (by decide) rfl
                        have hK9 := hK.sub (tys' := [(cI, .int), (cZ, .boolean)]) [1, 0] rfl
                        exact W.zret (v := 0) hx hb hr rfl (fun t ht hW => ⟨⟨0, (v_leafDepth, v_found, v_lastKey, v_hasLast, rc1), rfl, (Or.inl rfl), by rw [ht]; exact hP9, va_K.moved hW.alike hK9, hD9⟩, hS.F ht⟩) hS.2.2 dX9_isRight_132
            · refine lv_iconst (v := 0) hx hb dX9_isRight_88 (by decide) ?_
              have hP9 := hP.sub (ws' := [MO9 h0 (nI w) (nI b) (nI lm) (nI cm) (nI li) (nI ci) a_disk v_isDown v_isArmed v_armedWrites v_armedWords v_writes a_kind a_many a_block a_keys a_vals a_isFresh a_kindWas a_manyWas a_blockWas a_keysWas a_valsWas a_freshWas v_root v_rootWas v_latest v_epoch a_reached a_oldKeys a_oldVals a_allKeys a_allVals v_oldMany v_allMany a_row a_written v_writtenMany a_path a_place v_depth a_freeRow v_isOther v_moved a_bothKeys a_bothVals v_leafDepth v_found v_lastKey v_hasLast, MA9 a_disk cI (w * b) d, MA9 a_reached cZ 240 rc1]) [1, 2, 0] rfl
              have hD9 := hD.sub (ws' := [MO9 h0 (nI w) (nI b) (nI lm) (nI cm) (nI li) (nI ci) a_disk v_isDown v_isArmed v_armedWrites v_armedWords v_writes a_kind a_many a_block a_keys a_vals a_isFresh a_kindWas a_manyWas a_blockWas a_keysWas a_valsWas a_freshWas v_root v_rootWas v_latest v_epoch a_reached a_oldKeys a_oldVals a_allKeys a_allVals v_oldMany v_allMany a_row a_written v_writtenMany a_path a_place v_depth a_freeRow v_isOther v_moved a_bothKeys a_bothVals v_leafDepth v_found v_lastKey v_hasLast, MA9 a_disk cI (w * b) d, MA9 a_reached cZ 240 rc1]) [1, 2, 0] (by decide) rfl
              have hK9 := hK.sub (tys' := [(cI, .int), (cZ, .boolean)]) [1, 0] rfl
              exact W.zret (v := 0) hx hb hr rfl (fun t ht hW => ⟨⟨0, (v_leafDepth, v_found, v_lastKey, v_hasLast, rc1), rfl, (Or.inl rfl), by rw [ht]; exact hP9, va_K.moved hW.alike hK9, hD9⟩, hS.F ht⟩) hS.2.2 dX9_isRight_89
          · refine lv_iconst (v := 0) hx hb dX9_isRight_33 (by decide) ?_
            have hP9 := hP.sub (ws' := [MO9 h0 (nI w) (nI b) (nI lm) (nI cm) (nI li) (nI ci) a_disk v_isDown v_isArmed v_armedWrites v_armedWords v_writes a_kind a_many a_block a_keys a_vals a_isFresh a_kindWas a_manyWas a_blockWas a_keysWas a_valsWas a_freshWas v_root v_rootWas v_latest v_epoch a_reached a_oldKeys a_oldVals a_allKeys a_allVals v_oldMany v_allMany a_row a_written v_writtenMany a_path a_place v_depth a_freeRow v_isOther v_moved a_bothKeys a_bothVals v_leafDepth v_found v_lastKey v_hasLast, MA9 a_disk cI (w * b) d, MA9 a_reached cZ 240 rc]) [0, 1, 2] rfl
            have hD9 := hD.sub (ws' := [MO9 h0 (nI w) (nI b) (nI lm) (nI cm) (nI li) (nI ci) a_disk v_isDown v_isArmed v_armedWrites v_armedWords v_writes a_kind a_many a_block a_keys a_vals a_isFresh a_kindWas a_manyWas a_blockWas a_keysWas a_valsWas a_freshWas v_root v_rootWas v_latest v_epoch a_reached a_oldKeys a_oldVals a_allKeys a_allVals v_oldMany v_allMany a_row a_written v_writtenMany a_path a_place v_depth a_freeRow v_isOther v_moved a_bothKeys a_bothVals v_leafDepth v_found v_lastKey v_hasLast, MA9 a_disk cI (w * b) d, MA9 a_reached cZ 240 rc]) [0, 1, 2] (by decide) rfl
            have hK9 := hK.sub (tys' := [(cI, .int), (cZ, .boolean)]) [0, 1] rfl
            exact W.zret (v := 0) hx hb hr rfl (fun t ht hW => ⟨⟨0, (v_leafDepth, v_found, v_lastKey, v_hasLast, rc), rfl, (Or.inl rfl), by rw [ht]; exact hP9, va_K.moved hW.alike hK9, hD9⟩, hS.F ht⟩) hS.2.2 dX9_isRight_34
def v_X9_isRightRoot : List Cond := .code yX9_isRightRoot cX9_isRightRoot 3 (some .boolean) :: ([.fieldLink RX9 55 "TwinRootsModel" "reached" "[Z", .fieldLink RX9 246 "TwinRootsModel" "leafDepth" "I", .fieldLink RX9 255 "TwinRootsModel" "found" "I", .fieldLink RX9 249 "TwinRootsModel" "hasLast" "Z", .fieldLink RX9 100 "TwinRootsModel" "words" "I", .fieldLink RX9 118 "TwinRootsModel" "disk" "[I", .constant RX9 136 (1414677326), .code yX9_sumOf cX9_sumOf 4 (some .int), .methodLink RX9 243 yX9_sumOf, .instanceMethod yX9_sumOf, .selects RX9 yX9_sumOf yX9_sumOf, .initialized RX9, .code yX9_isRight cX9_isRight 15 (some .boolean), .fieldLink RX9 103 "TwinRootsModel" "blocks" "I", .fieldLink RX9 109 "TwinRootsModel" "cmost" "I", .methodLink RX9 258 yX9_isRight, .instanceMethod yX9_isRight, .selects RX9 yX9_isRight yX9_isRight, .fieldLink RX9 106 "TwinRootsModel" "lmost" "I", .fieldLink RX9 252 "TwinRootsModel" "lastKey" "I"] ++ (wsX90 ++ ([])))
set_option maxRecDepth 20000 in
theorem g_X9_isRightRoot_X9_sumOf : GoodIn v_X9_isRightRoot (wsV RX9 243 RX9 yX9_sumOf v_X9_sumOf) := goodIn_r _ [9, 10, 11, 12, 8, 5, 6, 21, 22, 23, 24, 25, 26, 27, 28, 29, 30, 31, 32, 33, 34, 35, 36, 37, 38, 39, 40, 41, 42, 43, 44, 45, 46, 47, 48, 49, 50, 51, 52, 53, 54, 55, 56, 57, 58, 59, 60, 61, 62, 63, 64, 65, 66, 67, 68, 69, 70] (by decide +kernel) (by decide +kernel)
set_option maxRecDepth 20000 in
theorem g_X9_isRightRoot_X9_isRight : GoodIn v_X9_isRightRoot (wsV RX9 258 RX9 yX9_isRight v_X9_isRight) := goodIn_r _ [16, 17, 18, 12, 13, 14, 1, 5, 6, 8, 9, 10, 11, 12, 15, 16, 17, 18, 19, 2, 4, 20, 3, 21, 22, 23, 24, 25, 26, 27, 28, 29, 30, 31, 32, 33, 34, 35, 36, 37, 38, 39, 40, 41, 42, 43, 44, 45, 46, 47, 48, 49, 50, 51, 52, 53, 54, 55, 56, 57, 58, 59, 60, 61, 62, 63, 64, 65, 66, 67, 68, 69, 70] (by decide +kernel) (by decide +kernel)
set_option maxHeartbeats 4000000 in
set_option maxRecDepth 100000 in
/-- X9_isRightRoot -/
theorem c_X9_isRightRoot (l : Launch) (dC : Nat → ClassId) (dI : Nat → Nat → Nat) (sz : Nat) (h0 : Nat) (w : Nat) (b : Nat) (lm : Nat) (cm : Nat) (li : Nat) (ci : Nat) (a_disk : Nat) (a_kind : Nat) (a_many : Nat) (a_block : Nat) (a_keys : Nat) (a_vals : Nat) (a_isFresh : Nat) (a_kindWas : Nat) (a_manyWas : Nat) (a_blockWas : Nat) (a_keysWas : Nat) (a_valsWas : Nat) (a_freshWas : Nat) (a_reached : Nat) (a_oldKeys : Nat) (a_oldVals : Nat) (a_allKeys : Nat) (a_allVals : Nat) (a_row : Nat) (a_written : Nat) (a_path : Nat) (a_place : Nat) (a_freeRow : Nat) (a_bothKeys : Nat) (a_bothVals : Nat) (v_isDown : Int32) (v_isArmed : Int32) (v_armedWrites : Int32) (v_armedWords : Int32) (v_writes : Int32) (v_root : Int32) (v_rootWas : Int32) (v_latest : Int32) (v_epoch : Int32) (v_oldMany : Int32) (v_allMany : Int32) (v_writtenMany : Int32) (v_depth : Int32) (v_isOther : Int32) (v_moved : Int32) (v_leafDepth : Int32) (v_found : Int32) (v_lastKey : Int32) (v_hasLast : Int32) (cI : ClassId) (cZ : ClassId) (d : Nat → Int32) (rc : Nat → Int32) (r0 : Nat) (zw0 : 12 ≤ w) (zw : w ≤ 40) (zb0 : 4 ≤ b) (zb : b ≤ 64) (zwb : w * b ≤ 2560) (zlw : 2 * lm + 3 ≤ w) (zcw : 2 * cm + 2 ≤ w) (zlm : lm ≤ 18) (zcm : cm ≤ 19) (hr0 : r0 ≤ 1) : Met l yX9_isRightRoot v_X9_isRightRoot ({ frames := 16, cells := 0, slots := 0, locals := 2834 } : Room) (va_Pc [.ref h0, .int (nI r0)] (fun U => U.heap.size = sz ∧ va_P (dC, dI) vwCl [MO9 h0 (nI w) (nI b) (nI lm) (nI cm) (nI li) (nI ci) a_disk v_isDown v_isArmed v_armedWrites v_armedWords v_writes a_kind a_many a_block a_keys a_vals a_isFresh a_kindWas a_manyWas a_blockWas a_keysWas a_valsWas a_freshWas v_root v_rootWas v_latest v_epoch a_reached a_oldKeys a_oldVals a_allKeys a_allVals v_oldMany v_allMany a_row a_written v_writtenMany a_path a_place v_depth a_freeRow v_isOther v_moved a_bothKeys a_bothVals v_leafDepth v_found v_lastKey v_hasLast, MA9 a_disk cI (w * b) d, MA9 a_reached cZ 240 rc] U.heap ∧ va_K (dC, dI) vwCl [(cI, .int), (cZ, .boolean)] U ∧ va_D (fun _ => True) [MO9 h0 (nI w) (nI b) (nI lm) (nI cm) (nI li) (nI ci) a_disk v_isDown v_isArmed v_armedWrites v_armedWords v_writes a_kind a_many a_block a_keys a_vals a_isFresh a_kindWas a_manyWas a_blockWas a_keysWas a_valsWas a_freshWas v_root v_rootWas v_latest v_epoch a_reached a_oldKeys a_oldVals a_allKeys a_allVals v_oldMany v_allMany a_row a_written v_writtenMany a_path a_place v_depth a_freeRow v_isOther v_moved a_bothKeys a_bothVals v_leafDepth v_found v_lastKey v_hasLast, MA9 a_disk cI (w * b) d, MA9 a_reached cZ 240 rc])) (va_Qi (fun (r : Int32) (u : Int32 × Int32 × Int32 × Int32 × (Nat → Int32)) => match u with | (v_leafDepth2, v_found2, v_lastKey2, v_hasLast2, rc2) => r = 0 ∨ (r = 1 ∧ RootP d w b lm cm r0)) (fun (u : Int32 × Int32 × Int32 × Int32 × (Nat → Int32)) (t : State) => match u with | (v_leafDepth2, v_found2, v_lastKey2, v_hasLast2, rc2) => va_P (dC, dI) vwCl [MO9 h0 (nI w) (nI b) (nI lm) (nI cm) (nI li) (nI ci) a_disk v_isDown v_isArmed v_armedWrites v_armedWords v_writes a_kind a_many a_block a_keys a_vals a_isFresh a_kindWas a_manyWas a_blockWas a_keysWas a_valsWas a_freshWas v_root v_rootWas v_latest v_epoch a_reached a_oldKeys a_oldVals a_allKeys a_allVals v_oldMany v_allMany a_row a_written v_writtenMany a_path a_place v_depth a_freeRow v_isOther v_moved a_bothKeys a_bothVals v_leafDepth2 v_found2 v_lastKey2 v_hasLast2, MA9 a_disk cI (w * b) d, MA9 a_reached cZ 240 rc2] t.heap ∧ va_K (dC, dI) vwCl [(cI, .int), (cZ, .boolean)] t ∧ va_D (va_A [MO9 h0 (nI w) (nI b) (nI lm) (nI cm) (nI li) (nI ci) a_disk v_isDown v_isArmed v_armedWrites v_armedWords v_writes a_kind a_many a_block a_keys a_vals a_isFresh a_kindWas a_manyWas a_blockWas a_keysWas a_valsWas a_freshWas v_root v_rootWas v_latest v_epoch a_reached a_oldKeys a_oldVals a_allKeys a_allVals v_oldMany v_allMany a_row a_written v_writtenMany a_path a_place v_depth a_freeRow v_isOther v_moved a_bothKeys a_bothVals v_leafDepth v_found v_lastKey v_hasLast, MA9 a_disk cI (w * b) d, MA9 a_reached cZ 240 rc] sz) [MO9 h0 (nI w) (nI b) (nI lm) (nI cm) (nI li) (nI ci) a_disk v_isDown v_isArmed v_armedWrites v_armedWords v_writes a_kind a_many a_block a_keys a_vals a_isFresh a_kindWas a_manyWas a_blockWas a_keysWas a_valsWas a_freshWas v_root v_rootWas v_latest v_epoch a_reached a_oldKeys a_oldVals a_allKeys a_allVals v_oldMany v_allMany a_row a_written v_writtenMany a_path a_place v_depth a_freeRow v_isOther v_moved a_bothKeys a_bothVals v_leafDepth2 v_found2 v_lastKey2 v_hasLast2, MA9 a_disk cI (w * b) d, MA9 a_reached cZ 240 rc2]) (va_A [MO9 h0 (nI w) (nI b) (nI lm) (nI cm) (nI li) (nI ci) a_disk v_isDown v_isArmed v_armedWrites v_armedWords v_writes a_kind a_many a_block a_keys a_vals a_isFresh a_kindWas a_manyWas a_blockWas a_keysWas a_valsWas a_freshWas v_root v_rootWas v_latest v_epoch a_reached a_oldKeys a_oldVals a_allKeys a_allVals v_oldMany v_allMany a_row a_written v_writtenMany a_path a_place v_depth a_freeRow v_isOther v_moved a_bothKeys a_bothVals v_leafDepth v_found v_lastKey v_hasLast, MA9 a_disk cI (w * b) d, MA9 a_reached cZ 240 rc] sz)) 0 0 (va_A [MO9 h0 (nI w) (nI b) (nI lm) (nI cm) (nI li) (nI ci) a_disk v_isDown v_isArmed v_armedWrites v_armedWords v_writes a_kind a_many a_block a_keys a_vals a_isFresh a_kindWas a_manyWas a_blockWas a_keysWas a_valsWas a_freshWas v_root v_rootWas v_latest v_epoch a_reached a_oldKeys a_oldVals a_allKeys a_allVals v_oldMany v_allMany a_row a_written v_writtenMany a_path a_place v_depth a_freeRow v_isOther v_moved a_bothKeys a_bothVals v_leafDepth v_found v_lastKey v_hasLast, MA9 a_disk cI (w * b) d, MA9 a_reached cZ 240 rc] sz) := by
  refine Met.ofW (cc := cX9_isRightRoot) (maxL := 3) (ret := (some .boolean)) (by decide) rfl ?_
  intro p e s m args below meth c s₁ B hml hv
  obtain ⟨rfl, hsz, hP, hK, hD0⟩ := hv
  have hx := B.exec
  have hb := B.bytes
  have hr := B.returns
  have hts := atoms_spec (ws := v_X9_isRightRoot) B.pre
  have hown : s.vm.findClass RX9 = some m.cls := findClass_of_methodNamed B.named
  have hlocks := B.notSynchronized
  subst hsz
  have hD := hD0.self (sz := s.heap.size)
  generalize hAe : va_A [MO9 h0 (nI w) (nI b) (nI lm) (nI cm) (nI li) (nI ci) a_disk v_isDown v_isArmed v_armedWrites v_armedWords v_writes a_kind a_many a_block a_keys a_vals a_isFresh a_kindWas a_manyWas a_blockWas a_keysWas a_valsWas a_freshWas v_root v_rootWas v_latest v_epoch a_reached a_oldKeys a_oldVals a_allKeys a_allVals v_oldMany v_allMany a_row a_written v_writtenMany a_path a_place v_depth a_freeRow v_isOther v_moved a_bothKeys a_bothVals v_leafDepth v_found v_lastKey v_hasLast, MA9 a_disk cI (w * b) d, MA9 a_reached cZ 240 rc] s.heap.size = A at hD ⊢
  have hA : ∀ q : Nat, s.heap.size ≤ q → A q := fun q h => by rw [← hAe]; exact Or.inr h
  have hS : va_S A s.heap s.heap [] := va_S.rf
  have hP : va_P (dC, dI) vwCl [MO9 h0 (nI w) (nI b) (nI lm) (nI cm) (nI li) (nI ci) a_disk v_isDown v_isArmed v_armedWrites v_armedWords v_writes a_kind a_many a_block a_keys a_vals a_isFresh a_kindWas a_manyWas a_blockWas a_keysWas a_valsWas a_freshWas v_root v_rootWas v_latest v_epoch a_reached a_oldKeys a_oldVals a_allKeys a_allVals v_oldMany v_allMany a_row a_written v_writtenMany a_path a_place v_depth a_freeRow v_isOther v_moved a_bothKeys a_bothVals v_leafDepth v_found v_lastKey v_hasLast, MA9 a_disk cI (w * b) d, MA9 a_reached cZ 240 rc] s.heap := hP
  have hl := lv_entry ([.ref h0, .int (nI r0)]) (n := 3) (Nat.le_of_ble_eq_true rfl)
  rw [lg_entry_eq]
  generalize (lg_sl ([.ref h0, .int (nI r0)]) ++ List.replicate (3 - (lg_sl ([.ref h0, .int (nI r0)])).length) Slot.unset).toArray = ls at hl ⊢
  have hl : lv_has ls 3 [(0, .ref h0), (1, .int (nI r0))] := hl
  have k_1 := (fun _ h => List.mem_cons_of_mem _ (List.mem_append_right _ (List.mem_append_left _ h)) : ∀ w ∈ wsX90, w ∈ v_X9_isRightRoot)
  have k_2 := hts (.fieldLink RX9 55 "TwinRootsModel" "reached" "[Z") (List.mem_of_getElem? (i := 1) rfl)
  have k_3 := hts (.fieldLink RX9 246 "TwinRootsModel" "leafDepth" "I") (List.mem_of_getElem? (i := 2) rfl)
  have k_4 := hts (.fieldLink RX9 255 "TwinRootsModel" "found" "I") (List.mem_of_getElem? (i := 3) rfl)
  have k_5 := hts (.fieldLink RX9 249 "TwinRootsModel" "hasLast" "Z") (List.mem_of_getElem? (i := 4) rfl)
  have k_6 := hts (.fieldLink RX9 100 "TwinRootsModel" "words" "I") (List.mem_of_getElem? (i := 5) rfl)
  have k_7 := hts (.fieldLink RX9 118 "TwinRootsModel" "disk" "[I") (List.mem_of_getElem? (i := 6) rfl)
  have k_8 := hts (.constant RX9 136 (1414677326)) (List.mem_of_getElem? (i := 7) rfl)
  have hr0b : r0 < b := by omega
  have hwq : w * r0 + w ≤ w * b := by have h9 := idx_g (w := w) (b := b) (q0 := r0) (i := w - 1) (by omega) (by omega); omega
  refine lv_iconst (v := 0) hx hb dX9_isRightRoot_0 (by decide) ?_
  refine lv_istore_n (lv' := [(2, .int 0), (0, .ref h0), (1, .int (nI r0))]) hx hb dX9_isRightRoot_1 rfl hl (by decide) rfl (fun ls hl9 => ?_)
  replace hl := hl9
  clear hl9
  have loop_2 : ∀ (Q : State → Prop), (∀ (i : Nat) (rcv : Nat → Int32) (H : Heap) (locs : List Loc) (ls : Array Slot), i ≤ 120 → va_P (dC, dI) vwCl [MO9 h0 (nI w) (nI b) (nI lm) (nI cm) (nI li) (nI ci) a_disk v_isDown v_isArmed v_armedWrites v_armedWords v_writes a_kind a_many a_block a_keys a_vals a_isFresh a_kindWas a_manyWas a_blockWas a_keysWas a_valsWas a_freshWas v_root v_rootWas v_latest v_epoch a_reached a_oldKeys a_oldVals a_allKeys a_allVals v_oldMany v_allMany a_row a_written v_writtenMany a_path a_place v_depth a_freeRow v_isOther v_moved a_bothKeys a_bothVals v_leafDepth v_found v_lastKey v_hasLast, MA9 a_disk cI (w * b) d, MA9 a_reached cZ 240 rcv] H → va_D A [MO9 h0 (nI w) (nI b) (nI lm) (nI cm) (nI li) (nI ci) a_disk v_isDown v_isArmed v_armedWrites v_armedWords v_writes a_kind a_many a_block a_keys a_vals a_isFresh a_kindWas a_manyWas a_blockWas a_keysWas a_valsWas a_freshWas v_root v_rootWas v_latest v_epoch a_reached a_oldKeys a_oldVals a_allKeys a_allVals v_oldMany v_allMany a_row a_written v_writtenMany a_path a_place v_depth a_freeRow v_isOther v_moved a_bothKeys a_bothVals v_leafDepth v_found v_lastKey v_hasLast, MA9 a_disk cI (w * b) d, MA9 a_reached cZ 240 rcv] → va_S A s.heap H locs → lv_has ls 3 [(0, .ref h0), (1, .int (nI r0)), (2, .int (nI i))] → W p l e (headSpec v_X9_isRightRoot ({ frames := 16, cells := 0, slots := 0, locals := 2834 } : Room)).room s m ([.ref h0, .int (nI r0)] : List Value).toArray below meth c H locs 0 0 Q (F0 m 26 ls [])) → ∀ (nf i : Nat) (rcv : Nat → Int32) (H : Heap) (locs : List Loc) (ls : Array Slot), i ≤ 120 → 120 + 1 ≤ i + nf → va_P (dC, dI) vwCl [MO9 h0 (nI w) (nI b) (nI lm) (nI cm) (nI li) (nI ci) a_disk v_isDown v_isArmed v_armedWrites v_armedWords v_writes a_kind a_many a_block a_keys a_vals a_isFresh a_kindWas a_manyWas a_blockWas a_keysWas a_valsWas a_freshWas v_root v_rootWas v_latest v_epoch a_reached a_oldKeys a_oldVals a_allKeys a_allVals v_oldMany v_allMany a_row a_written v_writtenMany a_path a_place v_depth a_freeRow v_isOther v_moved a_bothKeys a_bothVals v_leafDepth v_found v_lastKey v_hasLast, MA9 a_disk cI (w * b) d, MA9 a_reached cZ 240 rcv] H → va_D A [MO9 h0 (nI w) (nI b) (nI lm) (nI cm) (nI li) (nI ci) a_disk v_isDown v_isArmed v_armedWrites v_armedWords v_writes a_kind a_many a_block a_keys a_vals a_isFresh a_kindWas a_manyWas a_blockWas a_keysWas a_valsWas a_freshWas v_root v_rootWas v_latest v_epoch a_reached a_oldKeys a_oldVals a_allKeys a_allVals v_oldMany v_allMany a_row a_written v_writtenMany a_path a_place v_depth a_freeRow v_isOther v_moved a_bothKeys a_bothVals v_leafDepth v_found v_lastKey v_hasLast, MA9 a_disk cI (w * b) d, MA9 a_reached cZ 240 rcv] → va_S A s.heap H locs → lv_has ls 3 [(0, .ref h0), (1, .int (nI r0)), (2, .int (nI i))] → W p l e (headSpec v_X9_isRightRoot ({ frames := 16, cells := 0, slots := 0, locals := 2834 } : Room)).room s m ([.ref h0, .int (nI r0)] : List Value).toArray below meth c H locs 0 0 Q (F0 m 2 ls []) := by
    intro Q kx nf
    induction nf with
    | zero =>
      intro i rcv H locs ls h1 h2
      exact absurd h2 (by omega)
    | succ nf ih =>
      intro i rcv H locs ls hi hn hP hD hS hl
      refine lv_iload_n hx hb dX9_isRightRoot_2 rfl (lv_at hl 2 rfl) ?_
      refine lv_bipush (v := 120) hx hb dX9_isRightRoot_3 (by decide) ?_
      refine lv_icmp_ge (tgt := 26) hx hb dX9_isRightRoot_5 (by decide) (fun c_1 => ?_) (fun c_1 => ?_)
      · have n_c_1 : 120 ≤ i := (nI_leI (a := 120) (b := i) (by omega) (by omega)).mp c_1
        exact kx i rcv _ _ _ (by omega) hP hD hS (lv_sub hl [0, 1, 2] rfl)
      · have n_c_1 : ¬ 120 ≤ i := fun h9 => c_1 ((nI_leI (a := 120) (b := i) (by omega) (by omega)).mpr h9)
        refine lv_aload_n hx hb dX9_isRightRoot_8 rfl (lv_at hl 0 rfl) ?_
        refine va_get (D := (dC, dI)) (ci := 9) (v := .ref a_reached) (C := RX9) (T := TX9) (N := 50) hx hb hts k_1 hown hK hP 0 rfl rfl 28 (by decide) k_2 (fun _ h9 => h9) rfl dX9_isRightRoot_9 ?_
        refine lv_bipush (v := 120) hx hb dX9_isRightRoot_12 (by decide) ?_
        refine lv_iload_n hx hb dX9_isRightRoot_14 rfl (lv_at hl 1 rfl) ?_
        refine lv_imul hx hb dX9_isRightRoot_15 ?_
        refine lv_topi (fun z_2 ez_2 => ?_)
        obtain rfl : z_2 = nI (120 * r0) := ez_2.trans (pk_mul 120 r0)
        refine lv_iload_n hx hb dX9_isRightRoot_16 rfl (lv_at hl 2 rfl) ?_
        refine lv_iadd hx hb dX9_isRightRoot_17 ?_
        refine lv_topi (fun z_3 ez_3 => ?_)
        obtain rfl : z_3 = nI (120 * r0 + i) := ez_3.trans (nI_add (120 * r0) i)
        refine lv_iconst (v := 0) hx hb dX9_isRightRoot_18 (by decide) ?_
        refine va_zast hx hb hK hP hD hS 2 1 rfl rfl (show vp_in (nI (120 * r0 + i)) 240 from vp_in_nI (by omega) (by omega)) dX9_isRightRoot_19 (fun H locs hP9 hD9 hS9 => ?_)
        replace hP := hP9
        replace hD := hD9
        replace hS := hS9
        clear hP9 hD9 hS9
        replace hP : va_P (dC, dI) vwCl [MO9 h0 (nI w) (nI b) (nI lm) (nI cm) (nI li) (nI ci) a_disk v_isDown v_isArmed v_armedWrites v_armedWords v_writes a_kind a_many a_block a_keys a_vals a_isFresh a_kindWas a_manyWas a_blockWas a_keysWas a_valsWas a_freshWas v_root v_rootWas v_latest v_epoch a_reached a_oldKeys a_oldVals a_allKeys a_allVals v_oldMany v_allMany a_row a_written v_writtenMany a_path a_place v_depth a_freeRow v_isOther v_moved a_bothKeys a_bothVals v_leafDepth v_found v_lastKey v_hasLast, MA9 a_disk cI (w * b) d, MA9 a_reached cZ 240 (upd rcv ((nI (120 * r0 + i)).toNatClampNeg) (vp_nar .boolean 0))] H := hP
        replace hD : va_D A [MO9 h0 (nI w) (nI b) (nI lm) (nI cm) (nI li) (nI ci) a_disk v_isDown v_isArmed v_armedWrites v_armedWords v_writes a_kind a_many a_block a_keys a_vals a_isFresh a_kindWas a_manyWas a_blockWas a_keysWas a_valsWas a_freshWas v_root v_rootWas v_latest v_epoch a_reached a_oldKeys a_oldVals a_allKeys a_allVals v_oldMany v_allMany a_row a_written v_writtenMany a_path a_place v_depth a_freeRow v_isOther v_moved a_bothKeys a_bothVals v_leafDepth v_found v_lastKey v_hasLast, MA9 a_disk cI (w * b) d, MA9 a_reached cZ 240 (upd rcv ((nI (120 * r0 + i)).toNatClampNeg) (vp_nar .boolean 0))] := hD
        rw [show (nI (120 * r0 + i)).toNatClampNeg = 120 * r0 + i from nI_clamp (by omega)] at hP hD
        rw [show vp_nar .boolean 0 = 0 from rfl] at hP hD
        obtain ⟨f_4, ef_4⟩ : ∃ g9, g9 = upd rcv (120 * r0 + i) 0 := ⟨_, rfl⟩
        rw [← ef_4] at hP hD
        refine lv_iinc (v := (nI (i + 1))) (lv' := [(2, .int (nI (i + 1))), (0, .ref h0), (1, .int (nI r0))]) hx hb dX9_isRightRoot_20 hl (k := 2) rfl (nI_1 i) (by decide) rfl (fun ls hl9 => ?_)
        replace hl := hl9
        clear hl9
        refine lv_goto (tgt := 2) hx hb dX9_isRightRoot_23 (by decide) ?_
        exact ih (i + 1) f_4 _ _ _ (by omega) (by omega) hP hD hS (lv_sub hl [1, 2, 0] rfl)
  refine loop_2 _ (fun i rcv H locs ls hi hP hD hS hl => ?_) (120 + 1) 0 rc _ _ _ (by omega) (by omega) hP hD hS (lv_sub hl [1, 2, 0] rfl)
  refine lv_aload_n hx hb dX9_isRightRoot_26 rfl (lv_at hl 0 rfl) ?_
  refine lv_iconst (v := 0) hx hb dX9_isRightRoot_27 (by decide) ?_
  refine va_put (D := (dC, dI)) (ci := 9) (v := .int 0) (ty := .int) (C := RX9) (T := TX9) (N := 50) hx hb hts k_1 tyX9 tyX9_ok nmX9 hown hK hP hD hS 0 rfl rfl 46 (by decide) k_3 (fun _ h9 => h9) rfl (by decide +kernel) rfl rfl (Nat.le_of_ble_eq_true rfl) dX9_isRightRoot_28 (fun H locs hP9 hD9 hS9 => ?_)
  replace hP := hP9
  replace hD := hD9
  replace hS := hS9
  clear hP9 hD9 hS9
  replace hP : va_P (dC, dI) vwCl [MO9 h0 (nI w) (nI b) (nI lm) (nI cm) (nI li) (nI ci) a_disk v_isDown v_isArmed v_armedWrites v_armedWords v_writes a_kind a_many a_block a_keys a_vals a_isFresh a_kindWas a_manyWas a_blockWas a_keysWas a_valsWas a_freshWas v_root v_rootWas v_latest v_epoch a_reached a_oldKeys a_oldVals a_allKeys a_allVals v_oldMany v_allMany a_row a_written v_writtenMany a_path a_place v_depth a_freeRow v_isOther v_moved a_bothKeys a_bothVals 0 v_found v_lastKey v_hasLast, MA9 a_disk cI (w * b) d, MA9 a_reached cZ 240 rcv] H := hP
  replace hD : va_D A [MO9 h0 (nI w) (nI b) (nI lm) (nI cm) (nI li) (nI ci) a_disk v_isDown v_isArmed v_armedWrites v_armedWords v_writes a_kind a_many a_block a_keys a_vals a_isFresh a_kindWas a_manyWas a_blockWas a_keysWas a_valsWas a_freshWas v_root v_rootWas v_latest v_epoch a_reached a_oldKeys a_oldVals a_allKeys a_allVals v_oldMany v_allMany a_row a_written v_writtenMany a_path a_place v_depth a_freeRow v_isOther v_moved a_bothKeys a_bothVals 0 v_found v_lastKey v_hasLast, MA9 a_disk cI (w * b) d, MA9 a_reached cZ 240 rcv] := hD
  refine lv_aload_n hx hb dX9_isRightRoot_31 rfl (lv_at hl 0 rfl) ?_
  refine lv_iconst (v := 0) hx hb dX9_isRightRoot_32 (by decide) ?_
  refine va_put (D := (dC, dI)) (ci := 9) (v := .int 0) (ty := .int) (C := RX9) (T := TX9) (N := 50) hx hb hts k_1 tyX9 tyX9_ok nmX9 hown hK hP hD hS 0 rfl rfl 47 (by decide) k_4 (fun _ h9 => h9) rfl (by decide +kernel) rfl rfl (Nat.le_of_ble_eq_true rfl) dX9_isRightRoot_33 (fun H locs hP9 hD9 hS9 => ?_)
  replace hP := hP9
  replace hD := hD9
  replace hS := hS9
  clear hP9 hD9 hS9
  replace hP : va_P (dC, dI) vwCl [MO9 h0 (nI w) (nI b) (nI lm) (nI cm) (nI li) (nI ci) a_disk v_isDown v_isArmed v_armedWrites v_armedWords v_writes a_kind a_many a_block a_keys a_vals a_isFresh a_kindWas a_manyWas a_blockWas a_keysWas a_valsWas a_freshWas v_root v_rootWas v_latest v_epoch a_reached a_oldKeys a_oldVals a_allKeys a_allVals v_oldMany v_allMany a_row a_written v_writtenMany a_path a_place v_depth a_freeRow v_isOther v_moved a_bothKeys a_bothVals 0 0 v_lastKey v_hasLast, MA9 a_disk cI (w * b) d, MA9 a_reached cZ 240 rcv] H := hP
  replace hD : va_D A [MO9 h0 (nI w) (nI b) (nI lm) (nI cm) (nI li) (nI ci) a_disk v_isDown v_isArmed v_armedWrites v_armedWords v_writes a_kind a_many a_block a_keys a_vals a_isFresh a_kindWas a_manyWas a_blockWas a_keysWas a_valsWas a_freshWas v_root v_rootWas v_latest v_epoch a_reached a_oldKeys a_oldVals a_allKeys a_allVals v_oldMany v_allMany a_row a_written v_writtenMany a_path a_place v_depth a_freeRow v_isOther v_moved a_bothKeys a_bothVals 0 0 v_lastKey v_hasLast, MA9 a_disk cI (w * b) d, MA9 a_reached cZ 240 rcv] := hD
  refine lv_aload_n hx hb dX9_isRightRoot_36 rfl (lv_at hl 0 rfl) ?_
  refine lv_iconst (v := 0) hx hb dX9_isRightRoot_37 (by decide) ?_
  refine va_put (D := (dC, dI)) (ci := 9) (v := .int 0) (ty := .boolean) (C := RX9) (T := TX9) (N := 50) hx hb hts k_1 tyX9 tyX9_ok nmX9 hown hK hP hD hS 0 rfl rfl 49 (by decide) k_5 (fun _ h9 => h9) rfl (by decide +kernel) rfl rfl (Nat.le_of_ble_eq_true rfl) dX9_isRightRoot_38 (fun H locs hP9 hD9 hS9 => ?_)
  replace hP := hP9
  replace hD := hD9
  replace hS := hS9
  clear hP9 hD9 hS9
  replace hP : va_P (dC, dI) vwCl [MO9 h0 (nI w) (nI b) (nI lm) (nI cm) (nI li) (nI ci) a_disk v_isDown v_isArmed v_armedWrites v_armedWords v_writes a_kind a_many a_block a_keys a_vals a_isFresh a_kindWas a_manyWas a_blockWas a_keysWas a_valsWas a_freshWas v_root v_rootWas v_latest v_epoch a_reached a_oldKeys a_oldVals a_allKeys a_allVals v_oldMany v_allMany a_row a_written v_writtenMany a_path a_place v_depth a_freeRow v_isOther v_moved a_bothKeys a_bothVals 0 0 v_lastKey 0, MA9 a_disk cI (w * b) d, MA9 a_reached cZ 240 rcv] H := hP
  replace hD : va_D A [MO9 h0 (nI w) (nI b) (nI lm) (nI cm) (nI li) (nI ci) a_disk v_isDown v_isArmed v_armedWrites v_armedWords v_writes a_kind a_many a_block a_keys a_vals a_isFresh a_kindWas a_manyWas a_blockWas a_keysWas a_valsWas a_freshWas v_root v_rootWas v_latest v_epoch a_reached a_oldKeys a_oldVals a_allKeys a_allVals v_oldMany v_allMany a_row a_written v_writtenMany a_path a_place v_depth a_freeRow v_isOther v_moved a_bothKeys a_bothVals 0 0 v_lastKey 0, MA9 a_disk cI (w * b) d, MA9 a_reached cZ 240 rcv] := hD
  refine lv_aload_n hx hb dX9_isRightRoot_41 rfl (lv_at hl 0 rfl) ?_
  refine va_get (D := (dC, dI)) (ci := 9) (v := .int (nI w)) (C := RX9) (T := TX9) (N := 50) hx hb hts k_1 hown hK hP 0 rfl rfl 0 (by decide) k_6 (fun _ h9 => h9) rfl dX9_isRightRoot_42 ?_
  refine lv_iload_n hx hb dX9_isRightRoot_45 rfl (lv_at hl 1 rfl) ?_
  refine lv_imul hx hb dX9_isRightRoot_46 ?_
  refine lv_topi (fun z_5 ez_5 => ?_)
  obtain rfl : z_5 = nI (w * r0) := ez_5.trans (pk_mul w r0)
  refine lv_istore_n (lv' := [(2, .int (nI (w * r0))), (0, .ref h0), (1, .int (nI r0))]) hx hb dX9_isRightRoot_47 rfl hl (by decide) rfl (fun ls hl9 => ?_)
  replace hl := hl9
  clear hl9
  refine lv_aload_n hx hb dX9_isRightRoot_48 rfl (lv_at hl 1 rfl) ?_
  refine va_get (D := (dC, dI)) (ci := 9) (v := .ref a_disk) (C := RX9) (T := TX9) (N := 50) hx hb hts k_1 hown hK hP 0 rfl rfl 6 (by decide) k_7 (fun _ h9 => h9) rfl dX9_isRightRoot_49 ?_
  refine lv_iload_n hx hb dX9_isRightRoot_52 rfl (lv_at hl 0 rfl) ?_
  refine va_iald hx hb hK hP 1 0 rfl rfl (show vp_in (nI (w * r0)) (w * b) from vp_in_nI (by omega) (by omega)) dX9_isRightRoot_53 ?_
  refine lv_topi (fun z_6 ez_6 => ?_)
  obtain rfl : z_6 = d (w * r0) := ez_6.trans (congrArg d (nI_clamp (by omega)))
  refine lv_ldc (v := (1414677326)) hx hb hown k_8 dX9_isRightRoot_54 ?_
  refine lv_icmp_ne (tgt := 80) hx hb dX9_isRightRoot_56 (by decide) (fun c_7 => ?_) (fun c_7 => ?_)
  · refine lv_iconst (v := 0) hx hb dX9_isRightRoot_80 (by decide) ?_
    have hP9 := hP.sub (ws' := [MO9 h0 (nI w) (nI b) (nI lm) (nI cm) (nI li) (nI ci) a_disk v_isDown v_isArmed v_armedWrites v_armedWords v_writes a_kind a_many a_block a_keys a_vals a_isFresh a_kindWas a_manyWas a_blockWas a_keysWas a_valsWas a_freshWas v_root v_rootWas v_latest v_epoch a_reached a_oldKeys a_oldVals a_allKeys a_allVals v_oldMany v_allMany a_row a_written v_writtenMany a_path a_place v_depth a_freeRow v_isOther v_moved a_bothKeys a_bothVals 0 0 v_lastKey 0, MA9 a_disk cI (w * b) d, MA9 a_reached cZ 240 rcv]) [0, 1, 2] rfl
    have hD9 := hD.sub (ws' := [MO9 h0 (nI w) (nI b) (nI lm) (nI cm) (nI li) (nI ci) a_disk v_isDown v_isArmed v_armedWrites v_armedWords v_writes a_kind a_many a_block a_keys a_vals a_isFresh a_kindWas a_manyWas a_blockWas a_keysWas a_valsWas a_freshWas v_root v_rootWas v_latest v_epoch a_reached a_oldKeys a_oldVals a_allKeys a_allVals v_oldMany v_allMany a_row a_written v_writtenMany a_path a_place v_depth a_freeRow v_isOther v_moved a_bothKeys a_bothVals 0 0 v_lastKey 0, MA9 a_disk cI (w * b) d, MA9 a_reached cZ 240 rcv]) [0, 1, 2] (by decide) rfl
    have hK9 := hK.sub (tys' := [(cI, .int), (cZ, .boolean)]) [0, 1] rfl
    exact W.zret (v := 0) hx hb hr rfl (fun t ht hW => ⟨⟨0, (0, 0, v_lastKey, 0, rcv), rfl, (Or.inl rfl), by rw [ht]; exact hP9, va_K.moved hW.alike hK9, hD9⟩, hS.F ht⟩) hS.2.2 dX9_isRightRoot_81
  · refine lv_aload_n hx hb dX9_isRightRoot_59 rfl (lv_at hl 1 rfl) ?_
    refine lv_iload_n hx hb dX9_isRightRoot_60 rfl (lv_at hl 2 rfl) ?_
    have hPc := hP.sub (ws' := [MO9 h0 (nI w) (nI b) (nI lm) (nI cm) (nI li) (nI ci) a_disk v_isDown v_isArmed v_armedWrites v_armedWords v_writes a_kind a_many a_block a_keys a_vals a_isFresh a_kindWas a_manyWas a_blockWas a_keysWas a_valsWas a_freshWas v_root v_rootWas v_latest v_epoch a_reached a_oldKeys a_oldVals a_allKeys a_allVals v_oldMany v_allMany a_row a_written v_writtenMany a_path a_place v_depth a_freeRow v_isOther v_moved a_bothKeys a_bothVals 0 0 v_lastKey 0, MA9 a_disk cI (w * b) d]) [0, 1] rfl
    have hDc := hD.sub (ws' := [MO9 h0 (nI w) (nI b) (nI lm) (nI cm) (nI li) (nI ci) a_disk v_isDown v_isArmed v_armedWrites v_armedWords v_writes a_kind a_many a_block a_keys a_vals a_isFresh a_kindWas a_manyWas a_blockWas a_keysWas a_valsWas a_freshWas v_root v_rootWas v_latest v_epoch a_reached a_oldKeys a_oldVals a_allKeys a_allVals v_oldMany v_allMany a_row a_written v_writtenMany a_path a_place v_depth a_freeRow v_isOther v_moved a_bothKeys a_bothVals 0 0 v_lastKey 0, MA9 a_disk cI (w * b) d]) [0, 1] (by decide) rfl
    have hKc := hK.sub (tys' := [(cI, .int)]) [0] rfl
    have hFc := va_free (wc := [MO9 h0 (nI w) (nI b) (nI lm) (nI cm) (nI li) (nI ci) a_disk v_isDown v_isArmed v_armedWrites v_armedWords v_writes a_kind a_many a_block a_keys a_vals a_isFresh a_kindWas a_manyWas a_blockWas a_keysWas a_valsWas a_freshWas v_root v_rootWas v_latest v_epoch a_reached a_oldKeys a_oldVals a_allKeys a_allVals v_oldMany v_allMany a_row a_written v_writtenMany a_path a_place v_depth a_freeRow v_isOther v_moved a_bothKeys a_bothVals 0 0 v_lastKey 0, MA9 a_disk cI (w * b) d]) hD hS hA [0, 1] rfl
    refine va_calli (va_runV (As := [.int (nI r0)]) (rest := []) ⟨hx, hb, hml, hown, hts⟩ (c_X9_sumOf l dC dI H.size h0 w b lm cm li ci a_disk a_kind a_many a_block a_keys a_vals a_isFresh a_kindWas a_manyWas a_blockWas a_keysWas a_valsWas a_freshWas a_reached a_oldKeys a_oldVals a_allKeys a_allVals a_row a_written a_path a_place a_freeRow a_bothKeys a_bothVals v_isDown v_isArmed v_armedWrites v_armedWords v_writes v_root v_rootWas v_latest v_epoch v_oldMany v_allMany v_writtenMany v_depth v_isOther v_moved 0 0 v_lastKey 0 cI d r0 (by first | assumption | omega | decide) (by first | assumption | omega | decide) (by first | assumption | omega | decide) (by first | assumption | omega | decide) (by first | assumption | omega | decide) (by first | assumption | omega | decide)) (cwV 1 hts g_X9_isRightRoot_X9_sumOf rfl rfl rfl (by decide +kernel) ⟨Nat.le_of_ble_eq_true rfl, Nat.le_of_ble_eq_true rfl⟩) ⟨fun a U g mk q => by obtain ⟨q0, q1, qP, qK, qD⟩ := q; exact ⟨q0, q1, qP, va_K.moved (u := U) (U := U.calling g mk a) (Vm.Alike.refl U.vm) qK, qD⟩, va_recv hKc hPc (ci := 9) (q0 := 0) rfl rfl, fun U hU hW => ⟨rfl, by rw [hU], by rw [hU]; exact hPc, va_K.moved hW.alike hKc, hDc.weaken (fun _ _ _ _ => trivial)⟩⟩ rfl rfl hl.1 rfl (lv_room (Nat.le_of_ble_eq_true rfl)) dX9_isRightRoot_61 ⟨(show 0 + 0 ≤ 0 by omega), (show 0 + 0 ≤ 0 by omega)⟩) hS (fun q _ h => hFc q h) hFc (fun r_8 u t H1 locs ht hvm hw hB hz1 hk1 hS9 => ?_)
    replace hS := hS9
    clear hS9
    obtain ⟨hP1, hK1, hD1⟩ := hB
    rw [ht] at hP1
    replace hK1 := va_K.moved hvm.symm hK1
    try dsimp only at hw
    obtain ⟨hP9, hD9⟩ := va_join (wr := [MA9 a_reached cZ 240 rcv]) (w1 := [MO9 h0 (nI w) (nI b) (nI lm) (nI cm) (nI li) (nI ci) a_disk v_isDown v_isArmed v_armedWrites v_armedWords v_writes a_kind a_many a_block a_keys a_vals a_isFresh a_kindWas a_manyWas a_blockWas a_keysWas a_valsWas a_freshWas v_root v_rootWas v_latest v_epoch a_reached a_oldKeys a_oldVals a_allKeys a_allVals v_oldMany v_allMany a_row a_written v_writtenMany a_path a_place v_depth a_freeRow v_isOther v_moved a_bothKeys a_bothVals 0 0 v_lastKey 0, MA9 a_disk cI (w * b) d]) hP hD [0, 1] [2] rfl rfl (by decide) (by decide) hk1 hFc hP1 hD1
    replace hP := hP9
    replace hD := hD9
    clear hP9 hD9
    replace hK := (hK.sub (tys' := [(cZ, .boolean)]) [1] rfl).app hK1
    clear hP1 hD1 hK1 hPc hDc hKc hFc hk1 hz1 hvm ht
    generalize H1 = H at hP hS ⊢
    replace hP : va_P (dC, dI) vwCl [MA9 a_reached cZ 240 rcv, MO9 h0 (nI w) (nI b) (nI lm) (nI cm) (nI li) (nI ci) a_disk v_isDown v_isArmed v_armedWrites v_armedWords v_writes a_kind a_many a_block a_keys a_vals a_isFresh a_kindWas a_manyWas a_blockWas a_keysWas a_valsWas a_freshWas v_root v_rootWas v_latest v_epoch a_reached a_oldKeys a_oldVals a_allKeys a_allVals v_oldMany v_allMany a_row a_written v_writtenMany a_path a_place v_depth a_freeRow v_isOther v_moved a_bothKeys a_bothVals 0 0 v_lastKey 0, MA9 a_disk cI (w * b) d] H := hP
    replace hD : va_D A [MA9 a_reached cZ 240 rcv, MO9 h0 (nI w) (nI b) (nI lm) (nI cm) (nI li) (nI ci) a_disk v_isDown v_isArmed v_armedWrites v_armedWords v_writes a_kind a_many a_block a_keys a_vals a_isFresh a_kindWas a_manyWas a_blockWas a_keysWas a_valsWas a_freshWas v_root v_rootWas v_latest v_epoch a_reached a_oldKeys a_oldVals a_allKeys a_allVals v_oldMany v_allMany a_row a_written v_writtenMany a_path a_place v_depth a_freeRow v_isOther v_moved a_bothKeys a_bothVals 0 0 v_lastKey 0, MA9 a_disk cI (w * b) d] := hD
    replace hK : va_K (dC, dI) vwCl [(cZ, .boolean), (cI, .int)] s := hK
    have hw_r_8 := hw
    refine lv_aload_n hx hb dX9_isRightRoot_64 rfl (lv_at hl 1 rfl) ?_
    refine va_get (D := (dC, dI)) (ci := 9) (v := .ref a_disk) (C := RX9) (T := TX9) (N := 50) hx hb hts k_1 hown hK hP 1 rfl rfl 6 (by decide) k_7 (fun _ h9 => h9) rfl dX9_isRightRoot_65 ?_
    refine lv_iload_n hx hb dX9_isRightRoot_68 rfl (lv_at hl 0 rfl) ?_
    refine lv_aload_n hx hb dX9_isRightRoot_69 rfl (lv_at hl 1 rfl) ?_
    refine va_get (D := (dC, dI)) (ci := 9) (v := .int (nI w)) (C := RX9) (T := TX9) (N := 50) hx hb hts k_1 hown hK hP 1 rfl rfl 0 (by decide) k_6 (fun _ h9 => h9) rfl dX9_isRightRoot_70 ?_
    refine lv_iadd hx hb dX9_isRightRoot_73 ?_
    refine lv_topi (fun z_9 ez_9 => ?_)
    obtain rfl : z_9 = nI (w * r0 + w) := ez_9.trans (nI_add (w * r0) w)
    refine lv_iconst (v := 1) hx hb dX9_isRightRoot_74 (by decide) ?_
    refine lv_isub hx hb dX9_isRightRoot_75 ?_
    refine lv_topi (fun z_10 ez_10 => ?_)
    obtain rfl : z_10 = nI (w * r0 + w - 1) := ez_10.trans (pk_sub (a := w * r0 + w) (b := 1) (by omega))
    refine va_iald hx hb hK hP 2 1 rfl rfl (show vp_in (nI (w * r0 + w - 1)) (w * b) from vp_in_nI (by omega) (by omega)) dX9_isRightRoot_76 ?_
    refine lv_topi (fun z_11 ez_11 => ?_)
    obtain rfl : z_11 = d (w * r0 + w - 1) := ez_11.trans (congrArg d (nI_clamp (by omega)))
    refine lv_icmp_eq (tgt := 82) hx hb dX9_isRightRoot_77 (by decide) (fun c_12 => ?_) (fun c_12 => ?_)
    · refine lv_aload_n hx hb dX9_isRightRoot_82 rfl (lv_at hl 1 rfl) ?_
      refine va_get (D := (dC, dI)) (ci := 9) (v := .ref a_disk) (C := RX9) (T := TX9) (N := 50) hx hb hts k_1 hown hK hP 1 rfl rfl 6 (by decide) k_7 (fun _ h9 => h9) rfl dX9_isRightRoot_83 ?_
      refine lv_iload_n hx hb dX9_isRightRoot_86 rfl (lv_at hl 0 rfl) ?_
      refine lv_iconst (v := 2) hx hb dX9_isRightRoot_87 (by decide) ?_
      refine lv_iadd hx hb dX9_isRightRoot_88 ?_
      refine lv_topi (fun z_13 ez_13 => ?_)
      obtain rfl : z_13 = nI (w * r0 + 2) := ez_13.trans (nI_add (w * r0) 2)
      refine va_iald hx hb hK hP 2 1 rfl rfl (show vp_in (nI (w * r0 + 2)) (w * b) from vp_in_nI (by omega) (by omega)) dX9_isRightRoot_89 ?_
      refine lv_topi (fun z_14 ez_14 => ?_)
      obtain rfl : z_14 = d (w * r0 + 2) := ez_14.trans (congrArg d (nI_clamp (by omega)))
      refine lv_if_ne (tgt := 110) hx hb dX9_isRightRoot_90 (by decide) (fun c_15 => ?_) (fun c_15 => ?_)
      · refine lv_aload_n hx hb dX9_isRightRoot_110 rfl (lv_at hl 1 rfl) ?_
        refine lv_iload_n hx hb dX9_isRightRoot_111 rfl (lv_at hl 2 rfl) ?_
        refine lv_aload_n hx hb dX9_isRightRoot_112 rfl (lv_at hl 1 rfl) ?_
        refine va_get (D := (dC, dI)) (ci := 9) (v := .ref a_disk) (C := RX9) (T := TX9) (N := 50) hx hb hts k_1 hown hK hP 1 rfl rfl 6 (by decide) k_7 (fun _ h9 => h9) rfl dX9_isRightRoot_113 ?_
        refine lv_iload_n hx hb dX9_isRightRoot_116 rfl (lv_at hl 0 rfl) ?_
        refine lv_iconst (v := 2) hx hb dX9_isRightRoot_117 (by decide) ?_
        refine lv_iadd hx hb dX9_isRightRoot_118 ?_
        refine lv_topi (fun z_16 ez_16 => ?_)
        obtain rfl : z_16 = nI (w * r0 + 2) := ez_16.trans (nI_add (w * r0) 2)
        refine va_iald hx hb hK hP 2 1 rfl rfl (show vp_in (nI (w * r0 + 2)) (w * b) from vp_in_nI (by omega) (by omega)) dX9_isRightRoot_119 ?_
        refine lv_topi (fun z_17 ez_17 => ?_)
        obtain rfl : z_17 = d (w * r0 + 2) := ez_17.trans (congrArg d (nI_clamp (by omega)))
        refine lv_iconst (v := 1) hx hb dX9_isRightRoot_120 (by decide) ?_
        refine lv_iconst (v := 0) hx hb dX9_isRightRoot_121 (by decide) ?_
        refine lv_iconst (v := 0) hx hb dX9_isRightRoot_122 (by decide) ?_
        refine lv_iconst (v := 0) hx hb dX9_isRightRoot_123 (by decide) ?_
        refine lv_iconst (v := 0) hx hb dX9_isRightRoot_124 (by decide) ?_
        have hPc := hP.sub (ws' := [MO9 h0 (nI w) (nI b) (nI lm) (nI cm) (nI li) (nI ci) a_disk v_isDown v_isArmed v_armedWrites v_armedWords v_writes a_kind a_many a_block a_keys a_vals a_isFresh a_kindWas a_manyWas a_blockWas a_keysWas a_valsWas a_freshWas v_root v_rootWas v_latest v_epoch a_reached a_oldKeys a_oldVals a_allKeys a_allVals v_oldMany v_allMany a_row a_written v_writtenMany a_path a_place v_depth a_freeRow v_isOther v_moved a_bothKeys a_bothVals 0 0 v_lastKey 0, MA9 a_disk cI (w * b) d, MA9 a_reached cZ 240 rcv]) [1, 2, 0] rfl
        have hDc := hD.sub (ws' := [MO9 h0 (nI w) (nI b) (nI lm) (nI cm) (nI li) (nI ci) a_disk v_isDown v_isArmed v_armedWrites v_armedWords v_writes a_kind a_many a_block a_keys a_vals a_isFresh a_kindWas a_manyWas a_blockWas a_keysWas a_valsWas a_freshWas v_root v_rootWas v_latest v_epoch a_reached a_oldKeys a_oldVals a_allKeys a_allVals v_oldMany v_allMany a_row a_written v_writtenMany a_path a_place v_depth a_freeRow v_isOther v_moved a_bothKeys a_bothVals 0 0 v_lastKey 0, MA9 a_disk cI (w * b) d, MA9 a_reached cZ 240 rcv]) [1, 2, 0] (by decide) rfl
        have hKc := hK.sub (tys' := [(cI, .int), (cZ, .boolean)]) [1, 0] rfl
        have hFc := va_free (wc := [MO9 h0 (nI w) (nI b) (nI lm) (nI cm) (nI li) (nI ci) a_disk v_isDown v_isArmed v_armedWrites v_armedWords v_writes a_kind a_many a_block a_keys a_vals a_isFresh a_kindWas a_manyWas a_blockWas a_keysWas a_valsWas a_freshWas v_root v_rootWas v_latest v_epoch a_reached a_oldKeys a_oldVals a_allKeys a_allVals v_oldMany v_allMany a_row a_written v_writtenMany a_path a_place v_depth a_freeRow v_isOther v_moved a_bothKeys a_bothVals 0 0 v_lastKey 0, MA9 a_disk cI (w * b) d, MA9 a_reached cZ 240 rcv]) hD hS hA [1, 2, 0] rfl
        refine va_calli (va_runV (As := [.int (nI r0), .int (d (w * r0 + 2)), .int 1, .int 0, .int 0, .int 0, .int 0]) (rest := []) ⟨hx, hb, hml, hown, hts⟩ (c_X9_isRight l dC dI 13 H.size h0 w b lm cm li ci a_disk a_kind a_many a_block a_keys a_vals a_isFresh a_kindWas a_manyWas a_blockWas a_keysWas a_valsWas a_freshWas a_reached a_oldKeys a_oldVals a_allKeys a_allVals a_row a_written a_path a_place a_freeRow a_bothKeys a_bothVals v_isDown v_isArmed v_armedWrites v_armedWords v_writes v_root v_rootWas v_latest v_epoch v_oldMany v_allMany v_writtenMany v_depth v_isOther v_moved 0 0 v_lastKey 0 cI cZ d rcv r0 1 (d (w * r0 + 2)) 0 0 0 0 (by first | assumption | omega | decide) (by first | assumption | omega | decide) (by first | assumption | omega | decide) (by first | assumption | omega | decide) (by first | assumption | omega | decide) (by first | assumption | omega | decide) (by first | assumption | omega | decide) (by first | assumption | omega | decide) (by first | assumption | omega | decide) (by first | assumption | omega | decide) (by first | assumption | omega | decide) (by first | assumption | omega | decide)) (cwV 7 hts g_X9_isRightRoot_X9_isRight rfl rfl rfl (by decide +kernel) ⟨Nat.le_of_ble_eq_true rfl, Nat.le_of_ble_eq_true rfl⟩) ⟨fun a U g mk q => by obtain ⟨q0, q1, qP, qK, qD⟩ := q; exact ⟨q0, q1, qP, va_K.moved (u := U) (U := U.calling g mk a) (Vm.Alike.refl U.vm) qK, qD⟩, va_recv hKc hPc (ci := 9) (q0 := 0) rfl rfl, fun U hU hW => ⟨rfl, by rw [hU], by rw [hU]; exact hPc, va_K.moved hW.alike hKc, hDc.weaken (fun _ _ _ _ => trivial)⟩⟩ rfl rfl hl.1 rfl (lv_room (Nat.le_of_ble_eq_true rfl)) dX9_isRightRoot_125 ⟨(show 0 + 0 ≤ 0 by omega), (show 0 + 0 ≤ 0 by omega)⟩) hS (fun q _ h => hFc q h) hFc (fun r_18 u t H1 locs ht hvm hw hB hz1 hk1 hS9 => ?_)
        replace hS := hS9
        clear hS9
        obtain ⟨v_leafDepth2_19, v_found2_20, v_lastKey2_21, v_hasLast2_22, rc2_23⟩ := u
        obtain ⟨hP1, hK1, hD1⟩ := hB
        rw [ht] at hP1
        replace hK1 := va_K.moved hvm.symm hK1
        try dsimp only at hw
        obtain ⟨hP9, hD9⟩ := va_join (wr := []) (w1 := [MO9 h0 (nI w) (nI b) (nI lm) (nI cm) (nI li) (nI ci) a_disk v_isDown v_isArmed v_armedWrites v_armedWords v_writes a_kind a_many a_block a_keys a_vals a_isFresh a_kindWas a_manyWas a_blockWas a_keysWas a_valsWas a_freshWas v_root v_rootWas v_latest v_epoch a_reached a_oldKeys a_oldVals a_allKeys a_allVals v_oldMany v_allMany a_row a_written v_writtenMany a_path a_place v_depth a_freeRow v_isOther v_moved a_bothKeys a_bothVals v_leafDepth2_19 v_found2_20 v_lastKey2_21 v_hasLast2_22, MA9 a_disk cI (w * b) d, MA9 a_reached cZ 240 rc2_23]) hP hD [1, 2, 0] [] rfl rfl (by decide) (by decide) hk1 hFc hP1 hD1
        replace hP := hP9
        replace hD := hD9
        clear hP9 hD9
        replace hK := (hK.sub (tys' := []) [] rfl).app hK1
        clear hP1 hD1 hK1 hPc hDc hKc hFc hk1 hz1 hvm ht
        generalize H1 = H at hP hS ⊢
        replace hP : va_P (dC, dI) vwCl [MO9 h0 (nI w) (nI b) (nI lm) (nI cm) (nI li) (nI ci) a_disk v_isDown v_isArmed v_armedWrites v_armedWords v_writes a_kind a_many a_block a_keys a_vals a_isFresh a_kindWas a_manyWas a_blockWas a_keysWas a_valsWas a_freshWas v_root v_rootWas v_latest v_epoch a_reached a_oldKeys a_oldVals a_allKeys a_allVals v_oldMany v_allMany a_row a_written v_writtenMany a_path a_place v_depth a_freeRow v_isOther v_moved a_bothKeys a_bothVals v_leafDepth2_19 v_found2_20 v_lastKey2_21 v_hasLast2_22, MA9 a_disk cI (w * b) d, MA9 a_reached cZ 240 rc2_23] H := hP
        replace hD : va_D A [MO9 h0 (nI w) (nI b) (nI lm) (nI cm) (nI li) (nI ci) a_disk v_isDown v_isArmed v_armedWrites v_armedWords v_writes a_kind a_many a_block a_keys a_vals a_isFresh a_kindWas a_manyWas a_blockWas a_keysWas a_valsWas a_freshWas v_root v_rootWas v_latest v_epoch a_reached a_oldKeys a_oldVals a_allKeys a_allVals v_oldMany v_allMany a_row a_written v_writtenMany a_path a_place v_depth a_freeRow v_isOther v_moved a_bothKeys a_bothVals v_leafDepth2_19 v_found2_20 v_lastKey2_21 v_hasLast2_22, MA9 a_disk cI (w * b) d, MA9 a_reached cZ 240 rc2_23] := hD
        replace hK : va_K (dC, dI) vwCl [(cI, .int), (cZ, .boolean)] s := hK
        have hw_r_18 := hw
        refine lv_if_eq (tgt := 150) hx hb dX9_isRightRoot_128 (by decide) (fun c_24 => ?_) (fun c_24 => ?_)
        · refine lv_iconst (v := 0) hx hb dX9_isRightRoot_150 (by decide) ?_
          have hP9 := hP.sub (ws' := [MO9 h0 (nI w) (nI b) (nI lm) (nI cm) (nI li) (nI ci) a_disk v_isDown v_isArmed v_armedWrites v_armedWords v_writes a_kind a_many a_block a_keys a_vals a_isFresh a_kindWas a_manyWas a_blockWas a_keysWas a_valsWas a_freshWas v_root v_rootWas v_latest v_epoch a_reached a_oldKeys a_oldVals a_allKeys a_allVals v_oldMany v_allMany a_row a_written v_writtenMany a_path a_place v_depth a_freeRow v_isOther v_moved a_bothKeys a_bothVals v_leafDepth2_19 v_found2_20 v_lastKey2_21 v_hasLast2_22, MA9 a_disk cI (w * b) d, MA9 a_reached cZ 240 rc2_23]) [0, 1, 2] rfl
          have hD9 := hD.sub (ws' := [MO9 h0 (nI w) (nI b) (nI lm) (nI cm) (nI li) (nI ci) a_disk v_isDown v_isArmed v_armedWrites v_armedWords v_writes a_kind a_many a_block a_keys a_vals a_isFresh a_kindWas a_manyWas a_blockWas a_keysWas a_valsWas a_freshWas v_root v_rootWas v_latest v_epoch a_reached a_oldKeys a_oldVals a_allKeys a_allVals v_oldMany v_allMany a_row a_written v_writtenMany a_path a_place v_depth a_freeRow v_isOther v_moved a_bothKeys a_bothVals v_leafDepth2_19 v_found2_20 v_lastKey2_21 v_hasLast2_22, MA9 a_disk cI (w * b) d, MA9 a_reached cZ 240 rc2_23]) [0, 1, 2] (by decide) rfl
          have hK9 := hK.sub (tys' := [(cI, .int), (cZ, .boolean)]) [0, 1] rfl
          exact W.zret (v := 0) hx hb hr rfl (fun t ht hW => ⟨⟨0, (v_leafDepth2_19, v_found2_20, v_lastKey2_21, v_hasLast2_22, rc2_23), rfl, (Or.inl rfl), by rw [ht]; exact hP9, va_K.moved hW.alike hK9, hD9⟩, hS.F ht⟩) hS.2.2 dX9_isRightRoot_151
        · refine lv_aload_n hx hb dX9_isRightRoot_131 rfl (lv_at hl 1 rfl) ?_
          refine va_get (D := (dC, dI)) (ci := 9) (v := .ref a_disk) (C := RX9) (T := TX9) (N := 50) hx hb hts k_1 hown hK hP 0 rfl rfl 6 (by decide) k_7 (fun _ h9 => h9) rfl dX9_isRightRoot_132 ?_
          refine lv_iload_n hx hb dX9_isRightRoot_135 rfl (lv_at hl 0 rfl) ?_
          refine lv_iconst (v := 3) hx hb dX9_isRightRoot_136 (by decide) ?_
          refine lv_iadd hx hb dX9_isRightRoot_137 ?_
          refine lv_topi (fun z_25 ez_25 => ?_)
          obtain rfl : z_25 = nI (w * r0 + 3) := ez_25.trans (nI_add (w * r0) 3)
          refine va_iald hx hb hK hP 1 0 rfl rfl (show vp_in (nI (w * r0 + 3)) (w * b) from vp_in_nI (by omega) (by omega)) dX9_isRightRoot_138 ?_
          refine lv_topi (fun z_26 ez_26 => ?_)
          obtain rfl : z_26 = d (w * r0 + 3) := ez_26.trans (congrArg d (nI_clamp (by omega)))
          refine lv_aload_n hx hb dX9_isRightRoot_139 rfl (lv_at hl 1 rfl) ?_
          refine va_get (D := (dC, dI)) (ci := 9) (v := .int v_found2_20) (C := RX9) (T := TX9) (N := 50) hx hb hts k_1 hown hK hP 0 rfl rfl 47 (by decide) k_4 (fun _ h9 => h9) rfl dX9_isRightRoot_140 ?_
          refine lv_icmp_ne (tgt := 150) hx hb dX9_isRightRoot_143 (by decide) (fun c_27 => ?_) (fun c_27 => ?_)
          · refine lv_iconst (v := 0) hx hb dX9_isRightRoot_150 (by decide) ?_
            have hP9 := hP.sub (ws' := [MO9 h0 (nI w) (nI b) (nI lm) (nI cm) (nI li) (nI ci) a_disk v_isDown v_isArmed v_armedWrites v_armedWords v_writes a_kind a_many a_block a_keys a_vals a_isFresh a_kindWas a_manyWas a_blockWas a_keysWas a_valsWas a_freshWas v_root v_rootWas v_latest v_epoch a_reached a_oldKeys a_oldVals a_allKeys a_allVals v_oldMany v_allMany a_row a_written v_writtenMany a_path a_place v_depth a_freeRow v_isOther v_moved a_bothKeys a_bothVals v_leafDepth2_19 v_found2_20 v_lastKey2_21 v_hasLast2_22, MA9 a_disk cI (w * b) d, MA9 a_reached cZ 240 rc2_23]) [0, 1, 2] rfl
            have hD9 := hD.sub (ws' := [MO9 h0 (nI w) (nI b) (nI lm) (nI cm) (nI li) (nI ci) a_disk v_isDown v_isArmed v_armedWrites v_armedWords v_writes a_kind a_many a_block a_keys a_vals a_isFresh a_kindWas a_manyWas a_blockWas a_keysWas a_valsWas a_freshWas v_root v_rootWas v_latest v_epoch a_reached a_oldKeys a_oldVals a_allKeys a_allVals v_oldMany v_allMany a_row a_written v_writtenMany a_path a_place v_depth a_freeRow v_isOther v_moved a_bothKeys a_bothVals v_leafDepth2_19 v_found2_20 v_lastKey2_21 v_hasLast2_22, MA9 a_disk cI (w * b) d, MA9 a_reached cZ 240 rc2_23]) [0, 1, 2] (by decide) rfl
            have hK9 := hK.sub (tys' := [(cI, .int), (cZ, .boolean)]) [0, 1] rfl
            exact W.zret (v := 0) hx hb hr rfl (fun t ht hW => ⟨⟨0, (v_leafDepth2_19, v_found2_20, v_lastKey2_21, v_hasLast2_22, rc2_23), rfl, (Or.inl rfl), by rw [ht]; exact hP9, va_K.moved hW.alike hK9, hD9⟩, hS.F ht⟩) hS.2.2 dX9_isRightRoot_151
          · refine lv_iconst (v := 1) hx hb dX9_isRightRoot_146 (by decide) ?_
            refine lv_goto (tgt := 151) hx hb dX9_isRightRoot_147 (by decide) ?_
            have hP9 := hP.sub (ws' := [MO9 h0 (nI w) (nI b) (nI lm) (nI cm) (nI li) (nI ci) a_disk v_isDown v_isArmed v_armedWrites v_armedWords v_writes a_kind a_many a_block a_keys a_vals a_isFresh a_kindWas a_manyWas a_blockWas a_keysWas a_valsWas a_freshWas v_root v_rootWas v_latest v_epoch a_reached a_oldKeys a_oldVals a_allKeys a_allVals v_oldMany v_allMany a_row a_written v_writtenMany a_path a_place v_depth a_freeRow v_isOther v_moved a_bothKeys a_bothVals v_leafDepth2_19 v_found2_20 v_lastKey2_21 v_hasLast2_22, MA9 a_disk cI (w * b) d, MA9 a_reached cZ 240 rc2_23]) [0, 1, 2] rfl
            have hD9 := hD.sub (ws' := [MO9 h0 (nI w) (nI b) (nI lm) (nI cm) (nI li) (nI ci) a_disk v_isDown v_isArmed v_armedWrites v_armedWords v_writes a_kind a_many a_block a_keys a_vals a_isFresh a_kindWas a_manyWas a_blockWas a_keysWas a_valsWas a_freshWas v_root v_rootWas v_latest v_epoch a_reached a_oldKeys a_oldVals a_allKeys a_allVals v_oldMany v_allMany a_row a_written v_writtenMany a_path a_place v_depth a_freeRow v_isOther v_moved a_bothKeys a_bothVals v_leafDepth2_19 v_found2_20 v_lastKey2_21 v_hasLast2_22, MA9 a_disk cI (w * b) d, MA9 a_reached cZ 240 rc2_23]) [0, 1, 2] (by decide) rfl
            have hK9 := hK.sub (tys' := [(cI, .int), (cZ, .boolean)]) [0, 1] rfl
            exact W.zret (v := 1) hx hb hr rfl (fun t ht hW => ⟨⟨1, (v_leafDepth2_19, v_found2_20, v_lastKey2_21, v_hasLast2_22, rc2_23), rfl, (Or.inr ⟨rfl, rootP_of hw_r_18 c_24⟩), by rw [ht]; exact hP9, va_K.moved hW.alike hK9, hD9⟩, hS.F ht⟩) hS.2.2 dX9_isRightRoot_151
      · refine lv_aload_n hx hb dX9_isRightRoot_93 rfl (lv_at hl 1 rfl) ?_
        refine va_get (D := (dC, dI)) (ci := 9) (v := .ref a_disk) (C := RX9) (T := TX9) (N := 50) hx hb hts k_1 hown hK hP 1 rfl rfl 6 (by decide) k_7 (fun _ h9 => h9) rfl dX9_isRightRoot_94 ?_
        refine lv_iload_n hx hb dX9_isRightRoot_97 rfl (lv_at hl 0 rfl) ?_
        refine lv_iconst (v := 3) hx hb dX9_isRightRoot_98 (by decide) ?_
        refine lv_iadd hx hb dX9_isRightRoot_99 ?_
        refine lv_topi (fun z_28 ez_28 => ?_)
        obtain rfl : z_28 = nI (w * r0 + 3) := ez_28.trans (nI_add (w * r0) 3)
        refine va_iald hx hb hK hP 2 1 rfl rfl (show vp_in (nI (w * r0 + 3)) (w * b) from vp_in_nI (by omega) (by omega)) dX9_isRightRoot_100 ?_
        refine lv_topi (fun z_29 ez_29 => ?_)
        obtain rfl : z_29 = d (w * r0 + 3) := ez_29.trans (congrArg d (nI_clamp (by omega)))
        refine lv_if_ne (tgt := 108) hx hb dX9_isRightRoot_101 (by decide) (fun c_30 => ?_) (fun c_30 => ?_)
        · refine lv_iconst (v := 0) hx hb dX9_isRightRoot_108 (by decide) ?_
          have hP9 := hP.sub (ws' := [MO9 h0 (nI w) (nI b) (nI lm) (nI cm) (nI li) (nI ci) a_disk v_isDown v_isArmed v_armedWrites v_armedWords v_writes a_kind a_many a_block a_keys a_vals a_isFresh a_kindWas a_manyWas a_blockWas a_keysWas a_valsWas a_freshWas v_root v_rootWas v_latest v_epoch a_reached a_oldKeys a_oldVals a_allKeys a_allVals v_oldMany v_allMany a_row a_written v_writtenMany a_path a_place v_depth a_freeRow v_isOther v_moved a_bothKeys a_bothVals 0 0 v_lastKey 0, MA9 a_disk cI (w * b) d, MA9 a_reached cZ 240 rcv]) [1, 2, 0] rfl
          have hD9 := hD.sub (ws' := [MO9 h0 (nI w) (nI b) (nI lm) (nI cm) (nI li) (nI ci) a_disk v_isDown v_isArmed v_armedWrites v_armedWords v_writes a_kind a_many a_block a_keys a_vals a_isFresh a_kindWas a_manyWas a_blockWas a_keysWas a_valsWas a_freshWas v_root v_rootWas v_latest v_epoch a_reached a_oldKeys a_oldVals a_allKeys a_allVals v_oldMany v_allMany a_row a_written v_writtenMany a_path a_place v_depth a_freeRow v_isOther v_moved a_bothKeys a_bothVals 0 0 v_lastKey 0, MA9 a_disk cI (w * b) d, MA9 a_reached cZ 240 rcv]) [1, 2, 0] (by decide) rfl
          have hK9 := hK.sub (tys' := [(cI, .int), (cZ, .boolean)]) [1, 0] rfl
          exact W.zret (v := 0) hx hb hr rfl (fun t ht hW => ⟨⟨0, (0, 0, v_lastKey, 0, rcv), rfl, (Or.inl rfl), by rw [ht]; exact hP9, va_K.moved hW.alike hK9, hD9⟩, hS.F ht⟩) hS.2.2 dX9_isRightRoot_109
        · refine lv_iconst (v := 1) hx hb dX9_isRightRoot_104 (by decide) ?_
          refine lv_goto (tgt := 109) hx hb dX9_isRightRoot_105 (by decide) ?_
          have hP9 := hP.sub (ws' := [MO9 h0 (nI w) (nI b) (nI lm) (nI cm) (nI li) (nI ci) a_disk v_isDown v_isArmed v_armedWrites v_armedWords v_writes a_kind a_many a_block a_keys a_vals a_isFresh a_kindWas a_manyWas a_blockWas a_keysWas a_valsWas a_freshWas v_root v_rootWas v_latest v_epoch a_reached a_oldKeys a_oldVals a_allKeys a_allVals v_oldMany v_allMany a_row a_written v_writtenMany a_path a_place v_depth a_freeRow v_isOther v_moved a_bothKeys a_bothVals 0 0 v_lastKey 0, MA9 a_disk cI (w * b) d, MA9 a_reached cZ 240 rcv]) [1, 2, 0] rfl
          have hD9 := hD.sub (ws' := [MO9 h0 (nI w) (nI b) (nI lm) (nI cm) (nI li) (nI ci) a_disk v_isDown v_isArmed v_armedWrites v_armedWords v_writes a_kind a_many a_block a_keys a_vals a_isFresh a_kindWas a_manyWas a_blockWas a_keysWas a_valsWas a_freshWas v_root v_rootWas v_latest v_epoch a_reached a_oldKeys a_oldVals a_allKeys a_allVals v_oldMany v_allMany a_row a_written v_writtenMany a_path a_place v_depth a_freeRow v_isOther v_moved a_bothKeys a_bothVals 0 0 v_lastKey 0, MA9 a_disk cI (w * b) d, MA9 a_reached cZ 240 rcv]) [1, 2, 0] (by decide) rfl
          have hK9 := hK.sub (tys' := [(cI, .int), (cZ, .boolean)]) [1, 0] rfl
          exact W.zret (v := 1) hx hb hr rfl (fun t ht hW => ⟨⟨1, (0, 0, v_lastKey, 0, rcv), rfl, (Or.inr ⟨rfl, Or.inl c_15⟩), by rw [ht]; exact hP9, va_K.moved hW.alike hK9, hD9⟩, hS.F ht⟩) hS.2.2 dX9_isRightRoot_109
    · refine lv_iconst (v := 0) hx hb dX9_isRightRoot_80 (by decide) ?_
      have hP9 := hP.sub (ws' := [MO9 h0 (nI w) (nI b) (nI lm) (nI cm) (nI li) (nI ci) a_disk v_isDown v_isArmed v_armedWrites v_armedWords v_writes a_kind a_many a_block a_keys a_vals a_isFresh a_kindWas a_manyWas a_blockWas a_keysWas a_valsWas a_freshWas v_root v_rootWas v_latest v_epoch a_reached a_oldKeys a_oldVals a_allKeys a_allVals v_oldMany v_allMany a_row a_written v_writtenMany a_path a_place v_depth a_freeRow v_isOther v_moved a_bothKeys a_bothVals 0 0 v_lastKey 0, MA9 a_disk cI (w * b) d, MA9 a_reached cZ 240 rcv]) [1, 2, 0] rfl
      have hD9 := hD.sub (ws' := [MO9 h0 (nI w) (nI b) (nI lm) (nI cm) (nI li) (nI ci) a_disk v_isDown v_isArmed v_armedWrites v_armedWords v_writes a_kind a_many a_block a_keys a_vals a_isFresh a_kindWas a_manyWas a_blockWas a_keysWas a_valsWas a_freshWas v_root v_rootWas v_latest v_epoch a_reached a_oldKeys a_oldVals a_allKeys a_allVals v_oldMany v_allMany a_row a_written v_writtenMany a_path a_place v_depth a_freeRow v_isOther v_moved a_bothKeys a_bothVals 0 0 v_lastKey 0, MA9 a_disk cI (w * b) d, MA9 a_reached cZ 240 rcv]) [1, 2, 0] (by decide) rfl
      have hK9 := hK.sub (tys' := [(cI, .int), (cZ, .boolean)]) [1, 0] rfl
      exact W.zret (v := 0) hx hb hr rfl (fun t ht hW => ⟨⟨0, (0, 0, v_lastKey, 0, rcv), rfl, (Or.inl rfl), by rw [ht]; exact hP9, va_K.moved hW.alike hK9, hD9⟩, hS.F ht⟩) hS.2.2 dX9_isRightRoot_81
