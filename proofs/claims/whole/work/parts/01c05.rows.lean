theorem dX9_readPattern_47 : decode cX9_readPattern 47 = .ok (.invokevirtual 187, 3) := by decide +kernel
theorem dX9_readPattern_50 : decode cX9_readPattern 50 = .ok (.iconst 0, 1) := by decide +kernel
theorem dX9_readPattern_51 : decode cX9_readPattern 51 = .ok (.istore_n 1, 1) := by decide +kernel
theorem dX9_readPattern_52 : decode cX9_readPattern 52 = .ok (.iload_n 1, 1) := by decide +kernel
theorem dX9_readPattern_53 : decode cX9_readPattern 53 = .ok (.aload_n 0, 1) := by decide +kernel
theorem dX9_readPattern_54 : decode cX9_readPattern 54 = .ok (.getfield 144, 3) := by decide +kernel
theorem dX9_readPattern_57 : decode cX9_readPattern 57 = .ok (.if_icmp .ge 313, 3) := by decide +kernel
theorem dX9_readPattern_60 : decode cX9_readPattern 60 = .ok (.aload_n 0, 1) := by decide +kernel
theorem dX9_readPattern_61 : decode cX9_readPattern 61 = .ok (.getfield 13, 3) := by decide +kernel
theorem dX9_readPattern_64 : decode cX9_readPattern 64 = .ok (.iload_n 1, 1) := by decide +kernel
theorem dX9_readPattern_65 : decode cX9_readPattern 65 = .ok (.caload, 1) := by decide +kernel
theorem dX9_readPattern_66 : decode cX9_readPattern 66 = .ok (.istore_n 2, 1) := by decide +kernel
theorem dX9_readPattern_67 : decode cX9_readPattern 67 = .ok (.aload_n 0, 1) := by decide +kernel
theorem dX9_readPattern_68 : decode cX9_readPattern 68 = .ok (.getfield 36, 3) := by decide +kernel
theorem dX9_readPattern_71 : decode cX9_readPattern 71 = .ok (.aload_n 0, 1) := by decide +kernel
theorem dX9_readPattern_72 : decode cX9_readPattern 72 = .ok (.getfield 148, 3) := by decide +kernel
theorem dX9_readPattern_75 : decode cX9_readPattern 75 = .ok (.iaload, 1) := by decide +kernel
theorem dX9_readPattern_76 : decode cX9_readPattern 76 = .ok (.ifCond .le 7, 3) := by decide +kernel
theorem dX9_readPattern_79 : decode cX9_readPattern 79 = .ok (.iconst 1, 1) := by decide +kernel
theorem dX9_readPattern_80 : decode cX9_readPattern 80 = .ok (.goto 4, 3) := by decide +kernel
theorem dX9_readPattern_83 : decode cX9_readPattern 83 = .ok (.iconst 0, 1) := by decide +kernel
theorem dX9_readPattern_84 : decode cX9_readPattern 84 = .ok (.istore_n 3, 1) := by decide +kernel
theorem dX9_readPattern_85 : decode cX9_readPattern 85 = .ok (.iload_n 2, 1) := by decide +kernel
theorem dX9_readPattern_86 : decode cX9_readPattern 86 = .ok (.bipush 65, 2) := by decide +kernel
theorem dX9_readPattern_88 : decode cX9_readPattern 88 = .ok (.bipush 76, 2) := by decide +kernel
theorem dX9_readPattern_90 : decode cX9_readPattern 90 = .ok (.invokestatic 136, 3) := by decide +kernel
theorem dX9_readPattern_93 : decode cX9_readPattern 93 = .ok (.ifCond .ne 9, 3) := by decide +kernel
theorem dX9_readPattern_96 : decode cX9_readPattern 96 = .ok (.iload_n 2, 1) := by decide +kernel
theorem dX9_readPattern_97 : decode cX9_readPattern 97 = .ok (.bipush 46, 2) := by decide +kernel
theorem dX9_readPattern_99 : decode cX9_readPattern 99 = .ok (.if_icmp .ne 54, 3) := by decide +kernel
theorem dX9_readPattern_102 : decode cX9_readPattern 102 = .ok (.aload_n 0, 1) := by decide +kernel
theorem dX9_readPattern_103 : decode cX9_readPattern 103 = .ok (.getfield 39, 3) := by decide +kernel
theorem dX9_readPattern_106 : decode cX9_readPattern 106 = .ok (.iload_n 1, 1) := by decide +kernel
theorem dX9_readPattern_107 : decode cX9_readPattern 107 = .ok (.iload_n 2, 1) := by decide +kernel
theorem dX9_readPattern_108 : decode cX9_readPattern 108 = .ok (.bipush 46, 2) := by decide +kernel
theorem dX9_readPattern_110 : decode cX9_readPattern 110 = .ok (.if_icmp .ne 8, 3) := by decide +kernel
theorem dX9_readPattern_113 : decode cX9_readPattern 113 = .ok (.bipush 12, 2) := by decide +kernel
theorem dX9_readPattern_115 : decode cX9_readPattern 115 = .ok (.goto 7, 3) := by decide +kernel
theorem dX9_readPattern_118 : decode cX9_readPattern 118 = .ok (.iload_n 2, 1) := by decide +kernel
theorem dX9_readPattern_119 : decode cX9_readPattern 119 = .ok (.bipush 65, 2) := by decide +kernel
theorem dX9_readPattern_121 : decode cX9_readPattern 121 = .ok (.isub, 1) := by decide +kernel
theorem dX9_readPattern_122 : decode cX9_readPattern 122 = .ok (.iastore, 1) := by decide +kernel
theorem dX9_readPattern_123 : decode cX9_readPattern 123 = .ok (.aload_n 0, 1) := by decide +kernel
theorem dX9_readPattern_124 : decode cX9_readPattern 124 = .ok (.iconst 0, 1) := by decide +kernel
theorem dX9_readPattern_125 : decode cX9_readPattern 125 = .ok (.putfield 164, 3) := by decide +kernel
theorem dX9_readPattern_128 : decode cX9_readPattern 128 = .ok (.aload_n 0, 1) := by decide +kernel
theorem dX9_readPattern_129 : decode cX9_readPattern 129 = .ok (.iconst 1, 1) := by decide +kernel
theorem dX9_readPattern_130 : decode cX9_readPattern 130 = .ok (.iload_n 1, 1) := by decide +kernel
theorem dX9_readPattern_131 : decode cX9_readPattern 131 = .ok (.ishl, 1) := by decide +kernel
theorem dX9_readPattern_132 : decode cX9_readPattern 132 = .ok (.putfield 154, 3) := by decide +kernel
theorem dX9_readPattern_135 : decode cX9_readPattern 135 = .ok (.aload_n 0, 1) := by decide +kernel
theorem dX9_readPattern_136 : decode cX9_readPattern 136 = .ok (.iconst 1, 1) := by decide +kernel
theorem dX9_readPattern_137 : decode cX9_readPattern 137 = .ok (.iload_n 1, 1) := by decide +kernel
theorem dX9_readPattern_138 : decode cX9_readPattern 138 = .ok (.ishl, 1) := by decide +kernel
theorem dX9_readPattern_139 : decode cX9_readPattern 139 = .ok (.putfield 161, 3) := by decide +kernel
theorem dX9_readPattern_142 : decode cX9_readPattern 142 = .ok (.aload_n 0, 1) := by decide +kernel
theorem dX9_readPattern_143 : decode cX9_readPattern 143 = .ok (.iload_n 1, 1) := by decide +kernel
theorem dX9_readPattern_144 : decode cX9_readPattern 144 = .ok (.iconst 1, 1) := by decide +kernel
theorem dX9_readPattern_145 : decode cX9_readPattern 145 = .ok (.iadd, 1) := by decide +kernel
theorem dX9_readPattern_146 : decode cX9_readPattern 146 = .ok (.invokevirtual 190, 3) := by decide +kernel
theorem dX9_readPattern_149 : decode cX9_readPattern 149 = .ok (.istore_n 1, 1) := by decide +kernel
theorem dX9_readPattern_150 : decode cX9_readPattern 150 = .ok (.goto 217, 3) := by decide +kernel
theorem dX9_readPattern_153 : decode cX9_readPattern 153 = .ok (.iload_n 2, 1) := by decide +kernel
theorem dX9_readPattern_154 : decode cX9_readPattern 154 = .ok (.bipush 40, 2) := by decide +kernel
theorem dX9_readPattern_156 : decode cX9_readPattern 156 = .ok (.if_icmp .ne 31, 3) := by decide +kernel
theorem dX9_readPattern_159 : decode cX9_readPattern 159 = .ok (.aload_n 0, 1) := by decide +kernel
theorem dX9_readPattern_160 : decode cX9_readPattern 160 = .ok (.getfield 148, 3) := by decide +kernel
theorem dX9_readPattern_163 : decode cX9_readPattern 163 = .ok (.iconst 4, 1) := by decide +kernel
theorem dX9_readPattern_164 : decode cX9_readPattern 164 = .ok (.if_icmp .ge 23, 3) := by decide +kernel
theorem dX9_readPattern_167 : decode cX9_readPattern 167 = .ok (.aload_n 0, 1) := by decide +kernel
theorem dX9_readPattern_168 : decode cX9_readPattern 168 = .ok (.dup, 1) := by decide +kernel
theorem dX9_readPattern_169 : decode cX9_readPattern 169 = .ok (.getfield 148, 3) := by decide +kernel
theorem dX9_readPattern_172 : decode cX9_readPattern 172 = .ok (.iconst 1, 1) := by decide +kernel
theorem dX9_readPattern_173 : decode cX9_readPattern 173 = .ok (.iadd, 1) := by decide +kernel
theorem dX9_readPattern_174 : decode cX9_readPattern 174 = .ok (.putfield 148, 3) := by decide +kernel
theorem dX9_readPattern_177 : decode cX9_readPattern 177 = .ok (.aload_n 0, 1) := by decide +kernel
theorem dX9_readPattern_178 : decode cX9_readPattern 178 = .ok (.invokevirtual 187, 3) := by decide +kernel
theorem dX9_readPattern_181 : decode cX9_readPattern 181 = .ok (.iinc 1 1, 3) := by decide +kernel
theorem dX9_readPattern_184 : decode cX9_readPattern 184 = .ok (.goto 183, 3) := by decide +kernel
theorem dX9_readPattern_187 : decode cX9_readPattern 187 = .ok (.iload_n 2, 1) := by decide +kernel
theorem dX9_readPattern_188 : decode cX9_readPattern 188 = .ok (.bipush 41, 2) := by decide +kernel
theorem dX9_readPattern_190 : decode cX9_readPattern 190 = .ok (.if_icmp .ne 78, 3) := by decide +kernel
theorem dX9_readPattern_193 : decode cX9_readPattern 193 = .ok (.aload_n 0, 1) := by decide +kernel
theorem dX9_readPattern_194 : decode cX9_readPattern 194 = .ok (.getfield 148, 3) := by decide +kernel
theorem dX9_readPattern_197 : decode cX9_readPattern 197 = .ok (.ifCond .le 71, 3) := by decide +kernel
theorem dX9_readPattern_200 : decode cX9_readPattern 200 = .ok (.iload_n 3, 1) := by decide +kernel
theorem dX9_readPattern_201 : decode cX9_readPattern 201 = .ok (.ifCond .eq 67, 3) := by decide +kernel
theorem dX9_readPattern_204 : decode cX9_readPattern 204 = .ok (.aload_n 0, 1) := by decide +kernel
theorem dX9_readPattern_205 : decode cX9_readPattern 205 = .ok (.invokevirtual 193, 3) := by decide +kernel
theorem dX9_readPattern_208 : decode cX9_readPattern 208 = .ok (.aload_n 0, 1) := by decide +kernel
theorem dX9_readPattern_209 : decode cX9_readPattern 209 = .ok (.aload_n 0, 1) := by decide +kernel
theorem dX9_readPattern_210 : decode cX9_readPattern 210 = .ok (.getfield 17, 3) := by decide +kernel
theorem dX9_readPattern_213 : decode cX9_readPattern 213 = .ok (.aload_n 0, 1) := by decide +kernel
theorem dX9_readPattern_214 : decode cX9_readPattern 214 = .ok (.getfield 148, 3) := by decide +kernel
theorem dX9_readPattern_217 : decode cX9_readPattern 217 = .ok (.baload, 1) := by decide +kernel
theorem dX9_readPattern_218 : decode cX9_readPattern 218 = .ok (.putfield 164, 3) := by decide +kernel
theorem dX9_readPattern_221 : decode cX9_readPattern 221 = .ok (.aload_n 0, 1) := by decide +kernel
theorem dX9_readPattern_222 : decode cX9_readPattern 222 = .ok (.aload_n 0, 1) := by decide +kernel
theorem dX9_readPattern_223 : decode cX9_readPattern 223 = .ok (.getfield 21, 3) := by decide +kernel
theorem dX9_readPattern_226 : decode cX9_readPattern 226 = .ok (.aload_n 0, 1) := by decide +kernel
theorem dX9_readPattern_227 : decode cX9_readPattern 227 = .ok (.getfield 148, 3) := by decide +kernel
theorem dX9_readPattern_230 : decode cX9_readPattern 230 = .ok (.iaload, 1) := by decide +kernel
theorem dX9_readPattern_231 : decode cX9_readPattern 231 = .ok (.putfield 154, 3) := by decide +kernel
theorem dX9_readPattern_234 : decode cX9_readPattern 234 = .ok (.aload_n 0, 1) := by decide +kernel
theorem dX9_readPattern_235 : decode cX9_readPattern 235 = .ok (.aload_n 0, 1) := by decide +kernel
theorem dX9_readPattern_236 : decode cX9_readPattern 236 = .ok (.getfield 24, 3) := by decide +kernel
theorem dX9_readPattern_239 : decode cX9_readPattern 239 = .ok (.aload_n 0, 1) := by decide +kernel
theorem dX9_readPattern_240 : decode cX9_readPattern 240 = .ok (.getfield 148, 3) := by decide +kernel
theorem dX9_readPattern_243 : decode cX9_readPattern 243 = .ok (.iaload, 1) := by decide +kernel
theorem dX9_readPattern_244 : decode cX9_readPattern 244 = .ok (.putfield 161, 3) := by decide +kernel
theorem dX9_readPattern_247 : decode cX9_readPattern 247 = .ok (.aload_n 0, 1) := by decide +kernel
theorem dX9_readPattern_248 : decode cX9_readPattern 248 = .ok (.dup, 1) := by decide +kernel
theorem dX9_readPattern_249 : decode cX9_readPattern 249 = .ok (.getfield 148, 3) := by decide +kernel
theorem dX9_readPattern_252 : decode cX9_readPattern 252 = .ok (.iconst 1, 1) := by decide +kernel
theorem dX9_readPattern_253 : decode cX9_readPattern 253 = .ok (.isub, 1) := by decide +kernel
theorem dX9_readPattern_254 : decode cX9_readPattern 254 = .ok (.putfield 148, 3) := by decide +kernel
theorem dX9_readPattern_257 : decode cX9_readPattern 257 = .ok (.aload_n 0, 1) := by decide +kernel
theorem dX9_readPattern_258 : decode cX9_readPattern 258 = .ok (.iload_n 1, 1) := by decide +kernel
theorem dX9_readPattern_259 : decode cX9_readPattern 259 = .ok (.iconst 1, 1) := by decide +kernel
theorem dX9_readPattern_260 : decode cX9_readPattern 260 = .ok (.iadd, 1) := by decide +kernel
theorem dX9_readPattern_261 : decode cX9_readPattern 261 = .ok (.invokevirtual 190, 3) := by decide +kernel
theorem dX9_readPattern_264 : decode cX9_readPattern 264 = .ok (.istore_n 1, 1) := by decide +kernel
theorem dX9_readPattern_265 : decode cX9_readPattern 265 = .ok (.goto 102, 3) := by decide +kernel
theorem dX9_readPattern_268 : decode cX9_readPattern 268 = .ok (.iload_n 2, 1) := by decide +kernel
theorem dX9_readPattern_269 : decode cX9_readPattern 269 = .ok (.bipush 124, 2) := by decide +kernel
theorem dX9_readPattern_271 : decode cX9_readPattern 271 = .ok (.if_icmp .ne 21, 3) := by decide +kernel
theorem dX9_readPattern_274 : decode cX9_readPattern 274 = .ok (.iload_n 3, 1) := by decide +kernel
theorem dX9_readPattern_275 : decode cX9_readPattern 275 = .ok (.ifCond .eq 17, 3) := by decide +kernel
theorem dX9_readPattern_278 : decode cX9_readPattern 278 = .ok (.aload_n 0, 1) := by decide +kernel
theorem dX9_readPattern_279 : decode cX9_readPattern 279 = .ok (.invokevirtual 193, 3) := by decide +kernel
theorem dX9_readPattern_282 : decode cX9_readPattern 282 = .ok (.aload_n 0, 1) := by decide +kernel
theorem dX9_readPattern_283 : decode cX9_readPattern 283 = .ok (.invokevirtual 151, 3) := by decide +kernel
theorem dX9_readPattern_286 : decode cX9_readPattern 286 = .ok (.iinc 1 1, 3) := by decide +kernel
theorem dX9_readPattern_289 : decode cX9_readPattern 289 = .ok (.goto 78, 3) := by decide +kernel
theorem dX9_readPattern_292 : decode cX9_readPattern 292 = .ok (.iload_n 2, 1) := by decide +kernel
theorem dX9_readPattern_293 : decode cX9_readPattern 293 = .ok (.bipush 47, 2) := by decide +kernel
theorem dX9_readPattern_295 : decode cX9_readPattern 295 = .ok (.if_icmp .ne 70, 3) := by decide +kernel
theorem dX9_readPattern_298 : decode cX9_readPattern 298 = .ok (.aload_n 0, 1) := by decide +kernel
theorem dX9_readPattern_299 : decode cX9_readPattern 299 = .ok (.getfield 148, 3) := by decide +kernel
theorem dX9_readPattern_302 : decode cX9_readPattern 302 = .ok (.ifCond .ne 63, 3) := by decide +kernel
theorem dX9_readPattern_305 : decode cX9_readPattern 305 = .ok (.iload_n 3, 1) := by decide +kernel
theorem dX9_readPattern_306 : decode cX9_readPattern 306 = .ok (.ifCond .eq 59, 3) := by decide +kernel
theorem dX9_readPattern_309 : decode cX9_readPattern 309 = .ok (.aload_n 0, 1) := by decide +kernel
theorem dX9_readPattern_310 : decode cX9_readPattern 310 = .ok (.getfield 175, 3) := by decide +kernel
theorem dX9_readPattern_313 : decode cX9_readPattern 313 = .ok (.ifCond .ne 52, 3) := by decide +kernel
theorem dX9_readPattern_316 : decode cX9_readPattern 316 = .ok (.aload_n 0, 1) := by decide +kernel
theorem dX9_readPattern_317 : decode cX9_readPattern 317 = .ok (.invokevirtual 193, 3) := by decide +kernel
theorem dX9_readPattern_320 : decode cX9_readPattern 320 = .ok (.aload_n 0, 1) := by decide +kernel
theorem dX9_readPattern_321 : decode cX9_readPattern 321 = .ok (.iconst 1, 1) := by decide +kernel
theorem dX9_readPattern_322 : decode cX9_readPattern 322 = .ok (.putfield 175, 3) := by decide +kernel
theorem dX9_readPattern_325 : decode cX9_readPattern 325 = .ok (.aload_n 0, 1) := by decide +kernel
theorem dX9_readPattern_326 : decode cX9_readPattern 326 = .ok (.aload_n 0, 1) := by decide +kernel
theorem dX9_readPattern_327 : decode cX9_readPattern 327 = .ok (.getfield 17, 3) := by decide +kernel
theorem dX9_readPattern_330 : decode cX9_readPattern 330 = .ok (.iconst 0, 1) := by decide +kernel
theorem dX9_readPattern_331 : decode cX9_readPattern 331 = .ok (.baload, 1) := by decide +kernel
theorem dX9_readPattern_332 : decode cX9_readPattern 332 = .ok (.putfield 178, 3) := by decide +kernel
theorem dX9_readPattern_335 : decode cX9_readPattern 335 = .ok (.aload_n 0, 1) := by decide +kernel
theorem dX9_readPattern_336 : decode cX9_readPattern 336 = .ok (.aload_n 0, 1) := by decide +kernel
theorem dX9_readPattern_337 : decode cX9_readPattern 337 = .ok (.getfield 21, 3) := by decide +kernel
theorem dX9_readPattern_340 : decode cX9_readPattern 340 = .ok (.iconst 0, 1) := by decide +kernel
theorem dX9_readPattern_341 : decode cX9_readPattern 341 = .ok (.iaload, 1) := by decide +kernel
theorem dX9_readPattern_342 : decode cX9_readPattern 342 = .ok (.putfield 181, 3) := by decide +kernel
theorem dX9_readPattern_345 : decode cX9_readPattern 345 = .ok (.aload_n 0, 1) := by decide +kernel
theorem dX9_readPattern_346 : decode cX9_readPattern 346 = .ok (.aload_n 0, 1) := by decide +kernel
theorem dX9_readPattern_347 : decode cX9_readPattern 347 = .ok (.getfield 24, 3) := by decide +kernel
theorem dX9_readPattern_350 : decode cX9_readPattern 350 = .ok (.iconst 0, 1) := by decide +kernel
theorem dX9_readPattern_351 : decode cX9_readPattern 351 = .ok (.iaload, 1) := by decide +kernel
theorem dX9_readPattern_352 : decode cX9_readPattern 352 = .ok (.putfield 184, 3) := by decide +kernel
theorem dX9_readPattern_355 : decode cX9_readPattern 355 = .ok (.aload_n 0, 1) := by decide +kernel
theorem dX9_readPattern_356 : decode cX9_readPattern 356 = .ok (.invokevirtual 187, 3) := by decide +kernel
theorem dX9_readPattern_359 : decode cX9_readPattern 359 = .ok (.iinc 1 1, 3) := by decide +kernel
theorem dX9_readPattern_362 : decode cX9_readPattern 362 = .ok (.goto 5, 3) := by decide +kernel
theorem dX9_readPattern_365 : decode cX9_readPattern 365 = .ok (.iload_n 1, 1) := by decide +kernel
theorem dX9_readPattern_366 : decode cX9_readPattern 366 = .ok (.ireturn, 1) := by decide +kernel
theorem dX9_readPattern_367 : decode cX9_readPattern 367 = .ok (.goto (-315), 3) := by decide +kernel
theorem dX9_readPattern_370 : decode cX9_readPattern 370 = .ok (.aload_n 0, 1) := by decide +kernel
theorem dX9_readPattern_371 : decode cX9_readPattern 371 = .ok (.getfield 148, 3) := by decide +kernel
theorem dX9_readPattern_374 : decode cX9_readPattern 374 = .ok (.ifCond .gt 12, 3) := by decide +kernel
theorem dX9_readPattern_377 : decode cX9_readPattern 377 = .ok (.aload_n 0, 1) := by decide +kernel
theorem dX9_readPattern_378 : decode cX9_readPattern 378 = .ok (.getfield 36, 3) := by decide +kernel
theorem dX9_readPattern_381 : decode cX9_readPattern 381 = .ok (.iconst 0, 1) := by decide +kernel
theorem dX9_readPattern_382 : decode cX9_readPattern 382 = .ok (.iaload, 1) := by decide +kernel
theorem dX9_readPattern_383 : decode cX9_readPattern 383 = .ok (.ifCond .ne 8, 3) := by decide +kernel
theorem dX9_readPattern_386 : decode cX9_readPattern 386 = .ok (.aload_n 0, 1) := by decide +kernel
theorem dX9_readPattern_387 : decode cX9_readPattern 387 = .ok (.getfield 144, 3) := by decide +kernel
theorem dX9_readPattern_390 : decode cX9_readPattern 390 = .ok (.ireturn, 1) := by decide +kernel
theorem dX9_readPattern_391 : decode cX9_readPattern 391 = .ok (.aload_n 0, 1) := by decide +kernel
theorem dX9_readPattern_392 : decode cX9_readPattern 392 = .ok (.invokevirtual 193, 3) := by decide +kernel
theorem dX9_readPattern_395 : decode cX9_readPattern 395 = .ok (.iconst (-1), 1) := by decide +kernel
theorem dX9_readPattern_396 : decode cX9_readPattern 396 = .ok (.ireturn, 1) := by decide +kernel
theorem dX9_keepRule_0 : decode cX9_keepRule 0 = .ok (.aload_n 0, 1) := by decide +kernel
theorem dX9_keepRule_1 : decode cX9_keepRule 1 = .ok (.getfield 45, 3) := by decide +kernel
theorem dX9_keepRule_4 : decode cX9_keepRule 4 = .ok (.iload_n 1, 1) := by decide +kernel
theorem dX9_keepRule_5 : decode cX9_keepRule 5 = .ok (.aload_n 0, 1) := by decide +kernel
theorem dX9_keepRule_6 : decode cX9_keepRule 6 = .ok (.getfield 144, 3) := by decide +kernel
theorem dX9_keepRule_9 : decode cX9_keepRule 9 = .ok (.iastore, 1) := by decide +kernel
theorem dX9_keepRule_10 : decode cX9_keepRule 10 = .ok (.aload_n 0, 1) := by decide +kernel
theorem dX9_keepRule_11 : decode cX9_keepRule 11 = .ok (.getfield 57, 3) := by decide +kernel
theorem dX9_keepRule_14 : decode cX9_keepRule 14 = .ok (.iload_n 1, 1) := by decide +kernel
theorem dX9_keepRule_15 : decode cX9_keepRule 15 = .ok (.aload_n 0, 1) := by decide +kernel
theorem dX9_keepRule_16 : decode cX9_keepRule 16 = .ok (.getfield 175, 3) := by decide +kernel
theorem dX9_keepRule_19 : decode cX9_keepRule 19 = .ok (.bastore, 1) := by decide +kernel
theorem dX9_keepRule_20 : decode cX9_keepRule 20 = .ok (.aload_n 0, 1) := by decide +kernel
theorem dX9_keepRule_21 : decode cX9_keepRule 21 = .ok (.getfield 60, 3) := by decide +kernel
theorem dX9_keepRule_24 : decode cX9_keepRule 24 = .ok (.iload_n 1, 1) := by decide +kernel
theorem dX9_keepRule_25 : decode cX9_keepRule 25 = .ok (.aload_n 0, 1) := by decide +kernel
theorem dX9_keepRule_26 : decode cX9_keepRule 26 = .ok (.getfield 175, 3) := by decide +kernel
theorem dX9_keepRule_29 : decode cX9_keepRule 29 = .ok (.ifCond .eq 10, 3) := by decide +kernel
theorem dX9_keepRule_32 : decode cX9_keepRule 32 = .ok (.aload_n 0, 1) := by decide +kernel
theorem dX9_keepRule_33 : decode cX9_keepRule 33 = .ok (.getfield 178, 3) := by decide +kernel
theorem dX9_keepRule_36 : decode cX9_keepRule 36 = .ok (.goto 9, 3) := by decide +kernel
theorem dX9_keepRule_39 : decode cX9_keepRule 39 = .ok (.aload_n 0, 1) := by decide +kernel
theorem dX9_keepRule_40 : decode cX9_keepRule 40 = .ok (.getfield 17, 3) := by decide +kernel
theorem dX9_keepRule_43 : decode cX9_keepRule 43 = .ok (.iconst 0, 1) := by decide +kernel
theorem dX9_keepRule_44 : decode cX9_keepRule 44 = .ok (.baload, 1) := by decide +kernel
theorem dX9_keepRule_45 : decode cX9_keepRule 45 = .ok (.bastore, 1) := by decide +kernel
theorem dX9_keepRule_46 : decode cX9_keepRule 46 = .ok (.aload_n 0, 1) := by decide +kernel
theorem dX9_keepRule_47 : decode cX9_keepRule 47 = .ok (.getfield 63, 3) := by decide +kernel
theorem dX9_keepRule_50 : decode cX9_keepRule 50 = .ok (.iload_n 1, 1) := by decide +kernel
theorem dX9_keepRule_51 : decode cX9_keepRule 51 = .ok (.aload_n 0, 1) := by decide +kernel
theorem dX9_keepRule_52 : decode cX9_keepRule 52 = .ok (.getfield 175, 3) := by decide +kernel
theorem dX9_keepRule_55 : decode cX9_keepRule 55 = .ok (.ifCond .eq 10, 3) := by decide +kernel
theorem dX9_keepRule_58 : decode cX9_keepRule 58 = .ok (.aload_n 0, 1) := by decide +kernel
theorem dX9_keepRule_59 : decode cX9_keepRule 59 = .ok (.getfield 181, 3) := by decide +kernel
theorem dX9_keepRule_62 : decode cX9_keepRule 62 = .ok (.goto 9, 3) := by decide +kernel
theorem dX9_keepRule_65 : decode cX9_keepRule 65 = .ok (.aload_n 0, 1) := by decide +kernel
theorem dX9_keepRule_66 : decode cX9_keepRule 66 = .ok (.getfield 21, 3) := by decide +kernel
theorem dX9_keepRule_69 : decode cX9_keepRule 69 = .ok (.iconst 0, 1) := by decide +kernel
theorem dX9_keepRule_70 : decode cX9_keepRule 70 = .ok (.iaload, 1) := by decide +kernel
theorem dX9_keepRule_71 : decode cX9_keepRule 71 = .ok (.iastore, 1) := by decide +kernel
theorem dX9_keepRule_72 : decode cX9_keepRule 72 = .ok (.aload_n 0, 1) := by decide +kernel
theorem dX9_keepRule_73 : decode cX9_keepRule 73 = .ok (.getfield 66, 3) := by decide +kernel
theorem dX9_keepRule_76 : decode cX9_keepRule 76 = .ok (.iload_n 1, 1) := by decide +kernel
theorem dX9_keepRule_77 : decode cX9_keepRule 77 = .ok (.aload_n 0, 1) := by decide +kernel
theorem dX9_keepRule_78 : decode cX9_keepRule 78 = .ok (.getfield 175, 3) := by decide +kernel
theorem dX9_keepRule_81 : decode cX9_keepRule 81 = .ok (.ifCond .eq 10, 3) := by decide +kernel
theorem dX9_keepRule_84 : decode cX9_keepRule 84 = .ok (.aload_n 0, 1) := by decide +kernel
theorem dX9_keepRule_85 : decode cX9_keepRule 85 = .ok (.getfield 184, 3) := by decide +kernel
theorem dX9_keepRule_88 : decode cX9_keepRule 88 = .ok (.goto 9, 3) := by decide +kernel
theorem dX9_keepRule_91 : decode cX9_keepRule 91 = .ok (.aload_n 0, 1) := by decide +kernel
theorem dX9_keepRule_92 : decode cX9_keepRule 92 = .ok (.getfield 24, 3) := by decide +kernel
theorem dX9_keepRule_95 : decode cX9_keepRule 95 = .ok (.iconst 0, 1) := by decide +kernel
theorem dX9_keepRule_96 : decode cX9_keepRule 96 = .ok (.iaload, 1) := by decide +kernel
theorem dX9_keepRule_97 : decode cX9_keepRule 97 = .ok (.iastore, 1) := by decide +kernel
theorem dX9_keepRule_98 : decode cX9_keepRule 98 = .ok (.aload_n 0, 1) := by decide +kernel
theorem dX9_keepRule_99 : decode cX9_keepRule 99 = .ok (.getfield 69, 3) := by decide +kernel
theorem dX9_keepRule_102 : decode cX9_keepRule 102 = .ok (.iload_n 1, 1) := by decide +kernel
theorem dX9_keepRule_103 : decode cX9_keepRule 103 = .ok (.aload_n 0, 1) := by decide +kernel
theorem dX9_keepRule_104 : decode cX9_keepRule 104 = .ok (.getfield 175, 3) := by decide +kernel
theorem dX9_keepRule_107 : decode cX9_keepRule 107 = .ok (.ifCond .eq 12, 3) := by decide +kernel
theorem dX9_keepRule_110 : decode cX9_keepRule 110 = .ok (.aload_n 0, 1) := by decide +kernel
theorem dX9_keepRule_111 : decode cX9_keepRule 111 = .ok (.getfield 17, 3) := by decide +kernel
theorem dX9_keepRule_114 : decode cX9_keepRule 114 = .ok (.iconst 0, 1) := by decide +kernel
theorem dX9_keepRule_115 : decode cX9_keepRule 115 = .ok (.baload, 1) := by decide +kernel
theorem dX9_keepRule_116 : decode cX9_keepRule 116 = .ok (.ifCond .eq 7, 3) := by decide +kernel
theorem dX9_keepRule_119 : decode cX9_keepRule 119 = .ok (.iconst 1, 1) := by decide +kernel
theorem dX9_keepRule_120 : decode cX9_keepRule 120 = .ok (.goto 4, 3) := by decide +kernel
theorem dX9_keepRule_123 : decode cX9_keepRule 123 = .ok (.iconst 0, 1) := by decide +kernel
theorem dX9_keepRule_124 : decode cX9_keepRule 124 = .ok (.bastore, 1) := by decide +kernel
theorem dX9_keepRule_125 : decode cX9_keepRule 125 = .ok (.aload_n 0, 1) := by decide +kernel
theorem dX9_keepRule_126 : decode cX9_keepRule 126 = .ok (.getfield 72, 3) := by decide +kernel
theorem dX9_keepRule_129 : decode cX9_keepRule 129 = .ok (.iload_n 1, 1) := by decide +kernel
theorem dX9_keepRule_130 : decode cX9_keepRule 130 = .ok (.aload_n 0, 1) := by decide +kernel
theorem dX9_keepRule_131 : decode cX9_keepRule 131 = .ok (.getfield 175, 3) := by decide +kernel
theorem dX9_keepRule_134 : decode cX9_keepRule 134 = .ok (.ifCond .eq 12, 3) := by decide +kernel
theorem dX9_keepRule_137 : decode cX9_keepRule 137 = .ok (.aload_n 0, 1) := by decide +kernel
theorem dX9_keepRule_138 : decode cX9_keepRule 138 = .ok (.getfield 21, 3) := by decide +kernel
theorem dX9_keepRule_141 : decode cX9_keepRule 141 = .ok (.iconst 0, 1) := by decide +kernel
theorem dX9_keepRule_142 : decode cX9_keepRule 142 = .ok (.iaload, 1) := by decide +kernel
theorem dX9_keepRule_143 : decode cX9_keepRule 143 = .ok (.goto 4, 3) := by decide +kernel
theorem dX9_keepRule_146 : decode cX9_keepRule 146 = .ok (.iconst 0, 1) := by decide +kernel
theorem dX9_keepRule_147 : decode cX9_keepRule 147 = .ok (.iastore, 1) := by decide +kernel
theorem dX9_keepRule_148 : decode cX9_keepRule 148 = .ok (.aload_n 0, 1) := by decide +kernel
theorem dX9_keepRule_149 : decode cX9_keepRule 149 = .ok (.getfield 75, 3) := by decide +kernel
theorem dX9_keepRule_152 : decode cX9_keepRule 152 = .ok (.iload_n 1, 1) := by decide +kernel
theorem dX9_keepRule_153 : decode cX9_keepRule 153 = .ok (.aload_n 0, 1) := by decide +kernel
theorem dX9_keepRule_154 : decode cX9_keepRule 154 = .ok (.getfield 175, 3) := by decide +kernel
theorem dX9_keepRule_157 : decode cX9_keepRule 157 = .ok (.ifCond .eq 12, 3) := by decide +kernel
theorem dX9_keepRule_160 : decode cX9_keepRule 160 = .ok (.aload_n 0, 1) := by decide +kernel
theorem dX9_keepRule_161 : decode cX9_keepRule 161 = .ok (.getfield 24, 3) := by decide +kernel
theorem dX9_keepRule_164 : decode cX9_keepRule 164 = .ok (.iconst 0, 1) := by decide +kernel
theorem dX9_keepRule_165 : decode cX9_keepRule 165 = .ok (.iaload, 1) := by decide +kernel
theorem dX9_keepRule_166 : decode cX9_keepRule 166 = .ok (.goto 4, 3) := by decide +kernel
theorem dX9_keepRule_169 : decode cX9_keepRule 169 = .ok (.iconst 0, 1) := by decide +kernel
theorem dX9_keepRule_170 : decode cX9_keepRule 170 = .ok (.iastore, 1) := by decide +kernel
theorem dX9_keepRule_171 : decode cX9_keepRule 171 = .ok (.iconst 0, 1) := by decide +kernel
theorem dX9_keepRule_172 : decode cX9_keepRule 172 = .ok (.istore_n 2, 1) := by decide +kernel
theorem dX9_keepRule_173 : decode cX9_keepRule 173 = .ok (.iload_n 2, 1) := by decide +kernel
theorem dX9_keepRule_174 : decode cX9_keepRule 174 = .ok (.aload_n 0, 1) := by decide +kernel
theorem dX9_keepRule_175 : decode cX9_keepRule 175 = .ok (.getfield 144, 3) := by decide +kernel
theorem dX9_keepRule_178 : decode cX9_keepRule 178 = .ok (.if_icmp .ge 60, 3) := by decide +kernel
theorem dX9_keepRule_181 : decode cX9_keepRule 181 = .ok (.aload_n 0, 1) := by decide +kernel
theorem dX9_keepRule_182 : decode cX9_keepRule 182 = .ok (.getfield 48, 3) := by decide +kernel
theorem dX9_keepRule_185 : decode cX9_keepRule 185 = .ok (.bipush 24, 2) := by decide +kernel
theorem dX9_keepRule_187 : decode cX9_keepRule 187 = .ok (.iload_n 1, 1) := by decide +kernel
theorem dX9_keepRule_188 : decode cX9_keepRule 188 = .ok (.imul, 1) := by decide +kernel
theorem dX9_keepRule_189 : decode cX9_keepRule 189 = .ok (.iload_n 2, 1) := by decide +kernel
theorem dX9_keepRule_190 : decode cX9_keepRule 190 = .ok (.iadd, 1) := by decide +kernel
theorem dX9_keepRule_191 : decode cX9_keepRule 191 = .ok (.aload_n 0, 1) := by decide +kernel
theorem dX9_keepRule_192 : decode cX9_keepRule 192 = .ok (.getfield 13, 3) := by decide +kernel
theorem dX9_keepRule_195 : decode cX9_keepRule 195 = .ok (.iload_n 2, 1) := by decide +kernel
theorem dX9_keepRule_196 : decode cX9_keepRule 196 = .ok (.caload, 1) := by decide +kernel
theorem dX9_keepRule_197 : decode cX9_keepRule 197 = .ok (.castore, 1) := by decide +kernel
theorem dX9_keepRule_198 : decode cX9_keepRule 198 = .ok (.aload_n 0, 1) := by decide +kernel
theorem dX9_keepRule_199 : decode cX9_keepRule 199 = .ok (.getfield 51, 3) := by decide +kernel
theorem dX9_keepRule_202 : decode cX9_keepRule 202 = .ok (.bipush 24, 2) := by decide +kernel
theorem dX9_keepRule_204 : decode cX9_keepRule 204 = .ok (.iload_n 1, 1) := by decide +kernel
theorem dX9_keepRule_205 : decode cX9_keepRule 205 = .ok (.imul, 1) := by decide +kernel
theorem dX9_keepRule_206 : decode cX9_keepRule 206 = .ok (.iload_n 2, 1) := by decide +kernel
theorem dX9_keepRule_207 : decode cX9_keepRule 207 = .ok (.iadd, 1) := by decide +kernel
theorem dX9_keepRule_208 : decode cX9_keepRule 208 = .ok (.aload_n 0, 1) := by decide +kernel
theorem dX9_keepRule_209 : decode cX9_keepRule 209 = .ok (.getfield 39, 3) := by decide +kernel
theorem dX9_keepRule_212 : decode cX9_keepRule 212 = .ok (.iload_n 2, 1) := by decide +kernel
theorem dX9_keepRule_213 : decode cX9_keepRule 213 = .ok (.iaload, 1) := by decide +kernel
theorem dX9_keepRule_214 : decode cX9_keepRule 214 = .ok (.iastore, 1) := by decide +kernel
theorem dX9_keepRule_215 : decode cX9_keepRule 215 = .ok (.aload_n 0, 1) := by decide +kernel
theorem dX9_keepRule_216 : decode cX9_keepRule 216 = .ok (.getfield 54, 3) := by decide +kernel
theorem dX9_keepRule_219 : decode cX9_keepRule 219 = .ok (.bipush 24, 2) := by decide +kernel
theorem dX9_keepRule_221 : decode cX9_keepRule 221 = .ok (.iload_n 1, 1) := by decide +kernel
theorem dX9_keepRule_222 : decode cX9_keepRule 222 = .ok (.imul, 1) := by decide +kernel
theorem dX9_keepRule_223 : decode cX9_keepRule 223 = .ok (.iload_n 2, 1) := by decide +kernel
theorem dX9_keepRule_224 : decode cX9_keepRule 224 = .ok (.iadd, 1) := by decide +kernel
theorem dX9_keepRule_225 : decode cX9_keepRule 225 = .ok (.aload_n 0, 1) := by decide +kernel
theorem dX9_keepRule_226 : decode cX9_keepRule 226 = .ok (.getfield 42, 3) := by decide +kernel
theorem dX9_keepRule_229 : decode cX9_keepRule 229 = .ok (.iload_n 2, 1) := by decide +kernel
theorem dX9_keepRule_230 : decode cX9_keepRule 230 = .ok (.iaload, 1) := by decide +kernel
theorem dX9_keepRule_231 : decode cX9_keepRule 231 = .ok (.iastore, 1) := by decide +kernel
theorem dX9_keepRule_232 : decode cX9_keepRule 232 = .ok (.iinc 2 1, 3) := by decide +kernel
theorem dX9_keepRule_235 : decode cX9_keepRule 235 = .ok (.goto (-62), 3) := by decide +kernel
theorem dX9_keepRule_238 : decode cX9_keepRule 238 = .ok (.return_, 1) := by decide +kernel
set_option maxRecDepth 20000 in
theorem ggX9_noRulePlace_X9_in : GoodIn wsX9_noRulePlace wsX9_in := goodIn_r _ [4] (by decide +kernel) (by decide +kernel)
set_option maxRecDepth 20000 in
theorem gX9_noRulePlace_X9_in : GoodIn wsX9_noRulePlace (va_wsS RX9 136 yX9_in wsX9_in) := goodIn_app (goodIn_of _ (by decide +kernel)) ggX9_noRulePlace_X9_in
theorem dX9_noRulePlace_0 : decode cX9_noRulePlace 0 = .ok (.iload_n 0, 1) := by decide +kernel
theorem dX9_noRulePlace_1 : decode cX9_noRulePlace 1 = .ok (.iconst 0, 1) := by decide +kernel
theorem dX9_noRulePlace_2 : decode cX9_noRulePlace 2 = .ok (.iconst 2, 1) := by decide +kernel
theorem dX9_noRulePlace_3 : decode cX9_noRulePlace 3 = .ok (.invokestatic 136, 3) := by decide +kernel
theorem dX9_noRulePlace_6 : decode cX9_noRulePlace 6 = .ok (.ifCond .eq 12, 3) := by decide +kernel
theorem dX9_noRulePlace_9 : decode cX9_noRulePlace 9 = .ok (.iload_n 1, 1) := by decide +kernel
theorem dX9_noRulePlace_10 : decode cX9_noRulePlace 10 = .ok (.iconst 0, 1) := by decide +kernel
theorem dX9_noRulePlace_11 : decode cX9_noRulePlace 11 = .ok (.iconst 4, 1) := by decide +kernel
theorem dX9_noRulePlace_12 : decode cX9_noRulePlace 12 = .ok (.invokestatic 136, 3) := by decide +kernel
theorem dX9_noRulePlace_15 : decode cX9_noRulePlace 15 = .ok (.ifCond .ne 7, 3) := by decide +kernel
theorem dX9_noRulePlace_18 : decode cX9_noRulePlace 18 = .ok (.iconst 1, 1) := by decide +kernel
theorem dX9_noRulePlace_19 : decode cX9_noRulePlace 19 = .ok (.goto 4, 3) := by decide +kernel
theorem dX9_noRulePlace_22 : decode cX9_noRulePlace 22 = .ok (.iconst 0, 1) := by decide +kernel
theorem dX9_noRulePlace_23 : decode cX9_noRulePlace 23 = .ok (.ireturn, 1) := by decide +kernel
set_option maxRecDepth 20000 in
theorem ggX9_setRule_X9_noRulePlace : GoodIn wsX9_setRule wsX9_noRulePlace := goodIn_r _ [6, 7, 8, 5, 9] (by decide +kernel) (by decide +kernel)
set_option maxRecDepth 20000 in
theorem gX9_setRule_X9_noRulePlace : GoodIn wsX9_setRule (va_wsS RX9 196 yX9_noRulePlace wsX9_noRulePlace) := goodIn_app (goodIn_of _ (by decide +kernel)) ggX9_setRule_X9_noRulePlace
set_option maxRecDepth 20000 in
theorem ggX9_setRule_X9_analyse : GoodIn wsX9_setRule wsX9_analyse := goodIn_r _ [13, 14, 15, 16, 17, 18, 19, 5, 20, 21, 22, 23, 24, 25, 1, 26, 27, 28, 29, 30, 31, 32, 33, 34, 35, 36, 37, 38, 39, 40, 41, 42, 43, 44, 45, 46, 47, 48, 49, 50, 107, 108, 109, 110, 111, 112, 113, 114, 115, 116, 117, 118, 119, 120, 121, 122, 123, 124, 125, 126, 127, 128, 129, 130, 131, 132, 133, 134, 135, 136, 137, 138, 139, 140, 141, 142, 143, 144, 145, 146, 147, 148, 149, 150, 151, 152, 153, 154, 155, 156, 157, 158, 159, 160] (by decide +kernel) (by decide +kernel)
set_option maxRecDepth 20000 in
theorem gX9_setRule_X9_analyse : GoodIn wsX9_setRule (wsV RX9 140 RX9 yX9_analyse wsX9_analyse) := goodIn_app (goodIn_of _ (by decide +kernel)) ggX9_setRule_X9_analyse
set_option maxRecDepth 20000 in
theorem ggX9_setRule_X9_readPattern : GoodIn wsX9_setRule wsX9_readPattern := goodIn_r _ [54, 55, 56, 57, 58, 59, 60, 2, 61, 62, 63, 64, 65, 66, 67, 68, 69, 70, 71, 72, 5, 73, 74, 75, 76, 77, 78, 79, 80, 7, 8, 9, 81, 82, 83, 84, 85, 86, 87, 88, 89, 90, 91, 92, 93, 94, 95, 96, 97, 98, 99, 107, 108, 109, 110, 111, 112, 113, 114, 115, 116, 117, 118, 119, 120, 121, 122, 123, 124, 125, 126, 127, 128, 129, 130, 131, 132, 133, 134, 135, 136, 137, 138, 139, 140, 141, 142, 143, 144, 145, 146, 147, 148, 149, 150, 151, 152, 153, 154, 155, 156, 157, 158, 159, 160] (by decide +kernel) (by decide +kernel)
set_option maxRecDepth 20000 in
theorem gX9_setRule_X9_readPattern : GoodIn wsX9_setRule (wsV RX9 200 RX9 yX9_readPattern wsX9_readPattern) := goodIn_app (goodIn_of _ (by decide +kernel)) ggX9_setRule_X9_readPattern
set_option maxRecDepth 20000 in
theorem ggX9_setRule_X9_keepRule : GoodIn wsX9_setRule wsX9_keepRule := goodIn_r _ [103, 1, 2, 104, 56, 105, 57, 67, 30, 58, 68, 31, 59, 69, 43, 44, 45, 106, 61, 38, 63, 50, 60, 107, 108, 109, 110, 111, 112, 113, 114, 115, 116, 117, 118, 119, 120, 121, 122, 123, 124, 125, 126, 127, 128, 129, 130, 131, 132, 133, 134, 135, 136, 137, 138, 139, 140, 141, 142, 143, 144, 145, 146, 147, 148, 149, 150, 151, 152, 153, 154, 155, 156, 157, 158, 159, 160] (by decide +kernel) (by decide +kernel)
set_option maxRecDepth 20000 in
theorem gX9_setRule_X9_keepRule : GoodIn wsX9_setRule (wsV RX9 204 RX9 yX9_keepRule wsX9_keepRule) := goodIn_app (goodIn_of _ (by decide +kernel)) ggX9_setRule_X9_keepRule
theorem dX9_setRule_0 : decode cX9_setRule 0 = .ok (.iload_n 1, 1) := by decide +kernel
theorem dX9_setRule_1 : decode cX9_setRule 1 = .ok (.iload_n 2, 1) := by decide +kernel
theorem dX9_setRule_2 : decode cX9_setRule 2 = .ok (.invokestatic 196, 3) := by decide +kernel
theorem dX9_setRule_5 : decode cX9_setRule 5 = .ok (.ifCond .eq 6, 3) := by decide +kernel
theorem dX9_setRule_8 : decode cX9_setRule 8 = .ok (.bipush (-2), 2) := by decide +kernel
theorem dX9_setRule_10 : decode cX9_setRule 10 = .ok (.ireturn, 1) := by decide +kernel
theorem dX9_setRule_11 : decode cX9_setRule 11 = .ok (.iconst 5, 1) := by decide +kernel
theorem dX9_setRule_12 : decode cX9_setRule 12 = .ok (.iload_n 1, 1) := by decide +kernel
theorem dX9_setRule_13 : decode cX9_setRule 13 = .ok (.imul, 1) := by decide +kernel
theorem dX9_setRule_14 : decode cX9_setRule 14 = .ok (.iload_n 2, 1) := by decide +kernel
theorem dX9_setRule_15 : decode cX9_setRule 15 = .ok (.iadd, 1) := by decide +kernel
theorem dX9_setRule_16 : decode cX9_setRule 16 = .ok (.istore_n 3, 1) := by decide +kernel
theorem dX9_setRule_17 : decode cX9_setRule 17 = .ok (.aload_n 0, 1) := by decide +kernel
theorem dX9_setRule_18 : decode cX9_setRule 18 = .ok (.getfield 45, 3) := by decide +kernel
theorem dX9_setRule_21 : decode cX9_setRule 21 = .ok (.iload_n 3, 1) := by decide +kernel
theorem dX9_setRule_22 : decode cX9_setRule 22 = .ok (.iaload, 1) := by decide +kernel
theorem dX9_setRule_23 : decode cX9_setRule 23 = .ok (.ifCond .le 7, 3) := by decide +kernel
theorem dX9_setRule_26 : decode cX9_setRule 26 = .ok (.iconst 1, 1) := by decide +kernel
theorem dX9_setRule_27 : decode cX9_setRule 27 = .ok (.goto 4, 3) := by decide +kernel
theorem dX9_setRule_30 : decode cX9_setRule 30 = .ok (.iconst 0, 1) := by decide +kernel
theorem dX9_setRule_31 : decode cX9_setRule 31 = .ok (.istore 4, 2) := by decide +kernel
theorem dX9_setRule_33 : decode cX9_setRule 33 = .ok (.aload_n 0, 1) := by decide +kernel
theorem dX9_setRule_34 : decode cX9_setRule 34 = .ok (.getfield 144, 3) := by decide +kernel
theorem dX9_setRule_37 : decode cX9_setRule 37 = .ok (.ifCond .ne 24, 3) := by decide +kernel
theorem dX9_setRule_40 : decode cX9_setRule 40 = .ok (.aload_n 0, 1) := by decide +kernel
theorem dX9_setRule_41 : decode cX9_setRule 41 = .ok (.getfield 45, 3) := by decide +kernel
theorem dX9_setRule_44 : decode cX9_setRule 44 = .ok (.iload_n 3, 1) := by decide +kernel
theorem dX9_setRule_45 : decode cX9_setRule 45 = .ok (.iconst 0, 1) := by decide +kernel
theorem dX9_setRule_46 : decode cX9_setRule 46 = .ok (.iastore, 1) := by decide +kernel
theorem dX9_setRule_47 : decode cX9_setRule 47 = .ok (.iload 4, 2) := by decide +kernel
theorem dX9_setRule_49 : decode cX9_setRule 49 = .ok (.iconst 1, 1) := by decide +kernel
theorem dX9_setRule_50 : decode cX9_setRule 50 = .ok (.if_icmp .ne 8, 3) := by decide +kernel
theorem dX9_setRule_53 : decode cX9_setRule 53 = .ok (.aload_n 0, 1) := by decide +kernel
theorem dX9_setRule_54 : decode cX9_setRule 54 = .ok (.iload_n 1, 1) := by decide +kernel
theorem dX9_setRule_55 : decode cX9_setRule 55 = .ok (.invokevirtual 140, 3) := by decide +kernel
theorem dX9_setRule_58 : decode cX9_setRule 58 = .ok (.iload 4, 2) := by decide +kernel
theorem dX9_setRule_60 : decode cX9_setRule 60 = .ok (.ireturn, 1) := by decide +kernel
theorem dX9_setRule_61 : decode cX9_setRule 61 = .ok (.aload_n 0, 1) := by decide +kernel
theorem dX9_setRule_62 : decode cX9_setRule 62 = .ok (.invokevirtual 200, 3) := by decide +kernel
theorem dX9_setRule_65 : decode cX9_setRule 65 = .ok (.istore 5, 2) := by decide +kernel
theorem dX9_setRule_67 : decode cX9_setRule 67 = .ok (.iload 5, 2) := by decide +kernel
theorem dX9_setRule_69 : decode cX9_setRule 69 = .ok (.ifCond .lt 9, 3) := by decide +kernel
theorem dX9_setRule_72 : decode cX9_setRule 72 = .ok (.bipush (-100), 2) := by decide +kernel
theorem dX9_setRule_74 : decode cX9_setRule 74 = .ok (.iload 5, 2) := by decide +kernel
theorem dX9_setRule_76 : decode cX9_setRule 76 = .ok (.isub, 1) := by decide +kernel
theorem dX9_setRule_77 : decode cX9_setRule 77 = .ok (.ireturn, 1) := by decide +kernel
theorem dX9_setRule_78 : decode cX9_setRule 78 = .ok (.aload_n 0, 1) := by decide +kernel
theorem dX9_setRule_79 : decode cX9_setRule 79 = .ok (.iload_n 3, 1) := by decide +kernel
theorem dX9_setRule_80 : decode cX9_setRule 80 = .ok (.invokevirtual 204, 3) := by decide +kernel
theorem dX9_setRule_83 : decode cX9_setRule 83 = .ok (.aload_n 0, 1) := by decide +kernel
theorem dX9_setRule_84 : decode cX9_setRule 84 = .ok (.iload_n 1, 1) := by decide +kernel
theorem dX9_setRule_85 : decode cX9_setRule 85 = .ok (.invokevirtual 140, 3) := by decide +kernel
theorem dX9_setRule_88 : decode cX9_setRule 88 = .ok (.iload 4, 2) := by decide +kernel
theorem dX9_setRule_90 : decode cX9_setRule 90 = .ok (.ireturn, 1) := by decide +kernel
set_option maxRecDepth 20000 in
theorem ggX9_ruleText_X9_noRulePlace : GoodIn wsX9_ruleText wsX9_noRulePlace := goodIn_r _ [6, 7, 8, 5, 9] (by decide +kernel) (by decide +kernel)
set_option maxRecDepth 20000 in
theorem gX9_ruleText_X9_noRulePlace : GoodIn wsX9_ruleText (va_wsS RX9 196 yX9_noRulePlace wsX9_noRulePlace) := goodIn_app (goodIn_of _ (by decide +kernel)) ggX9_ruleText_X9_noRulePlace
theorem dX9_ruleText_0 : decode cX9_ruleText 0 = .ok (.iload_n 1, 1) := by decide +kernel
theorem dX9_ruleText_1 : decode cX9_ruleText 1 = .ok (.iload_n 2, 1) := by decide +kernel
theorem dX9_ruleText_2 : decode cX9_ruleText 2 = .ok (.invokestatic 196, 3) := by decide +kernel
theorem dX9_ruleText_5 : decode cX9_ruleText 5 = .ok (.ifCond .ne 7, 3) := by decide +kernel
theorem dX9_ruleText_8 : decode cX9_ruleText 8 = .ok (.iload_n 3, 1) := by decide +kernel
theorem dX9_ruleText_9 : decode cX9_ruleText 9 = .ok (.ifCond .ge 6, 3) := by decide +kernel
theorem dX9_ruleText_12 : decode cX9_ruleText 12 = .ok (.bipush (-2), 2) := by decide +kernel
theorem dX9_ruleText_14 : decode cX9_ruleText 14 = .ok (.ireturn, 1) := by decide +kernel
theorem dX9_ruleText_15 : decode cX9_ruleText 15 = .ok (.iconst 5, 1) := by decide +kernel
theorem dX9_ruleText_16 : decode cX9_ruleText 16 = .ok (.iload_n 1, 1) := by decide +kernel
theorem dX9_ruleText_17 : decode cX9_ruleText 17 = .ok (.imul, 1) := by decide +kernel
theorem dX9_ruleText_18 : decode cX9_ruleText 18 = .ok (.iload_n 2, 1) := by decide +kernel
theorem dX9_ruleText_19 : decode cX9_ruleText 19 = .ok (.iadd, 1) := by decide +kernel
theorem dX9_ruleText_20 : decode cX9_ruleText 20 = .ok (.istore 4, 2) := by decide +kernel
theorem dX9_ruleText_22 : decode cX9_ruleText 22 = .ok (.iload_n 3, 1) := by decide +kernel
theorem dX9_ruleText_23 : decode cX9_ruleText 23 = .ok (.aload_n 0, 1) := by decide +kernel
theorem dX9_ruleText_24 : decode cX9_ruleText 24 = .ok (.getfield 45, 3) := by decide +kernel
theorem dX9_ruleText_27 : decode cX9_ruleText 27 = .ok (.iload 4, 2) := by decide +kernel
theorem dX9_ruleText_29 : decode cX9_ruleText 29 = .ok (.iaload, 1) := by decide +kernel
theorem dX9_ruleText_30 : decode cX9_ruleText 30 = .ok (.if_icmp .ge 18, 3) := by decide +kernel
theorem dX9_ruleText_33 : decode cX9_ruleText 33 = .ok (.aload_n 0, 1) := by decide +kernel
theorem dX9_ruleText_34 : decode cX9_ruleText 34 = .ok (.getfield 48, 3) := by decide +kernel
theorem dX9_ruleText_37 : decode cX9_ruleText 37 = .ok (.bipush 24, 2) := by decide +kernel
theorem dX9_ruleText_39 : decode cX9_ruleText 39 = .ok (.iload 4, 2) := by decide +kernel
theorem dX9_ruleText_41 : decode cX9_ruleText 41 = .ok (.imul, 1) := by decide +kernel
theorem dX9_ruleText_42 : decode cX9_ruleText 42 = .ok (.iload_n 3, 1) := by decide +kernel
theorem dX9_ruleText_43 : decode cX9_ruleText 43 = .ok (.iadd, 1) := by decide +kernel
theorem dX9_ruleText_44 : decode cX9_ruleText 44 = .ok (.caload, 1) := by decide +kernel
theorem dX9_ruleText_45 : decode cX9_ruleText 45 = .ok (.goto 5, 3) := by decide +kernel
theorem dX9_ruleText_48 : decode cX9_ruleText 48 = .ok (.bipush (-5), 2) := by decide +kernel
theorem dX9_ruleText_50 : decode cX9_ruleText 50 = .ok (.ireturn, 1) := by decide +kernel
theorem dX9_matching_0 : decode cX9_matching 0 = .ok (.iconst 0, 1) := by decide +kernel
theorem dX9_matching_1 : decode cX9_matching 1 = .ok (.istore 4, 2) := by decide +kernel
theorem dX9_matching_3 : decode cX9_matching 3 = .ok (.aload_n 0, 1) := by decide +kernel
theorem dX9_matching_4 : decode cX9_matching 4 = .ok (.getfield 7, 3) := by decide +kernel
theorem dX9_matching_7 : decode cX9_matching 7 = .ok (.aload_n 0, 1) := by decide +kernel
theorem dX9_matching_8 : decode cX9_matching 8 = .ok (.getfield 78, 3) := by decide +kernel
theorem dX9_matching_11 : decode cX9_matching 11 = .ok (.iload_n 3, 1) := by decide +kernel
theorem dX9_matching_12 : decode cX9_matching 12 = .ok (.caload, 1) := by decide +kernel
theorem dX9_matching_13 : decode cX9_matching 13 = .ok (.iaload, 1) := by decide +kernel
theorem dX9_matching_14 : decode cX9_matching 14 = .ok (.istore 5, 2) := by decide +kernel
theorem dX9_matching_16 : decode cX9_matching 16 = .ok (.iconst 0, 1) := by decide +kernel
theorem dX9_matching_17 : decode cX9_matching 17 = .ok (.istore 6, 2) := by decide +kernel
theorem dX9_matching_19 : decode cX9_matching 19 = .ok (.iload 6, 2) := by decide +kernel
theorem dX9_matching_21 : decode cX9_matching 21 = .ok (.aload_n 0, 1) := by decide +kernel
theorem dX9_matching_22 : decode cX9_matching 22 = .ok (.getfield 45, 3) := by decide +kernel
theorem dX9_matching_25 : decode cX9_matching 25 = .ok (.iload_n 1, 1) := by decide +kernel
theorem dX9_matching_26 : decode cX9_matching 26 = .ok (.iaload, 1) := by decide +kernel
theorem dX9_matching_27 : decode cX9_matching 27 = .ok (.if_icmp .ge 60, 3) := by decide +kernel
theorem dX9_matching_30 : decode cX9_matching 30 = .ok (.aload_n 0, 1) := by decide +kernel
theorem dX9_matching_31 : decode cX9_matching 31 = .ok (.getfield 51, 3) := by decide +kernel
theorem dX9_matching_34 : decode cX9_matching 34 = .ok (.bipush 24, 2) := by decide +kernel
theorem dX9_matching_36 : decode cX9_matching 36 = .ok (.iload_n 1, 1) := by decide +kernel
theorem dX9_matching_37 : decode cX9_matching 37 = .ok (.imul, 1) := by decide +kernel
theorem dX9_matching_38 : decode cX9_matching 38 = .ok (.iload 6, 2) := by decide +kernel
theorem dX9_matching_40 : decode cX9_matching 40 = .ok (.iadd, 1) := by decide +kernel
theorem dX9_matching_41 : decode cX9_matching 41 = .ok (.iaload, 1) := by decide +kernel
theorem dX9_matching_42 : decode cX9_matching 42 = .ok (.istore 7, 2) := by decide +kernel
theorem dX9_matching_44 : decode cX9_matching 44 = .ok (.iload 4, 2) := by decide +kernel
theorem dX9_matching_46 : decode cX9_matching 46 = .ok (.iload_n 2, 1) := by decide +kernel
theorem dX9_matching_47 : decode cX9_matching 47 = .ok (.iload 6, 2) := by decide +kernel
theorem dX9_matching_49 : decode cX9_matching 49 = .ok (.ishr, 1) := by decide +kernel
theorem dX9_matching_50 : decode cX9_matching 50 = .ok (.iconst 1, 1) := by decide +kernel
theorem dX9_matching_51 : decode cX9_matching 51 = .ok (.iand, 1) := by decide +kernel
theorem dX9_matching_52 : decode cX9_matching 52 = .ok (.iconst 1, 1) := by decide +kernel
theorem dX9_matching_53 : decode cX9_matching 53 = .ok (.if_icmp .ne 24, 3) := by decide +kernel
theorem dX9_matching_56 : decode cX9_matching 56 = .ok (.iload 7, 2) := by decide +kernel
theorem dX9_matching_58 : decode cX9_matching 58 = .ok (.bipush 12, 2) := by decide +kernel
theorem dX9_matching_60 : decode cX9_matching 60 = .ok (.if_icmp .eq 10, 3) := by decide +kernel
theorem dX9_matching_63 : decode cX9_matching 63 = .ok (.iload 7, 2) := by decide +kernel
theorem dX9_matching_65 : decode cX9_matching 65 = .ok (.iload 5, 2) := by decide +kernel
theorem dX9_matching_67 : decode cX9_matching 67 = .ok (.if_icmp .ne 10, 3) := by decide +kernel
theorem dX9_matching_70 : decode cX9_matching 70 = .ok (.iconst 1, 1) := by decide +kernel
theorem dX9_matching_71 : decode cX9_matching 71 = .ok (.iload 6, 2) := by decide +kernel
theorem dX9_matching_73 : decode cX9_matching 73 = .ok (.ishl, 1) := by decide +kernel
theorem dX9_matching_74 : decode cX9_matching 74 = .ok (.goto 4, 3) := by decide +kernel
theorem dX9_matching_77 : decode cX9_matching 77 = .ok (.iconst 0, 1) := by decide +kernel
theorem dX9_matching_78 : decode cX9_matching 78 = .ok (.ior, 1) := by decide +kernel
theorem dX9_matching_79 : decode cX9_matching 79 = .ok (.istore 4, 2) := by decide +kernel
theorem dX9_matching_81 : decode cX9_matching 81 = .ok (.iinc 6 1, 3) := by decide +kernel
theorem dX9_matching_84 : decode cX9_matching 84 = .ok (.goto (-65), 3) := by decide +kernel
theorem dX9_matching_87 : decode cX9_matching 87 = .ok (.iload 4, 2) := by decide +kernel
theorem dX9_matching_89 : decode cX9_matching 89 = .ok (.ireturn, 1) := by decide +kernel
theorem dX9_behind_0 : decode cX9_behind 0 = .ok (.iconst 0, 1) := by decide +kernel
theorem dX9_behind_1 : decode cX9_behind 1 = .ok (.istore_n 3, 1) := by decide +kernel
theorem dX9_behind_2 : decode cX9_behind 2 = .ok (.iconst 0, 1) := by decide +kernel
theorem dX9_behind_3 : decode cX9_behind 3 = .ok (.istore 4, 2) := by decide +kernel
theorem dX9_behind_5 : decode cX9_behind 5 = .ok (.iload 4, 2) := by decide +kernel
theorem dX9_behind_7 : decode cX9_behind 7 = .ok (.aload_n 0, 1) := by decide +kernel
theorem dX9_behind_8 : decode cX9_behind 8 = .ok (.getfield 45, 3) := by decide +kernel
theorem dX9_behind_11 : decode cX9_behind 11 = .ok (.iload_n 1, 1) := by decide +kernel
theorem dX9_behind_12 : decode cX9_behind 12 = .ok (.iaload, 1) := by decide +kernel
theorem dX9_behind_13 : decode cX9_behind 13 = .ok (.if_icmp .ge 38, 3) := by decide +kernel
theorem dX9_behind_16 : decode cX9_behind 16 = .ok (.iload_n 3, 1) := by decide +kernel
theorem dX9_behind_17 : decode cX9_behind 17 = .ok (.iload_n 2, 1) := by decide +kernel
theorem dX9_behind_18 : decode cX9_behind 18 = .ok (.iload 4, 2) := by decide +kernel
theorem dX9_behind_20 : decode cX9_behind 20 = .ok (.ishr, 1) := by decide +kernel
theorem dX9_behind_21 : decode cX9_behind 21 = .ok (.iconst 1, 1) := by decide +kernel
theorem dX9_behind_22 : decode cX9_behind 22 = .ok (.iand, 1) := by decide +kernel
theorem dX9_behind_23 : decode cX9_behind 23 = .ok (.iconst 1, 1) := by decide +kernel
theorem dX9_behind_24 : decode cX9_behind 24 = .ok (.if_icmp .ne 18, 3) := by decide +kernel
theorem dX9_behind_27 : decode cX9_behind 27 = .ok (.aload_n 0, 1) := by decide +kernel
theorem dX9_behind_28 : decode cX9_behind 28 = .ok (.getfield 54, 3) := by decide +kernel
theorem dX9_behind_31 : decode cX9_behind 31 = .ok (.bipush 24, 2) := by decide +kernel
theorem dX9_behind_33 : decode cX9_behind 33 = .ok (.iload_n 1, 1) := by decide +kernel
theorem dX9_behind_34 : decode cX9_behind 34 = .ok (.imul, 1) := by decide +kernel
theorem dX9_behind_35 : decode cX9_behind 35 = .ok (.iload 4, 2) := by decide +kernel
theorem dX9_behind_37 : decode cX9_behind 37 = .ok (.iadd, 1) := by decide +kernel
theorem dX9_behind_38 : decode cX9_behind 38 = .ok (.iaload, 1) := by decide +kernel
theorem dX9_behind_39 : decode cX9_behind 39 = .ok (.goto 4, 3) := by decide +kernel
theorem dX9_behind_42 : decode cX9_behind 42 = .ok (.iconst 0, 1) := by decide +kernel
theorem dX9_behind_43 : decode cX9_behind 43 = .ok (.ior, 1) := by decide +kernel
theorem dX9_behind_44 : decode cX9_behind 44 = .ok (.istore_n 3, 1) := by decide +kernel
theorem dX9_behind_45 : decode cX9_behind 45 = .ok (.iinc 4 1, 3) := by decide +kernel
theorem dX9_behind_48 : decode cX9_behind 48 = .ok (.goto (-43), 3) := by decide +kernel
theorem dX9_behind_51 : decode cX9_behind 51 = .ok (.iload_n 3, 1) := by decide +kernel
theorem dX9_behind_52 : decode cX9_behind 52 = .ok (.ireturn, 1) := by decide +kernel
set_option maxRecDepth 20000 in
theorem ggX9_matchesAhead_X9_matching : GoodIn wsX9_matchesAhead wsX9_matching := goodIn_r _ [9, 10, 11, 12, 13, 19, 20, 21, 22, 23, 24, 25, 26, 27, 28, 29, 30, 31, 32, 33, 34, 35, 36, 37, 38, 39, 40, 41, 42, 43, 44, 45, 46, 47, 48, 49, 50, 51, 52, 53, 54, 55, 56, 57, 58, 59, 60, 61, 62, 63, 64, 65, 66, 67, 68, 69, 70, 71, 72] (by decide +kernel) (by decide +kernel)
set_option maxRecDepth 20000 in
theorem gX9_matchesAhead_X9_matching : GoodIn wsX9_matchesAhead (wsV RX9 210 RX9 yX9_matching wsX9_matching) := goodIn_app (goodIn_of _ (by decide +kernel)) ggX9_matchesAhead_X9_matching
set_option maxRecDepth 20000 in
theorem ggX9_matchesAhead_X9_behind : GoodIn wsX9_matchesAhead wsX9_behind := goodIn_r _ [17, 12, 18, 19, 20, 21, 22, 23, 24, 25, 26, 27, 28, 29, 30, 31, 32, 33, 34, 35, 36, 37, 38, 39, 40, 41, 42, 43, 44, 45, 46, 47, 48, 49, 50, 51, 52, 53, 54, 55, 56, 57, 58, 59, 60, 61, 62, 63, 64, 65, 66, 67, 68, 69, 70, 71, 72] (by decide +kernel) (by decide +kernel)
set_option maxRecDepth 20000 in
theorem gX9_matchesAhead_X9_behind : GoodIn wsX9_matchesAhead (wsV RX9 214 RX9 yX9_behind wsX9_behind) := goodIn_app (goodIn_of _ (by decide +kernel)) ggX9_matchesAhead_X9_behind
theorem dX9_matchesAhead_0 : decode cX9_matchesAhead 0 = .ok (.aload_n 0, 1) := by decide +kernel
theorem dX9_matchesAhead_1 : decode cX9_matchesAhead 1 = .ok (.getfield 69, 3) := by decide +kernel
theorem dX9_matchesAhead_4 : decode cX9_matchesAhead 4 = .ok (.iload_n 1, 1) := by decide +kernel
theorem dX9_matchesAhead_5 : decode cX9_matchesAhead 5 = .ok (.baload, 1) := by decide +kernel
theorem dX9_matchesAhead_6 : decode cX9_matchesAhead 6 = .ok (.istore_n 3, 1) := by decide +kernel
theorem dX9_matchesAhead_7 : decode cX9_matchesAhead 7 = .ok (.aload_n 0, 1) := by decide +kernel
theorem dX9_matchesAhead_8 : decode cX9_matchesAhead 8 = .ok (.getfield 72, 3) := by decide +kernel
theorem dX9_matchesAhead_11 : decode cX9_matchesAhead 11 = .ok (.iload_n 1, 1) := by decide +kernel
theorem dX9_matchesAhead_12 : decode cX9_matchesAhead 12 = .ok (.iaload, 1) := by decide +kernel
theorem dX9_matchesAhead_13 : decode cX9_matchesAhead 13 = .ok (.istore 4, 2) := by decide +kernel
theorem dX9_matchesAhead_15 : decode cX9_matchesAhead 15 = .ok (.iload_n 2, 1) := by decide +kernel
theorem dX9_matchesAhead_16 : decode cX9_matchesAhead 16 = .ok (.istore 5, 2) := by decide +kernel
theorem dX9_matchesAhead_18 : decode cX9_matchesAhead 18 = .ok (.iload 5, 2) := by decide +kernel
theorem dX9_matchesAhead_20 : decode cX9_matchesAhead 20 = .ok (.aload_n 0, 1) := by decide +kernel
theorem dX9_matchesAhead_21 : decode cX9_matchesAhead 21 = .ok (.getfield 207, 3) := by decide +kernel
theorem dX9_matchesAhead_24 : decode cX9_matchesAhead 24 = .ok (.if_icmp .ge 56, 3) := by decide +kernel
theorem dX9_matchesAhead_27 : decode cX9_matchesAhead 27 = .ok (.iload 4, 2) := by decide +kernel
theorem dX9_matchesAhead_29 : decode cX9_matchesAhead 29 = .ok (.ifCond .eq 51, 3) := by decide +kernel
theorem dX9_matchesAhead_32 : decode cX9_matchesAhead 32 = .ok (.iload_n 3, 1) := by decide +kernel
theorem dX9_matchesAhead_33 : decode cX9_matchesAhead 33 = .ok (.ifCond .ne 47, 3) := by decide +kernel
theorem dX9_matchesAhead_36 : decode cX9_matchesAhead 36 = .ok (.aload_n 0, 1) := by decide +kernel
theorem dX9_matchesAhead_37 : decode cX9_matchesAhead 37 = .ok (.iload_n 1, 1) := by decide +kernel
theorem dX9_matchesAhead_38 : decode cX9_matchesAhead 38 = .ok (.iload 4, 2) := by decide +kernel
theorem dX9_matchesAhead_40 : decode cX9_matchesAhead 40 = .ok (.iload 5, 2) := by decide +kernel
theorem dX9_matchesAhead_42 : decode cX9_matchesAhead 42 = .ok (.invokevirtual 210, 3) := by decide +kernel
theorem dX9_matchesAhead_45 : decode cX9_matchesAhead 45 = .ok (.istore 6, 2) := by decide +kernel
theorem dX9_matchesAhead_47 : decode cX9_matchesAhead 47 = .ok (.iload 6, 2) := by decide +kernel
theorem dX9_matchesAhead_49 : decode cX9_matchesAhead 49 = .ok (.aload_n 0, 1) := by decide +kernel
theorem dX9_matchesAhead_50 : decode cX9_matchesAhead 50 = .ok (.getfield 75, 3) := by decide +kernel
theorem dX9_matchesAhead_53 : decode cX9_matchesAhead 53 = .ok (.iload_n 1, 1) := by decide +kernel
theorem dX9_matchesAhead_54 : decode cX9_matchesAhead 54 = .ok (.iaload, 1) := by decide +kernel
theorem dX9_matchesAhead_55 : decode cX9_matchesAhead 55 = .ok (.iand, 1) := by decide +kernel
theorem dX9_matchesAhead_56 : decode cX9_matchesAhead 56 = .ok (.ifCond .eq 7, 3) := by decide +kernel
theorem dX9_matchesAhead_59 : decode cX9_matchesAhead 59 = .ok (.iconst 1, 1) := by decide +kernel
theorem dX9_matchesAhead_60 : decode cX9_matchesAhead 60 = .ok (.goto 4, 3) := by decide +kernel
theorem dX9_matchesAhead_63 : decode cX9_matchesAhead 63 = .ok (.iconst 0, 1) := by decide +kernel
theorem dX9_matchesAhead_64 : decode cX9_matchesAhead 64 = .ok (.istore_n 3, 1) := by decide +kernel
theorem dX9_matchesAhead_65 : decode cX9_matchesAhead 65 = .ok (.aload_n 0, 1) := by decide +kernel
theorem dX9_matchesAhead_66 : decode cX9_matchesAhead 66 = .ok (.iload_n 1, 1) := by decide +kernel
theorem dX9_matchesAhead_67 : decode cX9_matchesAhead 67 = .ok (.iload 6, 2) := by decide +kernel
theorem dX9_matchesAhead_69 : decode cX9_matchesAhead 69 = .ok (.invokevirtual 214, 3) := by decide +kernel
theorem dX9_matchesAhead_72 : decode cX9_matchesAhead 72 = .ok (.istore 4, 2) := by decide +kernel
theorem dX9_matchesAhead_74 : decode cX9_matchesAhead 74 = .ok (.iinc 5 1, 3) := by decide +kernel
theorem dX9_matchesAhead_77 : decode cX9_matchesAhead 77 = .ok (.goto (-59), 3) := by decide +kernel
theorem dX9_matchesAhead_80 : decode cX9_matchesAhead 80 = .ok (.iload_n 3, 1) := by decide +kernel
theorem dX9_matchesAhead_81 : decode cX9_matchesAhead 81 = .ok (.ireturn, 1) := by decide +kernel
set_option maxRecDepth 20000 in
theorem ggX9_lengthOf_X9_matching : GoodIn wsX9_lengthOf wsX9_matching := goodIn_r _ [8, 9, 10, 11, 12, 25, 26, 27, 28, 29, 30, 31, 32, 33, 34, 35, 36, 37, 38, 39, 40, 41, 42, 43, 44, 45, 46, 47, 48, 49, 50, 51, 52, 53, 54, 55, 56, 57, 58, 59, 60, 61, 62, 63, 64, 65, 66, 67, 68, 69, 70, 71, 72, 73, 74, 75, 76, 77, 78] (by decide +kernel) (by decide +kernel)
set_option maxRecDepth 20000 in
theorem gX9_lengthOf_X9_matching : GoodIn wsX9_lengthOf (wsV RX9 210 RX9 yX9_matching wsX9_matching) := goodIn_app (goodIn_of _ (by decide +kernel)) ggX9_lengthOf_X9_matching
set_option maxRecDepth 20000 in
theorem ggX9_lengthOf_X9_matchesAhead : GoodIn wsX9_lengthOf wsX9_matchesAhead := goodIn_r _ [16, 17, 18, 2, 19, 4, 5, 6, 7, 8, 9, 10, 11, 12, 20, 21, 22, 23, 24, 25, 26, 27, 28, 29, 30, 31, 32, 33, 34, 35, 36, 37, 38, 39, 40, 41, 42, 43, 44, 45, 46, 47, 48, 49, 50, 51, 52, 53, 54, 55, 56, 57, 58, 59, 60, 61, 62, 63, 64, 65, 66, 67, 68, 69, 70, 71, 72, 73, 74, 75, 76, 77, 78] (by decide +kernel) (by decide +kernel)
set_option maxRecDepth 20000 in
theorem gX9_lengthOf_X9_matchesAhead : GoodIn wsX9_lengthOf (wsV RX9 218 RX9 yX9_matchesAhead wsX9_matchesAhead) := goodIn_app (goodIn_of _ (by decide +kernel)) ggX9_lengthOf_X9_matchesAhead
set_option maxRecDepth 20000 in
theorem ggX9_lengthOf_X9_behind : GoodIn wsX9_lengthOf wsX9_behind := goodIn_r _ [23, 11, 24, 25, 26, 27, 28, 29, 30, 31, 32, 33, 34, 35, 36, 37, 38, 39, 40, 41, 42, 43, 44, 45, 46, 47, 48, 49, 50, 51, 52, 53, 54, 55, 56, 57, 58, 59, 60, 61, 62, 63, 64, 65, 66, 67, 68, 69, 70, 71, 72, 73, 74, 75, 76, 77, 78] (by decide +kernel) (by decide +kernel)
set_option maxRecDepth 20000 in
theorem gX9_lengthOf_X9_behind : GoodIn wsX9_lengthOf (wsV RX9 214 RX9 yX9_behind wsX9_behind) := goodIn_app (goodIn_of _ (by decide +kernel)) ggX9_lengthOf_X9_behind
theorem dX9_lengthOf_0 : decode cX9_lengthOf 0 = .ok (.iconst 0, 1) := by decide +kernel
theorem dX9_lengthOf_1 : decode cX9_lengthOf 1 = .ok (.istore_n 3, 1) := by decide +kernel
theorem dX9_lengthOf_2 : decode cX9_lengthOf 2 = .ok (.aload_n 0, 1) := by decide +kernel
theorem dX9_lengthOf_3 : decode cX9_lengthOf 3 = .ok (.getfield 63, 3) := by decide +kernel
theorem dX9_lengthOf_6 : decode cX9_lengthOf 6 = .ok (.iload_n 1, 1) := by decide +kernel
theorem dX9_lengthOf_7 : decode cX9_lengthOf 7 = .ok (.iaload, 1) := by decide +kernel
theorem dX9_lengthOf_8 : decode cX9_lengthOf 8 = .ok (.istore 4, 2) := by decide +kernel
theorem dX9_lengthOf_10 : decode cX9_lengthOf 10 = .ok (.iload_n 2, 1) := by decide +kernel
theorem dX9_lengthOf_11 : decode cX9_lengthOf 11 = .ok (.istore 5, 2) := by decide +kernel
theorem dX9_lengthOf_13 : decode cX9_lengthOf 13 = .ok (.iload 5, 2) := by decide +kernel
theorem dX9_lengthOf_15 : decode cX9_lengthOf 15 = .ok (.aload_n 0, 1) := by decide +kernel
theorem dX9_lengthOf_16 : decode cX9_lengthOf 16 = .ok (.getfield 207, 3) := by decide +kernel
theorem dX9_lengthOf_19 : decode cX9_lengthOf 19 = .ok (.if_icmp .ge 69, 3) := by decide +kernel
theorem dX9_lengthOf_22 : decode cX9_lengthOf 22 = .ok (.iload 4, 2) := by decide +kernel
theorem dX9_lengthOf_24 : decode cX9_lengthOf 24 = .ok (.ifCond .eq 64, 3) := by decide +kernel
theorem dX9_lengthOf_27 : decode cX9_lengthOf 27 = .ok (.aload_n 0, 1) := by decide +kernel
theorem dX9_lengthOf_28 : decode cX9_lengthOf 28 = .ok (.iload_n 1, 1) := by decide +kernel
theorem dX9_lengthOf_29 : decode cX9_lengthOf 29 = .ok (.iload 4, 2) := by decide +kernel
theorem dX9_lengthOf_31 : decode cX9_lengthOf 31 = .ok (.iload 5, 2) := by decide +kernel
theorem dX9_lengthOf_33 : decode cX9_lengthOf 33 = .ok (.invokevirtual 210, 3) := by decide +kernel
theorem dX9_lengthOf_36 : decode cX9_lengthOf 36 = .ok (.istore 6, 2) := by decide +kernel
theorem dX9_lengthOf_38 : decode cX9_lengthOf 38 = .ok (.iload 6, 2) := by decide +kernel
theorem dX9_lengthOf_40 : decode cX9_lengthOf 40 = .ok (.aload_n 0, 1) := by decide +kernel
theorem dX9_lengthOf_41 : decode cX9_lengthOf 41 = .ok (.getfield 66, 3) := by decide +kernel
theorem dX9_lengthOf_44 : decode cX9_lengthOf 44 = .ok (.iload_n 1, 1) := by decide +kernel
theorem dX9_lengthOf_45 : decode cX9_lengthOf 45 = .ok (.iaload, 1) := by decide +kernel
theorem dX9_lengthOf_46 : decode cX9_lengthOf 46 = .ok (.iand, 1) := by decide +kernel
theorem dX9_lengthOf_47 : decode cX9_lengthOf 47 = .ok (.ifCond .eq 24, 3) := by decide +kernel
theorem dX9_lengthOf_50 : decode cX9_lengthOf 50 = .ok (.aload_n 0, 1) := by decide +kernel
theorem dX9_lengthOf_51 : decode cX9_lengthOf 51 = .ok (.iload_n 1, 1) := by decide +kernel
theorem dX9_lengthOf_52 : decode cX9_lengthOf 52 = .ok (.iload 5, 2) := by decide +kernel
theorem dX9_lengthOf_54 : decode cX9_lengthOf 54 = .ok (.iconst 1, 1) := by decide +kernel
theorem dX9_lengthOf_55 : decode cX9_lengthOf 55 = .ok (.iadd, 1) := by decide +kernel
theorem dX9_lengthOf_56 : decode cX9_lengthOf 56 = .ok (.invokevirtual 218, 3) := by decide +kernel
theorem dX9_lengthOf_59 : decode cX9_lengthOf 59 = .ok (.ifCond .eq 12, 3) := by decide +kernel
theorem dX9_lengthOf_62 : decode cX9_lengthOf 62 = .ok (.iload 5, 2) := by decide +kernel
theorem dX9_lengthOf_64 : decode cX9_lengthOf 64 = .ok (.iconst 1, 1) := by decide +kernel
theorem dX9_lengthOf_65 : decode cX9_lengthOf 65 = .ok (.iadd, 1) := by decide +kernel
theorem dX9_lengthOf_66 : decode cX9_lengthOf 66 = .ok (.iload_n 2, 1) := by decide +kernel
theorem dX9_lengthOf_67 : decode cX9_lengthOf 67 = .ok (.isub, 1) := by decide +kernel
theorem dX9_lengthOf_68 : decode cX9_lengthOf 68 = .ok (.goto 4, 3) := by decide +kernel
theorem dX9_lengthOf_71 : decode cX9_lengthOf 71 = .ok (.iload_n 3, 1) := by decide +kernel
theorem dX9_lengthOf_72 : decode cX9_lengthOf 72 = .ok (.istore_n 3, 1) := by decide +kernel
theorem dX9_lengthOf_73 : decode cX9_lengthOf 73 = .ok (.aload_n 0, 1) := by decide +kernel
theorem dX9_lengthOf_74 : decode cX9_lengthOf 74 = .ok (.iload_n 1, 1) := by decide +kernel
theorem dX9_lengthOf_75 : decode cX9_lengthOf 75 = .ok (.iload 6, 2) := by decide +kernel
theorem dX9_lengthOf_77 : decode cX9_lengthOf 77 = .ok (.invokevirtual 214, 3) := by decide +kernel
theorem dX9_lengthOf_80 : decode cX9_lengthOf 80 = .ok (.istore 4, 2) := by decide +kernel
theorem dX9_lengthOf_82 : decode cX9_lengthOf 82 = .ok (.iinc 5 1, 3) := by decide +kernel
theorem dX9_lengthOf_85 : decode cX9_lengthOf 85 = .ok (.goto (-72), 3) := by decide +kernel
theorem dX9_lengthOf_88 : decode cX9_lengthOf 88 = .ok (.iload_n 3, 1) := by decide +kernel
theorem dX9_lengthOf_89 : decode cX9_lengthOf 89 = .ok (.ireturn, 1) := by decide +kernel
set_option maxRecDepth 20000 in
theorem ggX9_noKind_X9_in : GoodIn wsX9_noKind wsX9_in := goodIn_r _ [4] (by decide +kernel) (by decide +kernel)
set_option maxRecDepth 20000 in
theorem gX9_noKind_X9_in : GoodIn wsX9_noKind (va_wsS RX9 136 yX9_in wsX9_in) := goodIn_app (goodIn_of _ (by decide +kernel)) ggX9_noKind_X9_in
theorem dX9_noKind_0 : decode cX9_noKind 0 = .ok (.iload_n 0, 1) := by decide +kernel
theorem dX9_noKind_1 : decode cX9_noKind 1 = .ok (.iconst 0, 1) := by decide +kernel
theorem dX9_noKind_2 : decode cX9_noKind 2 = .ok (.iconst 2, 1) := by decide +kernel
theorem dX9_noKind_3 : decode cX9_noKind 3 = .ok (.invokestatic 136, 3) := by decide +kernel
theorem dX9_noKind_6 : decode cX9_noKind 6 = .ok (.ifCond .ne 7, 3) := by decide +kernel
theorem dX9_noKind_9 : decode cX9_noKind 9 = .ok (.iconst 1, 1) := by decide +kernel
theorem dX9_noKind_10 : decode cX9_noKind 10 = .ok (.goto 4, 3) := by decide +kernel
theorem dX9_noKind_13 : decode cX9_noKind 13 = .ok (.iconst 0, 1) := by decide +kernel
theorem dX9_noKind_14 : decode cX9_noKind 14 = .ok (.ireturn, 1) := by decide +kernel
set_option maxRecDepth 20000 in
theorem ggX9_noPosition_X9_in : GoodIn wsX9_noPosition wsX9_in := goodIn_r _ [5] (by decide +kernel) (by decide +kernel)
set_option maxRecDepth 20000 in
theorem gX9_noPosition_X9_in : GoodIn wsX9_noPosition (va_wsS RX9 136 yX9_in wsX9_in) := goodIn_app (goodIn_of _ (by decide +kernel)) ggX9_noPosition_X9_in
theorem dX9_noPosition_0 : decode cX9_noPosition 0 = .ok (.iload_n 1, 1) := by decide +kernel
theorem dX9_noPosition_1 : decode cX9_noPosition 1 = .ok (.iconst 0, 1) := by decide +kernel
theorem dX9_noPosition_2 : decode cX9_noPosition 2 = .ok (.aload_n 0, 1) := by decide +kernel
theorem dX9_noPosition_3 : decode cX9_noPosition 3 = .ok (.getfield 207, 3) := by decide +kernel
theorem dX9_noPosition_6 : decode cX9_noPosition 6 = .ok (.invokestatic 136, 3) := by decide +kernel
theorem dX9_noPosition_9 : decode cX9_noPosition 9 = .ok (.ifCond .ne 7, 3) := by decide +kernel
theorem dX9_noPosition_12 : decode cX9_noPosition 12 = .ok (.iconst 1, 1) := by decide +kernel
theorem dX9_noPosition_13 : decode cX9_noPosition 13 = .ok (.goto 4, 3) := by decide +kernel
theorem dX9_noPosition_16 : decode cX9_noPosition 16 = .ok (.iconst 0, 1) := by decide +kernel
theorem dX9_noPosition_17 : decode cX9_noPosition 17 = .ok (.ireturn, 1) := by decide +kernel
set_option maxRecDepth 20000 in
theorem ggX9_matchLength_X9_noRulePlace : GoodIn wsX9_matchLength wsX9_noRulePlace := goodIn_r _ [5, 6, 7, 4, 8] (by decide +kernel) (by decide +kernel)
set_option maxRecDepth 20000 in
theorem gX9_matchLength_X9_noRulePlace : GoodIn wsX9_matchLength (va_wsS RX9 196 yX9_noRulePlace wsX9_noRulePlace) := goodIn_app (goodIn_of _ (by decide +kernel)) ggX9_matchLength_X9_noRulePlace
set_option maxRecDepth 20000 in
theorem ggX9_matchLength_X9_noPosition : GoodIn wsX9_matchLength wsX9_noPosition := goodIn_r _ [12, 13, 6, 7, 4, 8, 39, 40, 41, 42, 43, 44, 45, 46, 47, 48, 49, 50, 51, 52, 53, 54, 55, 56, 57, 58, 59, 60, 61, 62, 63, 64, 65, 66, 67, 68, 69, 70, 71, 72, 73, 74, 75, 76, 77, 78, 79, 80, 81, 82, 83, 84, 85, 86, 87, 88, 89, 90, 91, 92] (by decide +kernel) (by decide +kernel)
set_option maxRecDepth 20000 in
theorem gX9_matchLength_X9_noPosition : GoodIn wsX9_matchLength (wsV RX9 221 RX9 yX9_noPosition wsX9_noPosition) := goodIn_app (goodIn_of _ (by decide +kernel)) ggX9_matchLength_X9_noPosition
set_option maxRecDepth 20000 in
theorem ggX9_matchLength_X9_lengthOf : GoodIn wsX9_matchLength wsX9_lengthOf := goodIn_r _ [17, 18, 13, 19, 20, 21, 22, 4, 23, 24, 25, 1, 26, 27, 28, 29, 30, 31, 32, 33, 34, 35, 36, 37, 38, 39, 40, 41, 42, 43, 44, 45, 46, 47, 48, 49, 50, 51, 52, 53, 54, 55, 56, 57, 58, 59, 60, 61, 62, 63, 64, 65, 66, 67, 68, 69, 70, 71, 72, 73, 74, 75, 76, 77, 78, 79, 80, 81, 82, 83, 84, 85, 86, 87, 88, 89, 90, 91, 92] (by decide +kernel) (by decide +kernel)
set_option maxRecDepth 20000 in
theorem gX9_matchLength_X9_lengthOf : GoodIn wsX9_matchLength (wsV RX9 225 RX9 yX9_lengthOf wsX9_lengthOf) := goodIn_app (goodIn_of _ (by decide +kernel)) ggX9_matchLength_X9_lengthOf
theorem dX9_matchLength_0 : decode cX9_matchLength 0 = .ok (.iload_n 1, 1) := by decide +kernel
theorem dX9_matchLength_1 : decode cX9_matchLength 1 = .ok (.iload_n 2, 1) := by decide +kernel
theorem dX9_matchLength_2 : decode cX9_matchLength 2 = .ok (.invokestatic 196, 3) := by decide +kernel
theorem dX9_matchLength_5 : decode cX9_matchLength 5 = .ok (.ifCond .eq 6, 3) := by decide +kernel
theorem dX9_matchLength_8 : decode cX9_matchLength 8 = .ok (.bipush (-2), 2) := by decide +kernel
theorem dX9_matchLength_10 : decode cX9_matchLength 10 = .ok (.ireturn, 1) := by decide +kernel
theorem dX9_matchLength_11 : decode cX9_matchLength 11 = .ok (.aload_n 0, 1) := by decide +kernel
theorem dX9_matchLength_12 : decode cX9_matchLength 12 = .ok (.iload_n 3, 1) := by decide +kernel
theorem dX9_matchLength_13 : decode cX9_matchLength 13 = .ok (.invokevirtual 221, 3) := by decide +kernel
theorem dX9_matchLength_16 : decode cX9_matchLength 16 = .ok (.ifCond .eq 5, 3) := by decide +kernel
theorem dX9_matchLength_19 : decode cX9_matchLength 19 = .ok (.iconst (-1), 1) := by decide +kernel
theorem dX9_matchLength_20 : decode cX9_matchLength 20 = .ok (.ireturn, 1) := by decide +kernel
theorem dX9_matchLength_21 : decode cX9_matchLength 21 = .ok (.iconst 5, 1) := by decide +kernel
theorem dX9_matchLength_22 : decode cX9_matchLength 22 = .ok (.iload_n 1, 1) := by decide +kernel
theorem dX9_matchLength_23 : decode cX9_matchLength 23 = .ok (.imul, 1) := by decide +kernel
theorem dX9_matchLength_24 : decode cX9_matchLength 24 = .ok (.iload_n 2, 1) := by decide +kernel
theorem dX9_matchLength_25 : decode cX9_matchLength 25 = .ok (.iadd, 1) := by decide +kernel
theorem dX9_matchLength_26 : decode cX9_matchLength 26 = .ok (.istore 4, 2) := by decide +kernel
theorem dX9_matchLength_28 : decode cX9_matchLength 28 = .ok (.aload_n 0, 1) := by decide +kernel
theorem dX9_matchLength_29 : decode cX9_matchLength 29 = .ok (.getfield 45, 3) := by decide +kernel
theorem dX9_matchLength_32 : decode cX9_matchLength 32 = .ok (.iload 4, 2) := by decide +kernel
theorem dX9_matchLength_34 : decode cX9_matchLength 34 = .ok (.iaload, 1) := by decide +kernel
theorem dX9_matchLength_35 : decode cX9_matchLength 35 = .ok (.ifCond .ne 8, 3) := by decide +kernel
theorem dX9_matchLength_38 : decode cX9_matchLength 38 = .ok (.bipush (-5), 2) := by decide +kernel
theorem dX9_matchLength_40 : decode cX9_matchLength 40 = .ok (.goto 10, 3) := by decide +kernel
theorem dX9_matchLength_43 : decode cX9_matchLength 43 = .ok (.aload_n 0, 1) := by decide +kernel
theorem dX9_matchLength_44 : decode cX9_matchLength 44 = .ok (.iload 4, 2) := by decide +kernel
theorem dX9_matchLength_46 : decode cX9_matchLength 46 = .ok (.iload_n 3, 1) := by decide +kernel
theorem dX9_matchLength_47 : decode cX9_matchLength 47 = .ok (.invokevirtual 225, 3) := by decide +kernel
theorem dX9_matchLength_50 : decode cX9_matchLength 50 = .ok (.ireturn, 1) := by decide +kernel
set_option maxRecDepth 20000 in
theorem ggX9_segmentAt_X9_lengthOf : GoodIn wsX9_segmentAt wsX9_lengthOf := goodIn_r _ [6, 7, 8, 9, 10, 11, 12, 5, 13, 14, 15, 1, 16, 17, 18, 19, 20, 21, 22, 23, 24, 25, 26, 27, 28, 29, 30, 31, 32, 33, 34, 35, 36, 37, 38, 39, 40, 41, 42, 43, 44, 45, 46, 47, 48, 49, 50, 51, 52, 53, 54, 55, 56, 57, 58, 59, 60, 61, 62, 63, 64, 65, 66, 67, 68, 69, 70, 71, 72, 73, 74, 75, 76, 77, 78, 79, 80, 81, 82] (by decide +kernel) (by decide +kernel)
set_option maxRecDepth 20000 in
theorem gX9_segmentAt_X9_lengthOf : GoodIn wsX9_segmentAt (wsV RX9 225 RX9 yX9_lengthOf wsX9_lengthOf) := goodIn_app (goodIn_of _ (by decide +kernel)) ggX9_segmentAt_X9_lengthOf
theorem dX9_segmentAt_0 : decode cX9_segmentAt 0 = .ok (.iconst 1, 1) := by decide +kernel
theorem dX9_segmentAt_1 : decode cX9_segmentAt 1 = .ok (.istore_n 3, 1) := by decide +kernel
theorem dX9_segmentAt_2 : decode cX9_segmentAt 2 = .ok (.iconst 5, 1) := by decide +kernel
theorem dX9_segmentAt_3 : decode cX9_segmentAt 3 = .ok (.iload_n 1, 1) := by decide +kernel
theorem dX9_segmentAt_4 : decode cX9_segmentAt 4 = .ok (.imul, 1) := by decide +kernel
theorem dX9_segmentAt_5 : decode cX9_segmentAt 5 = .ok (.istore 4, 2) := by decide +kernel
theorem dX9_segmentAt_7 : decode cX9_segmentAt 7 = .ok (.iload 4, 2) := by decide +kernel
theorem dX9_segmentAt_9 : decode cX9_segmentAt 9 = .ok (.iconst 5, 1) := by decide +kernel
theorem dX9_segmentAt_10 : decode cX9_segmentAt 10 = .ok (.iload_n 1, 1) := by decide +kernel
theorem dX9_segmentAt_11 : decode cX9_segmentAt 11 = .ok (.imul, 1) := by decide +kernel
theorem dX9_segmentAt_12 : decode cX9_segmentAt 12 = .ok (.iconst 5, 1) := by decide +kernel
theorem dX9_segmentAt_13 : decode cX9_segmentAt 13 = .ok (.iadd, 1) := by decide +kernel
theorem dX9_segmentAt_14 : decode cX9_segmentAt 14 = .ok (.if_icmp .ge 45, 3) := by decide +kernel
theorem dX9_segmentAt_17 : decode cX9_segmentAt 17 = .ok (.aload_n 0, 1) := by decide +kernel
theorem dX9_segmentAt_18 : decode cX9_segmentAt 18 = .ok (.getfield 45, 3) := by decide +kernel
theorem dX9_segmentAt_21 : decode cX9_segmentAt 21 = .ok (.iload 4, 2) := by decide +kernel
theorem dX9_segmentAt_23 : decode cX9_segmentAt 23 = .ok (.iaload, 1) := by decide +kernel
theorem dX9_segmentAt_24 : decode cX9_segmentAt 24 = .ok (.ifCond .le 13, 3) := by decide +kernel
theorem dX9_segmentAt_27 : decode cX9_segmentAt 27 = .ok (.aload_n 0, 1) := by decide +kernel
theorem dX9_segmentAt_28 : decode cX9_segmentAt 28 = .ok (.iload 4, 2) := by decide +kernel
