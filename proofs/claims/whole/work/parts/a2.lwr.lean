/-! THE LAW: its rows. -/
abbrev m_Lw_law : cx_M := (⟨"CircuitTextLaw", "law", "([I)Z"⟩, code, 8, (Option.some Jvm.ClassFile.FieldType.boolean), [], [false])
theorem d_Lw_law_0 : decode code 0 = .ok (.new 8, 3) := by decide +kernel
theorem d_Lw_law_3 : decode code 3 = .ok (.dup, 1) := by decide +kernel
theorem d_Lw_law_4 : decode code 4 = .ok (.invokespecial 39, 3) := by decide +kernel
theorem d_Lw_law_7 : decode code 7 = .ok (.astore_n 1, 1) := by decide +kernel
theorem d_Lw_law_8 : decode code 8 = .ok (.new 40, 3) := by decide +kernel
theorem d_Lw_law_11 : decode code 11 = .ok (.dup, 1) := by decide +kernel
theorem d_Lw_law_12 : decode code 12 = .ok (.invokespecial 42, 3) := by decide +kernel
theorem d_Lw_law_15 : decode code 15 = .ok (.astore_n 2, 1) := by decide +kernel
theorem d_Lw_law_16 : decode code 16 = .ok (.iconst 1, 1) := by decide +kernel
theorem d_Lw_law_17 : decode code 17 = .ok (.newarray .long, 2) := by decide +kernel
theorem d_Lw_law_19 : decode code 19 = .ok (.astore_n 3, 1) := by decide +kernel
theorem d_Lw_law_20 : decode code 20 = .ok (.iconst 0, 1) := by decide +kernel
theorem d_Lw_law_21 : decode code 21 = .ok (.istore 4, 2) := by decide +kernel
theorem d_Lw_law_23 : decode code 23 = .ok (.iload 4, 2) := by decide +kernel
theorem d_Lw_law_25 : decode code 25 = .ok (.aload_n 0, 1) := by decide +kernel
theorem d_Lw_law_26 : decode code 26 = .ok (.arraylength, 1) := by decide +kernel
theorem d_Lw_law_27 : decode code 27 = .ok (.bipush 6, 2) := by decide +kernel
theorem d_Lw_law_29 : decode code 29 = .ok (.isub, 1) := by decide +kernel
theorem d_Lw_law_30 : decode code 30 = .ok (.if_icmp .gt 518, 3) := by decide +kernel
theorem d_Lw_law_33 : decode code 33 = .ok (.aload_n 0, 1) := by decide +kernel
theorem d_Lw_law_34 : decode code 34 = .ok (.iload 4, 2) := by decide +kernel
theorem d_Lw_law_36 : decode code 36 = .ok (.iaload, 1) := by decide +kernel
theorem d_Lw_law_37 : decode code 37 = .ok (.bipush 15, 2) := by decide +kernel
theorem d_Lw_law_39 : decode code 39 = .ok (.iand, 1) := by decide +kernel
theorem d_Lw_law_40 : decode code 40 = .ok (.tableswitch 502 0 8 #[52, 156, 192, 205, 218, 231, 299, 379, 446], 52) := by decide +kernel
theorem d_Lw_law_92 : decode code 92 = .ok (.aload_n 1, 1) := by decide +kernel
theorem d_Lw_law_93 : decode code 93 = .ok (.aload_n 0, 1) := by decide +kernel
theorem d_Lw_law_94 : decode code 94 = .ok (.iload 4, 2) := by decide +kernel
theorem d_Lw_law_96 : decode code 96 = .ok (.iconst 1, 1) := by decide +kernel
theorem d_Lw_law_97 : decode code 97 = .ok (.iadd, 1) := by decide +kernel
theorem d_Lw_law_98 : decode code 98 = .ok (.iaload, 1) := by decide +kernel
theorem d_Lw_law_99 : decode code 99 = .ok (.aload_n 0, 1) := by decide +kernel
theorem d_Lw_law_100 : decode code 100 = .ok (.iload 4, 2) := by decide +kernel
theorem d_Lw_law_102 : decode code 102 = .ok (.iconst 2, 1) := by decide +kernel
theorem d_Lw_law_103 : decode code 103 = .ok (.iadd, 1) := by decide +kernel
theorem d_Lw_law_104 : decode code 104 = .ok (.iaload, 1) := by decide +kernel
theorem d_Lw_law_105 : decode code 105 = .ok (.aload_n 0, 1) := by decide +kernel
theorem d_Lw_law_106 : decode code 106 = .ok (.iload 4, 2) := by decide +kernel
theorem d_Lw_law_108 : decode code 108 = .ok (.iconst 3, 1) := by decide +kernel
theorem d_Lw_law_109 : decode code 109 = .ok (.iadd, 1) := by decide +kernel
theorem d_Lw_law_110 : decode code 110 = .ok (.iaload, 1) := by decide +kernel
theorem d_Lw_law_111 : decode code 111 = .ok (.aload_n 0, 1) := by decide +kernel
theorem d_Lw_law_112 : decode code 112 = .ok (.iload 4, 2) := by decide +kernel
theorem d_Lw_law_114 : decode code 114 = .ok (.iconst 4, 1) := by decide +kernel
theorem d_Lw_law_115 : decode code 115 = .ok (.iadd, 1) := by decide +kernel
theorem d_Lw_law_116 : decode code 116 = .ok (.iaload, 1) := by decide +kernel
theorem d_Lw_law_117 : decode code 117 = .ok (.aload_n 0, 1) := by decide +kernel
theorem d_Lw_law_118 : decode code 118 = .ok (.iload 4, 2) := by decide +kernel
theorem d_Lw_law_120 : decode code 120 = .ok (.iconst 5, 1) := by decide +kernel
theorem d_Lw_law_121 : decode code 121 = .ok (.iadd, 1) := by decide +kernel
theorem d_Lw_law_122 : decode code 122 = .ok (.iaload, 1) := by decide +kernel
theorem d_Lw_law_123 : decode code 123 = .ok (.aload_n 3, 1) := by decide +kernel
theorem d_Lw_law_124 : decode code 124 = .ok (.invokestatic 43, 3) := by decide +kernel
theorem d_Lw_law_127 : decode code 127 = .ok (.istore 5, 2) := by decide +kernel
theorem d_Lw_law_129 : decode code 129 = .ok (.aload_n 2, 1) := by decide +kernel
theorem d_Lw_law_130 : decode code 130 = .ok (.aload_n 0, 1) := by decide +kernel
theorem d_Lw_law_131 : decode code 131 = .ok (.iload 4, 2) := by decide +kernel
theorem d_Lw_law_133 : decode code 133 = .ok (.iconst 1, 1) := by decide +kernel
theorem d_Lw_law_134 : decode code 134 = .ok (.iadd, 1) := by decide +kernel
theorem d_Lw_law_135 : decode code 135 = .ok (.iaload, 1) := by decide +kernel
theorem d_Lw_law_136 : decode code 136 = .ok (.aload_n 0, 1) := by decide +kernel
theorem d_Lw_law_137 : decode code 137 = .ok (.iload 4, 2) := by decide +kernel
theorem d_Lw_law_139 : decode code 139 = .ok (.iconst 2, 1) := by decide +kernel
theorem d_Lw_law_140 : decode code 140 = .ok (.iadd, 1) := by decide +kernel
theorem d_Lw_law_141 : decode code 141 = .ok (.iaload, 1) := by decide +kernel
theorem d_Lw_law_142 : decode code 142 = .ok (.aload_n 0, 1) := by decide +kernel
theorem d_Lw_law_143 : decode code 143 = .ok (.iload 4, 2) := by decide +kernel
theorem d_Lw_law_145 : decode code 145 = .ok (.iconst 3, 1) := by decide +kernel
theorem d_Lw_law_146 : decode code 146 = .ok (.iadd, 1) := by decide +kernel
theorem d_Lw_law_147 : decode code 147 = .ok (.iaload, 1) := by decide +kernel
theorem d_Lw_law_148 : decode code 148 = .ok (.aload_n 0, 1) := by decide +kernel
theorem d_Lw_law_149 : decode code 149 = .ok (.iload 4, 2) := by decide +kernel
theorem d_Lw_law_151 : decode code 151 = .ok (.iconst 4, 1) := by decide +kernel
theorem d_Lw_law_152 : decode code 152 = .ok (.iadd, 1) := by decide +kernel
theorem d_Lw_law_153 : decode code 153 = .ok (.iaload, 1) := by decide +kernel
theorem d_Lw_law_154 : decode code 154 = .ok (.aload_n 0, 1) := by decide +kernel
theorem d_Lw_law_155 : decode code 155 = .ok (.iload 4, 2) := by decide +kernel
theorem d_Lw_law_157 : decode code 157 = .ok (.iconst 5, 1) := by decide +kernel
theorem d_Lw_law_158 : decode code 158 = .ok (.iadd, 1) := by decide +kernel
theorem d_Lw_law_159 : decode code 159 = .ok (.iaload, 1) := by decide +kernel
theorem d_Lw_law_160 : decode code 160 = .ok (.invokevirtual 48, 3) := by decide +kernel
theorem d_Lw_law_163 : decode code 163 = .ok (.istore 6, 2) := by decide +kernel
theorem d_Lw_law_165 : decode code 165 = .ok (.aload_n 2, 1) := by decide +kernel
theorem d_Lw_law_166 : decode code 166 = .ok (.invokevirtual 49, 3) := by decide +kernel
theorem d_Lw_law_169 : decode code 169 = .ok (.iload 5, 2) := by decide +kernel
theorem d_Lw_law_171 : decode code 171 = .ok (.if_icmp .eq 5, 3) := by decide +kernel
theorem d_Lw_law_174 : decode code 174 = .ok (.iconst 0, 1) := by decide +kernel
theorem d_Lw_law_175 : decode code 175 = .ok (.ireturn, 1) := by decide +kernel
theorem d_Lw_law_176 : decode code 176 = .ok (.iload 5, 2) := by decide +kernel
theorem d_Lw_law_178 : decode code 178 = .ok (.ifCond .ne 15, 3) := by decide +kernel
theorem d_Lw_law_181 : decode code 181 = .ok (.aload_n 3, 1) := by decide +kernel
theorem d_Lw_law_182 : decode code 182 = .ok (.iconst 0, 1) := by decide +kernel
theorem d_Lw_law_183 : decode code 183 = .ok (.laload, 1) := by decide +kernel
theorem d_Lw_law_184 : decode code 184 = .ok (.iload 6, 2) := by decide +kernel
theorem d_Lw_law_186 : decode code 186 = .ok (.i2l, 1) := by decide +kernel
theorem d_Lw_law_187 : decode code 187 = .ok (.lcmp, 1) := by decide +kernel
theorem d_Lw_law_188 : decode code 188 = .ok (.ifCond .eq 5, 3) := by decide +kernel
theorem d_Lw_law_191 : decode code 191 = .ok (.iconst 0, 1) := by decide +kernel
theorem d_Lw_law_192 : decode code 192 = .ok (.ireturn, 1) := by decide +kernel
theorem d_Lw_law_193 : decode code 193 = .ok (.goto 349, 3) := by decide +kernel
theorem d_Lw_law_196 : decode code 196 = .ok (.aload_n 1, 1) := by decide +kernel
theorem d_Lw_law_197 : decode code 197 = .ok (.aload_n 0, 1) := by decide +kernel
theorem d_Lw_law_198 : decode code 198 = .ok (.iload 4, 2) := by decide +kernel
theorem d_Lw_law_200 : decode code 200 = .ok (.iconst 1, 1) := by decide +kernel
theorem d_Lw_law_201 : decode code 201 = .ok (.iadd, 1) := by decide +kernel
theorem d_Lw_law_202 : decode code 202 = .ok (.iaload, 1) := by decide +kernel
theorem d_Lw_law_203 : decode code 203 = .ok (.invokestatic 53, 3) := by decide +kernel
theorem d_Lw_law_206 : decode code 206 = .ok (.istore 5, 2) := by decide +kernel
theorem d_Lw_law_208 : decode code 208 = .ok (.aload_n 2, 1) := by decide +kernel
theorem d_Lw_law_209 : decode code 209 = .ok (.aload_n 0, 1) := by decide +kernel
theorem d_Lw_law_210 : decode code 210 = .ok (.iload 4, 2) := by decide +kernel
theorem d_Lw_law_212 : decode code 212 = .ok (.iconst 1, 1) := by decide +kernel
theorem d_Lw_law_213 : decode code 213 = .ok (.iadd, 1) := by decide +kernel
theorem d_Lw_law_214 : decode code 214 = .ok (.iaload, 1) := by decide +kernel
theorem d_Lw_law_215 : decode code 215 = .ok (.invokevirtual 56, 3) := by decide +kernel
theorem d_Lw_law_218 : decode code 218 = .ok (.aload_n 2, 1) := by decide +kernel
theorem d_Lw_law_219 : decode code 219 = .ok (.invokevirtual 49, 3) := by decide +kernel
theorem d_Lw_law_222 : decode code 222 = .ok (.iload 5, 2) := by decide +kernel
theorem d_Lw_law_224 : decode code 224 = .ok (.if_icmp .eq 5, 3) := by decide +kernel
theorem d_Lw_law_227 : decode code 227 = .ok (.iconst 0, 1) := by decide +kernel
theorem d_Lw_law_228 : decode code 228 = .ok (.ireturn, 1) := by decide +kernel
theorem d_Lw_law_229 : decode code 229 = .ok (.goto 313, 3) := by decide +kernel
theorem d_Lw_law_232 : decode code 232 = .ok (.aload_n 1, 1) := by decide +kernel
theorem d_Lw_law_233 : decode code 233 = .ok (.invokevirtual 57, 3) := by decide +kernel
theorem d_Lw_law_236 : decode code 236 = .ok (.aload_n 2, 1) := by decide +kernel
theorem d_Lw_law_237 : decode code 237 = .ok (.invokevirtual 60, 3) := by decide +kernel
theorem d_Lw_law_240 : decode code 240 = .ok (.if_icmp .eq 302, 3) := by decide +kernel
theorem d_Lw_law_243 : decode code 243 = .ok (.iconst 0, 1) := by decide +kernel
theorem d_Lw_law_244 : decode code 244 = .ok (.ireturn, 1) := by decide +kernel
theorem d_Lw_law_245 : decode code 245 = .ok (.aload_n 1, 1) := by decide +kernel
theorem d_Lw_law_246 : decode code 246 = .ok (.invokevirtual 61, 3) := by decide +kernel
theorem d_Lw_law_249 : decode code 249 = .ok (.aload_n 2, 1) := by decide +kernel
theorem d_Lw_law_250 : decode code 250 = .ok (.invokevirtual 64, 3) := by decide +kernel
theorem d_Lw_law_253 : decode code 253 = .ok (.if_icmp .eq 289, 3) := by decide +kernel
theorem d_Lw_law_256 : decode code 256 = .ok (.iconst 0, 1) := by decide +kernel
theorem d_Lw_law_257 : decode code 257 = .ok (.ireturn, 1) := by decide +kernel
theorem d_Lw_law_258 : decode code 258 = .ok (.aload_n 1, 1) := by decide +kernel
theorem d_Lw_law_259 : decode code 259 = .ok (.invokevirtual 65, 3) := by decide +kernel
theorem d_Lw_law_262 : decode code 262 = .ok (.aload_n 2, 1) := by decide +kernel
theorem d_Lw_law_263 : decode code 263 = .ok (.invokevirtual 68, 3) := by decide +kernel
theorem d_Lw_law_266 : decode code 266 = .ok (.if_icmp .eq 276, 3) := by decide +kernel
theorem d_Lw_law_269 : decode code 269 = .ok (.iconst 0, 1) := by decide +kernel
theorem d_Lw_law_270 : decode code 270 = .ok (.ireturn, 1) := by decide +kernel
theorem d_Lw_law_271 : decode code 271 = .ok (.aload_n 1, 1) := by decide +kernel
theorem d_Lw_law_272 : decode code 272 = .ok (.aload_n 0, 1) := by decide +kernel
theorem d_Lw_law_273 : decode code 273 = .ok (.iload 4, 2) := by decide +kernel
theorem d_Lw_law_275 : decode code 275 = .ok (.iconst 1, 1) := by decide +kernel
theorem d_Lw_law_276 : decode code 276 = .ok (.iadd, 1) := by decide +kernel
theorem d_Lw_law_277 : decode code 277 = .ok (.iaload, 1) := by decide +kernel
theorem d_Lw_law_278 : decode code 278 = .ok (.aload_n 0, 1) := by decide +kernel
theorem d_Lw_law_279 : decode code 279 = .ok (.iload 4, 2) := by decide +kernel
theorem d_Lw_law_281 : decode code 281 = .ok (.iconst 2, 1) := by decide +kernel
theorem d_Lw_law_282 : decode code 282 = .ok (.iadd, 1) := by decide +kernel
theorem d_Lw_law_283 : decode code 283 = .ok (.iaload, 1) := by decide +kernel
theorem d_Lw_law_284 : decode code 284 = .ok (.aload_n 3, 1) := by decide +kernel
theorem d_Lw_law_285 : decode code 285 = .ok (.invokestatic 69, 3) := by decide +kernel
theorem d_Lw_law_288 : decode code 288 = .ok (.istore 5, 2) := by decide +kernel
theorem d_Lw_law_290 : decode code 290 = .ok (.aload_n 2, 1) := by decide +kernel
theorem d_Lw_law_291 : decode code 291 = .ok (.aload_n 0, 1) := by decide +kernel
theorem d_Lw_law_292 : decode code 292 = .ok (.iload 4, 2) := by decide +kernel
theorem d_Lw_law_294 : decode code 294 = .ok (.iconst 1, 1) := by decide +kernel
theorem d_Lw_law_295 : decode code 295 = .ok (.iadd, 1) := by decide +kernel
theorem d_Lw_law_296 : decode code 296 = .ok (.iaload, 1) := by decide +kernel
theorem d_Lw_law_297 : decode code 297 = .ok (.aload_n 0, 1) := by decide +kernel
theorem d_Lw_law_298 : decode code 298 = .ok (.iload 4, 2) := by decide +kernel
theorem d_Lw_law_300 : decode code 300 = .ok (.iconst 2, 1) := by decide +kernel
theorem d_Lw_law_301 : decode code 301 = .ok (.iadd, 1) := by decide +kernel
theorem d_Lw_law_302 : decode code 302 = .ok (.iaload, 1) := by decide +kernel
theorem d_Lw_law_303 : decode code 303 = .ok (.invokevirtual 72, 3) := by decide +kernel
theorem d_Lw_law_306 : decode code 306 = .ok (.istore 6, 2) := by decide +kernel
theorem d_Lw_law_308 : decode code 308 = .ok (.aload_n 2, 1) := by decide +kernel
theorem d_Lw_law_309 : decode code 309 = .ok (.invokevirtual 49, 3) := by decide +kernel
theorem d_Lw_law_312 : decode code 312 = .ok (.iload 5, 2) := by decide +kernel
theorem d_Lw_law_314 : decode code 314 = .ok (.if_icmp .eq 5, 3) := by decide +kernel
theorem d_Lw_law_317 : decode code 317 = .ok (.iconst 0, 1) := by decide +kernel
theorem d_Lw_law_318 : decode code 318 = .ok (.ireturn, 1) := by decide +kernel
theorem d_Lw_law_319 : decode code 319 = .ok (.iload 5, 2) := by decide +kernel
theorem d_Lw_law_321 : decode code 321 = .ok (.ifCond .ne 15, 3) := by decide +kernel
theorem d_Lw_law_324 : decode code 324 = .ok (.aload_n 3, 1) := by decide +kernel
theorem d_Lw_law_325 : decode code 325 = .ok (.iconst 0, 1) := by decide +kernel
theorem d_Lw_law_326 : decode code 326 = .ok (.laload, 1) := by decide +kernel
theorem d_Lw_law_327 : decode code 327 = .ok (.iload 6, 2) := by decide +kernel
theorem d_Lw_law_329 : decode code 329 = .ok (.i2l, 1) := by decide +kernel
theorem d_Lw_law_330 : decode code 330 = .ok (.lcmp, 1) := by decide +kernel
theorem d_Lw_law_331 : decode code 331 = .ok (.ifCond .eq 5, 3) := by decide +kernel
theorem d_Lw_law_334 : decode code 334 = .ok (.iconst 0, 1) := by decide +kernel
theorem d_Lw_law_335 : decode code 335 = .ok (.ireturn, 1) := by decide +kernel
theorem d_Lw_law_336 : decode code 336 = .ok (.goto 206, 3) := by decide +kernel
theorem d_Lw_law_339 : decode code 339 = .ok (.aload_n 1, 1) := by decide +kernel
theorem d_Lw_law_340 : decode code 340 = .ok (.aload_n 0, 1) := by decide +kernel
theorem d_Lw_law_341 : decode code 341 = .ok (.iload 4, 2) := by decide +kernel
theorem d_Lw_law_343 : decode code 343 = .ok (.iconst 1, 1) := by decide +kernel
theorem d_Lw_law_344 : decode code 344 = .ok (.iadd, 1) := by decide +kernel
theorem d_Lw_law_345 : decode code 345 = .ok (.iaload, 1) := by decide +kernel
theorem d_Lw_law_346 : decode code 346 = .ok (.aload_n 0, 1) := by decide +kernel
theorem d_Lw_law_347 : decode code 347 = .ok (.iload 4, 2) := by decide +kernel
theorem d_Lw_law_349 : decode code 349 = .ok (.iconst 2, 1) := by decide +kernel
theorem d_Lw_law_350 : decode code 350 = .ok (.iadd, 1) := by decide +kernel
theorem d_Lw_law_351 : decode code 351 = .ok (.iaload, 1) := by decide +kernel
theorem d_Lw_law_352 : decode code 352 = .ok (.aload_n 0, 1) := by decide +kernel
theorem d_Lw_law_353 : decode code 353 = .ok (.iload 4, 2) := by decide +kernel
theorem d_Lw_law_355 : decode code 355 = .ok (.iconst 3, 1) := by decide +kernel
theorem d_Lw_law_356 : decode code 356 = .ok (.iadd, 1) := by decide +kernel
theorem d_Lw_law_357 : decode code 357 = .ok (.iaload, 1) := by decide +kernel
theorem d_Lw_law_358 : decode code 358 = .ok (.aload_n 3, 1) := by decide +kernel
theorem d_Lw_law_359 : decode code 359 = .ok (.invokestatic 73, 3) := by decide +kernel
theorem d_Lw_law_362 : decode code 362 = .ok (.istore 5, 2) := by decide +kernel
theorem d_Lw_law_364 : decode code 364 = .ok (.aload_n 2, 1) := by decide +kernel
theorem d_Lw_law_365 : decode code 365 = .ok (.aload_n 0, 1) := by decide +kernel
theorem d_Lw_law_366 : decode code 366 = .ok (.iload 4, 2) := by decide +kernel
theorem d_Lw_law_368 : decode code 368 = .ok (.iconst 1, 1) := by decide +kernel
theorem d_Lw_law_369 : decode code 369 = .ok (.iadd, 1) := by decide +kernel
theorem d_Lw_law_370 : decode code 370 = .ok (.iaload, 1) := by decide +kernel
theorem d_Lw_law_371 : decode code 371 = .ok (.aload_n 0, 1) := by decide +kernel
theorem d_Lw_law_372 : decode code 372 = .ok (.iload 4, 2) := by decide +kernel
theorem d_Lw_law_374 : decode code 374 = .ok (.iconst 2, 1) := by decide +kernel
theorem d_Lw_law_375 : decode code 375 = .ok (.iadd, 1) := by decide +kernel
theorem d_Lw_law_376 : decode code 376 = .ok (.iaload, 1) := by decide +kernel
theorem d_Lw_law_377 : decode code 377 = .ok (.aload_n 0, 1) := by decide +kernel
theorem d_Lw_law_378 : decode code 378 = .ok (.iload 4, 2) := by decide +kernel
theorem d_Lw_law_380 : decode code 380 = .ok (.iconst 3, 1) := by decide +kernel
theorem d_Lw_law_381 : decode code 381 = .ok (.iadd, 1) := by decide +kernel
theorem d_Lw_law_382 : decode code 382 = .ok (.iaload, 1) := by decide +kernel
theorem d_Lw_law_383 : decode code 383 = .ok (.invokevirtual 76, 3) := by decide +kernel
theorem d_Lw_law_386 : decode code 386 = .ok (.istore 6, 2) := by decide +kernel
theorem d_Lw_law_388 : decode code 388 = .ok (.aload_n 2, 1) := by decide +kernel
theorem d_Lw_law_389 : decode code 389 = .ok (.invokevirtual 49, 3) := by decide +kernel
theorem d_Lw_law_392 : decode code 392 = .ok (.iload 5, 2) := by decide +kernel
theorem d_Lw_law_394 : decode code 394 = .ok (.if_icmp .eq 5, 3) := by decide +kernel
theorem d_Lw_law_397 : decode code 397 = .ok (.iconst 0, 1) := by decide +kernel
theorem d_Lw_law_398 : decode code 398 = .ok (.ireturn, 1) := by decide +kernel
theorem d_Lw_law_399 : decode code 399 = .ok (.iload 5, 2) := by decide +kernel
theorem d_Lw_law_401 : decode code 401 = .ok (.ifCond .ne 15, 3) := by decide +kernel
theorem d_Lw_law_404 : decode code 404 = .ok (.aload_n 3, 1) := by decide +kernel
theorem d_Lw_law_405 : decode code 405 = .ok (.iconst 0, 1) := by decide +kernel
theorem d_Lw_law_406 : decode code 406 = .ok (.laload, 1) := by decide +kernel
theorem d_Lw_law_407 : decode code 407 = .ok (.iload 6, 2) := by decide +kernel
theorem d_Lw_law_409 : decode code 409 = .ok (.i2l, 1) := by decide +kernel
theorem d_Lw_law_410 : decode code 410 = .ok (.lcmp, 1) := by decide +kernel
theorem d_Lw_law_411 : decode code 411 = .ok (.ifCond .eq 5, 3) := by decide +kernel
theorem d_Lw_law_414 : decode code 414 = .ok (.iconst 0, 1) := by decide +kernel
theorem d_Lw_law_415 : decode code 415 = .ok (.ireturn, 1) := by decide +kernel
theorem d_Lw_law_416 : decode code 416 = .ok (.goto 126, 3) := by decide +kernel
theorem d_Lw_law_419 : decode code 419 = .ok (.aload_n 1, 1) := by decide +kernel
theorem d_Lw_law_420 : decode code 420 = .ok (.aload_n 0, 1) := by decide +kernel
theorem d_Lw_law_421 : decode code 421 = .ok (.iload 4, 2) := by decide +kernel
theorem d_Lw_law_423 : decode code 423 = .ok (.iconst 1, 1) := by decide +kernel
theorem d_Lw_law_424 : decode code 424 = .ok (.iadd, 1) := by decide +kernel
theorem d_Lw_law_425 : decode code 425 = .ok (.iaload, 1) := by decide +kernel
theorem d_Lw_law_426 : decode code 426 = .ok (.aload_n 0, 1) := by decide +kernel
theorem d_Lw_law_427 : decode code 427 = .ok (.iload 4, 2) := by decide +kernel
theorem d_Lw_law_429 : decode code 429 = .ok (.iconst 2, 1) := by decide +kernel
theorem d_Lw_law_430 : decode code 430 = .ok (.iadd, 1) := by decide +kernel
theorem d_Lw_law_431 : decode code 431 = .ok (.iaload, 1) := by decide +kernel
theorem d_Lw_law_432 : decode code 432 = .ok (.aload_n 3, 1) := by decide +kernel
theorem d_Lw_law_433 : decode code 433 = .ok (.invokestatic 77, 3) := by decide +kernel
theorem d_Lw_law_436 : decode code 436 = .ok (.istore 5, 2) := by decide +kernel
theorem d_Lw_law_438 : decode code 438 = .ok (.aload_n 2, 1) := by decide +kernel
theorem d_Lw_law_439 : decode code 439 = .ok (.aload_n 0, 1) := by decide +kernel
theorem d_Lw_law_440 : decode code 440 = .ok (.iload 4, 2) := by decide +kernel
theorem d_Lw_law_442 : decode code 442 = .ok (.iconst 1, 1) := by decide +kernel
theorem d_Lw_law_443 : decode code 443 = .ok (.iadd, 1) := by decide +kernel
theorem d_Lw_law_444 : decode code 444 = .ok (.iaload, 1) := by decide +kernel
theorem d_Lw_law_445 : decode code 445 = .ok (.aload_n 0, 1) := by decide +kernel
theorem d_Lw_law_446 : decode code 446 = .ok (.iload 4, 2) := by decide +kernel
theorem d_Lw_law_448 : decode code 448 = .ok (.iconst 2, 1) := by decide +kernel
theorem d_Lw_law_449 : decode code 449 = .ok (.iadd, 1) := by decide +kernel
theorem d_Lw_law_450 : decode code 450 = .ok (.iaload, 1) := by decide +kernel
theorem d_Lw_law_451 : decode code 451 = .ok (.invokevirtual 79, 3) := by decide +kernel
theorem d_Lw_law_454 : decode code 454 = .ok (.lstore 6, 2) := by decide +kernel
theorem d_Lw_law_456 : decode code 456 = .ok (.aload_n 2, 1) := by decide +kernel
theorem d_Lw_law_457 : decode code 457 = .ok (.invokevirtual 49, 3) := by decide +kernel
theorem d_Lw_law_460 : decode code 460 = .ok (.iload 5, 2) := by decide +kernel
theorem d_Lw_law_462 : decode code 462 = .ok (.if_icmp .eq 5, 3) := by decide +kernel
theorem d_Lw_law_465 : decode code 465 = .ok (.iconst 0, 1) := by decide +kernel
theorem d_Lw_law_466 : decode code 466 = .ok (.ireturn, 1) := by decide +kernel
theorem d_Lw_law_467 : decode code 467 = .ok (.iload 5, 2) := by decide +kernel
theorem d_Lw_law_469 : decode code 469 = .ok (.ifCond .ne 14, 3) := by decide +kernel
theorem d_Lw_law_472 : decode code 472 = .ok (.aload_n 3, 1) := by decide +kernel
theorem d_Lw_law_473 : decode code 473 = .ok (.iconst 0, 1) := by decide +kernel
theorem d_Lw_law_474 : decode code 474 = .ok (.laload, 1) := by decide +kernel
theorem d_Lw_law_475 : decode code 475 = .ok (.lload 6, 2) := by decide +kernel
theorem d_Lw_law_477 : decode code 477 = .ok (.lcmp, 1) := by decide +kernel
theorem d_Lw_law_478 : decode code 478 = .ok (.ifCond .eq 5, 3) := by decide +kernel
theorem d_Lw_law_481 : decode code 481 = .ok (.iconst 0, 1) := by decide +kernel
theorem d_Lw_law_482 : decode code 482 = .ok (.ireturn, 1) := by decide +kernel
theorem d_Lw_law_483 : decode code 483 = .ok (.goto 59, 3) := by decide +kernel
theorem d_Lw_law_486 : decode code 486 = .ok (.aload_n 1, 1) := by decide +kernel
theorem d_Lw_law_487 : decode code 487 = .ok (.aload_n 0, 1) := by decide +kernel
theorem d_Lw_law_488 : decode code 488 = .ok (.iload 4, 2) := by decide +kernel
theorem d_Lw_law_490 : decode code 490 = .ok (.iconst 1, 1) := by decide +kernel
theorem d_Lw_law_491 : decode code 491 = .ok (.iadd, 1) := by decide +kernel
theorem d_Lw_law_492 : decode code 492 = .ok (.iaload, 1) := by decide +kernel
theorem d_Lw_law_493 : decode code 493 = .ok (.aload_n 3, 1) := by decide +kernel
theorem d_Lw_law_494 : decode code 494 = .ok (.invokestatic 80, 3) := by decide +kernel
theorem d_Lw_law_497 : decode code 497 = .ok (.istore 5, 2) := by decide +kernel
theorem d_Lw_law_499 : decode code 499 = .ok (.aload_n 2, 1) := by decide +kernel
theorem d_Lw_law_500 : decode code 500 = .ok (.aload_n 0, 1) := by decide +kernel
theorem d_Lw_law_501 : decode code 501 = .ok (.iload 4, 2) := by decide +kernel
theorem d_Lw_law_503 : decode code 503 = .ok (.iconst 1, 1) := by decide +kernel
theorem d_Lw_law_504 : decode code 504 = .ok (.iadd, 1) := by decide +kernel
theorem d_Lw_law_505 : decode code 505 = .ok (.iaload, 1) := by decide +kernel
theorem d_Lw_law_506 : decode code 506 = .ok (.invokevirtual 83, 3) := by decide +kernel
theorem d_Lw_law_509 : decode code 509 = .ok (.istore 6, 2) := by decide +kernel
theorem d_Lw_law_511 : decode code 511 = .ok (.aload_n 2, 1) := by decide +kernel
theorem d_Lw_law_512 : decode code 512 = .ok (.invokevirtual 49, 3) := by decide +kernel
theorem d_Lw_law_515 : decode code 515 = .ok (.iload 5, 2) := by decide +kernel
theorem d_Lw_law_517 : decode code 517 = .ok (.if_icmp .eq 5, 3) := by decide +kernel
theorem d_Lw_law_520 : decode code 520 = .ok (.iconst 0, 1) := by decide +kernel
theorem d_Lw_law_521 : decode code 521 = .ok (.ireturn, 1) := by decide +kernel
theorem d_Lw_law_522 : decode code 522 = .ok (.iload 5, 2) := by decide +kernel
theorem d_Lw_law_524 : decode code 524 = .ok (.ifCond .ne 15, 3) := by decide +kernel
theorem d_Lw_law_527 : decode code 527 = .ok (.aload_n 3, 1) := by decide +kernel
theorem d_Lw_law_528 : decode code 528 = .ok (.iconst 0, 1) := by decide +kernel
theorem d_Lw_law_529 : decode code 529 = .ok (.laload, 1) := by decide +kernel
theorem d_Lw_law_530 : decode code 530 = .ok (.iload 6, 2) := by decide +kernel
theorem d_Lw_law_532 : decode code 532 = .ok (.i2l, 1) := by decide +kernel
theorem d_Lw_law_533 : decode code 533 = .ok (.lcmp, 1) := by decide +kernel
theorem d_Lw_law_534 : decode code 534 = .ok (.ifCond .eq 5, 3) := by decide +kernel
theorem d_Lw_law_537 : decode code 537 = .ok (.iconst 0, 1) := by decide +kernel
theorem d_Lw_law_538 : decode code 538 = .ok (.ireturn, 1) := by decide +kernel
theorem d_Lw_law_539 : decode code 539 = .ok (.goto 3, 3) := by decide +kernel
theorem d_Lw_law_542 : decode code 542 = .ok (.iinc 4 6, 3) := by decide +kernel
theorem d_Lw_law_545 : decode code 545 = .ok (.goto (-522), 3) := by decide +kernel
theorem d_Lw_law_548 : decode code 548 = .ok (.iconst 1, 1) := by decide +kernel
theorem d_Lw_law_549 : decode code 549 = .ok (.ireturn, 1) := by decide +kernel
theorem z_Lw_8 : cx_N "CircuitTextLaw" 8 0 [.null, .null, .int 0] := ⟨_, F_CT, t_CT, k_CT, (in_1 (List.mem_of_getElem? (i := 37) rfl)), (in_1 (List.mem_of_getElem? (i := 38) rfl)), (in_1 (List.mem_of_getElem? (i := 1) rfl)), fun j hj => by rcases (show j = 0 ∨ j = 1 ∨ j = 2 by have : j < 3 := hj; omega) with rfl | rfl | rfl <;> rfl⟩
theorem z_Lw_40 : cx_N "CircuitTextLaw" 40 12 [.int 0, .null, .int 0, .int 0, .null, .null, .null, .int 0, .int 0, .int 0, .int 0, .int 0, .int 0, .null, .null, .null, .null, .null, .int 0, .null, .null, .null, .null, .null, .null, .null, .null, .int 0, .null, .null, .null, .int 0, .null, .null, .null, .int 0, .null, .null, .int 0, .null, .null, .null, .int 0, .null, .int 0, .null, .null, .null, .int 0, .null, .int 0, .int 0, .null, .null, .int 0, .int 0, .null, .int 0] := ⟨_, F_Mo, t_Mo, k_Mo, (in_6 (List.mem_of_getElem? (i := 87) rfl)), (in_6 (List.mem_of_getElem? (i := 88) rfl)), (in_1 (List.mem_of_getElem? (i := 6) rfl)), fun j hj => by rcases (show j = 0 ∨ j = 1 ∨ j = 2 ∨ j = 3 ∨ j = 4 ∨ j = 5 ∨ j = 6 ∨ j = 7 ∨ j = 8 ∨ j = 9 ∨ j = 10 ∨ j = 11 ∨ j = 12 ∨ j = 13 ∨ j = 14 ∨ j = 15 ∨ j = 16 ∨ j = 17 ∨ j = 18 ∨ j = 19 ∨ j = 20 ∨ j = 21 ∨ j = 22 ∨ j = 23 ∨ j = 24 ∨ j = 25 ∨ j = 26 ∨ j = 27 ∨ j = 28 ∨ j = 29 ∨ j = 30 ∨ j = 31 ∨ j = 32 ∨ j = 33 ∨ j = 34 ∨ j = 35 ∨ j = 36 ∨ j = 37 ∨ j = 38 ∨ j = 39 ∨ j = 40 ∨ j = 41 ∨ j = 42 ∨ j = 43 ∨ j = 44 ∨ j = 45 ∨ j = 46 ∨ j = 47 ∨ j = 48 ∨ j = 49 ∨ j = 50 ∨ j = 51 ∨ j = 52 ∨ j = 53 ∨ j = 54 ∨ j = 55 ∨ j = 56 ∨ j = 57 by have : j < 58 := hj; omega) with rfl | rfl | rfl | rfl | rfl | rfl | rfl | rfl | rfl | rfl | rfl | rfl | rfl | rfl | rfl | rfl | rfl | rfl | rfl | rfl | rfl | rfl | rfl | rfl | rfl | rfl | rfl | rfl | rfl | rfl | rfl | rfl | rfl | rfl | rfl | rfl | rfl | rfl | rfl | rfl | rfl | rfl | rfl | rfl | rfl | rfl | rfl | rfl | rfl | rfl | rfl | rfl | rfl | rfl | rfl | rfl | rfl | rfl <;> rfl⟩
theorem l_Lw_39 : cx_LI "CircuitTextLaw" 39 m_CT_init := ⟨Or.inl (in_1 (List.mem_of_getElem? (i := 39) rfl)), w_CT_init, (in_1 (List.mem_of_getElem? (i := 40) rfl)), rfl, rfl, rfl, (in_1 (List.mem_of_getElem? (i := 41) rfl))⟩
theorem l_Lw_42 : cx_LI "CircuitTextLaw" 42 m_Mo_init := ⟨Or.inl (in_6 (List.mem_of_getElem? (i := 89) rfl)), w_Mo_init, (in_6 (List.mem_of_getElem? (i := 90) rfl)), rfl, rfl, rfl, (in_6 (List.mem_of_getElem? (i := 91) rfl))⟩
theorem l_Lw_43 : cx_LS "CircuitTextLaw" 43 m_Lw_feed := ⟨Or.inl (in_5 (List.mem_of_getElem? (i := 222) rfl)), w_Lw_feed, (in_5 (List.mem_of_getElem? (i := 223) rfl)), (in_1 (List.mem_of_getElem? (i := 0) rfl))⟩
theorem l_Lw_48 : cx_LV "CircuitTextLaw" 48 12 m_Mo_feed := ⟨Or.inl (in_8 (List.mem_of_getElem? (i := 77) rfl)), w_Mo_feed, (in_8 (List.mem_of_getElem? (i := 78) rfl)), _, rfl, (in_8 (List.mem_of_getElem? (i := 79) rfl))⟩
theorem l_Lw_49 : cx_LV "CircuitTextLaw" 49 12 m_Mo_thrown := ⟨Or.inl (in_7 (List.mem_of_getElem? (i := 32) rfl)), w_Mo_thrown, (in_7 (List.mem_of_getElem? (i := 33) rfl)), _, rfl, (in_7 (List.mem_of_getElem? (i := 34) rfl))⟩
theorem l_Lw_53 : cx_LS "CircuitTextLaw" 53 m_Lw_end := ⟨Or.inl (in_6 (List.mem_of_getElem? (i := 12) rfl)), w_Lw_end, (in_6 (List.mem_of_getElem? (i := 13) rfl)), (in_1 (List.mem_of_getElem? (i := 0) rfl))⟩
theorem l_Lw_56 : cx_LV "CircuitTextLaw" 56 12 m_Mo_end := ⟨Or.inl (in_8 (List.mem_of_getElem? (i := 81) rfl)), w_Mo_end, (in_8 (List.mem_of_getElem? (i := 82) rfl)), _, rfl, (in_8 (List.mem_of_getElem? (i := 83) rfl))⟩
theorem l_Lw_57 : cx_LV "CircuitTextLaw" 57 0 m_CT_read := ⟨Or.inl (in_1 (List.mem_of_getElem? (i := 97) rfl)), w_CT_read, (in_1 (List.mem_of_getElem? (i := 98) rfl)), _, rfl, (in_1 (List.mem_of_getElem? (i := 99) rfl))⟩
theorem l_Lw_60 : cx_LV "CircuitTextLaw" 60 12 m_Mo_read1 := ⟨Or.inl (in_7 (List.mem_of_getElem? (i := 36) rfl)), w_Mo_read1, (in_7 (List.mem_of_getElem? (i := 37) rfl)), _, rfl, (in_7 (List.mem_of_getElem? (i := 38) rfl))⟩
theorem l_Lw_61 : cx_LV "CircuitTextLaw" 61 0 m_CT_fault := ⟨Or.inl (in_5 (List.mem_of_getElem? (i := 213) rfl)), w_CT_fault, (in_5 (List.mem_of_getElem? (i := 214) rfl)), _, rfl, (in_5 (List.mem_of_getElem? (i := 215) rfl))⟩
theorem l_Lw_64 : cx_LV "CircuitTextLaw" 64 12 m_Mo_fault := ⟨Or.inl (in_8 (List.mem_of_getElem? (i := 85) rfl)), w_Mo_fault, (in_8 (List.mem_of_getElem? (i := 86) rfl)), _, rfl, (in_8 (List.mem_of_getElem? (i := 87) rfl))⟩
theorem l_Lw_65 : cx_LV "CircuitTextLaw" 65 0 m_CT_count := ⟨Or.inl (in_5 (List.mem_of_getElem? (i := 217) rfl)), w_CT_count, (in_5 (List.mem_of_getElem? (i := 218) rfl)), _, rfl, (in_5 (List.mem_of_getElem? (i := 219) rfl))⟩
theorem l_Lw_68 : cx_LV "CircuitTextLaw" 68 12 m_Mo_count := ⟨Or.inl (in_8 (List.mem_of_getElem? (i := 89) rfl)), w_Mo_count, (in_8 (List.mem_of_getElem? (i := 90) rfl)), _, rfl, (in_8 (List.mem_of_getElem? (i := 91) rfl))⟩
theorem l_Lw_69 : cx_LS "CircuitTextLaw" 69 m_Lw_module := ⟨Or.inl (in_6 (List.mem_of_getElem? (i := 23) rfl)), w_Lw_module, (in_6 (List.mem_of_getElem? (i := 24) rfl)), (in_1 (List.mem_of_getElem? (i := 0) rfl))⟩
theorem l_Lw_72 : cx_LV "CircuitTextLaw" 72 12 m_Mo_module2 := ⟨Or.inl (in_8 (List.mem_of_getElem? (i := 93) rfl)), w_Mo_module2, (in_8 (List.mem_of_getElem? (i := 94) rfl)), _, rfl, (in_8 (List.mem_of_getElem? (i := 95) rfl))⟩
theorem l_Lw_73 : cx_LS "CircuitTextLaw" 73 m_Lw_declared := ⟨Or.inl (in_6 (List.mem_of_getElem? (i := 54) rfl)), w_Lw_declared, (in_6 (List.mem_of_getElem? (i := 55) rfl)), (in_1 (List.mem_of_getElem? (i := 0) rfl))⟩
theorem l_Lw_76 : cx_LV "CircuitTextLaw" 76 12 m_Mo_declared := ⟨Or.inl (in_8 (List.mem_of_getElem? (i := 106) rfl)), w_Mo_declared, (in_8 (List.mem_of_getElem? (i := 107) rfl)), _, rfl, (in_8 (List.mem_of_getElem? (i := 108) rfl))⟩
theorem l_Lw_77 : cx_LS "CircuitTextLaw" 77 m_Lw_beginning := ⟨Or.inl (in_6 (List.mem_of_getElem? (i := 68) rfl)), w_Lw_beginning, (in_6 (List.mem_of_getElem? (i := 69) rfl)), (in_1 (List.mem_of_getElem? (i := 0) rfl))⟩
theorem l_Lw_79 : cx_LV "CircuitTextLaw" 79 12 m_Mo_beginning := ⟨Or.inl (in_8 (List.mem_of_getElem? (i := 114) rfl)), w_Mo_beginning, (in_8 (List.mem_of_getElem? (i := 115) rfl)), _, rfl, (in_8 (List.mem_of_getElem? (i := 116) rfl))⟩
theorem l_Lw_80 : cx_LS "CircuitTextLaw" 80 m_Lw_find := ⟨Or.inl (in_6 (List.mem_of_getElem? (i := 75) rfl)), w_Lw_find, (in_6 (List.mem_of_getElem? (i := 76) rfl)), (in_1 (List.mem_of_getElem? (i := 0) rfl))⟩
theorem l_Lw_83 : cx_LV "CircuitTextLaw" 83 12 m_Mo_find := ⟨Or.inl (in_8 (List.mem_of_getElem? (i := 118) rfl)), w_Mo_find, (in_8 (List.mem_of_getElem? (i := 119) rfl)), _, rfl, (in_8 (List.mem_of_getElem? (i := 120) rfl))⟩
