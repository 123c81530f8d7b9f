theorem d_L_law_0 : decode c_L_law 0 = .ok (.new 8, 3) := by decide +kernel
theorem d_L_law_3 : decode c_L_law 3 = .ok (.dup, 1) := by decide +kernel
theorem d_L_law_4 : decode c_L_law 4 = .ok (.invokespecial 28, 3) := by decide +kernel
theorem d_L_law_7 : decode c_L_law 7 = .ok (.astore_n 1, 1) := by decide +kernel
theorem d_L_law_8 : decode c_L_law 8 = .ok (.new 29, 3) := by decide +kernel
theorem d_L_law_11 : decode c_L_law 11 = .ok (.dup, 1) := by decide +kernel
theorem d_L_law_12 : decode c_L_law 12 = .ok (.invokespecial 31, 3) := by decide +kernel
theorem d_L_law_15 : decode c_L_law 15 = .ok (.astore_n 2, 1) := by decide +kernel
theorem d_L_law_16 : decode c_L_law 16 = .ok (.iconst 1, 1) := by decide +kernel
theorem d_L_law_17 : decode c_L_law 17 = .ok (.newarray .long, 2) := by decide +kernel
theorem d_L_law_19 : decode c_L_law 19 = .ok (.astore_n 3, 1) := by decide +kernel
theorem d_L_law_20 : decode c_L_law 20 = .ok (.iconst 0, 1) := by decide +kernel
theorem d_L_law_21 : decode c_L_law 21 = .ok (.istore 4, 2) := by decide +kernel
theorem d_L_law_23 : decode c_L_law 23 = .ok (.iload 4, 2) := by decide +kernel
theorem d_L_law_25 : decode c_L_law 25 = .ok (.aload_n 0, 1) := by decide +kernel
theorem d_L_law_26 : decode c_L_law 26 = .ok (.arraylength, 1) := by decide +kernel
theorem d_L_law_27 : decode c_L_law 27 = .ok (.iconst 3, 1) := by decide +kernel
theorem d_L_law_28 : decode c_L_law 28 = .ok (.isub, 1) := by decide +kernel
theorem d_L_law_29 : decode c_L_law 29 = .ok (.if_icmp .gt 449, 3) := by decide +kernel
theorem d_L_law_32 : decode c_L_law 32 = .ok (.aload_n 0, 1) := by decide +kernel
theorem d_L_law_33 : decode c_L_law 33 = .ok (.iload 4, 2) := by decide +kernel
theorem d_L_law_35 : decode c_L_law 35 = .ok (.iaload, 1) := by decide +kernel
theorem d_L_law_36 : decode c_L_law 36 = .ok (.bipush 15, 2) := by decide +kernel
theorem d_L_law_38 : decode c_L_law 38 = .ok (.iand, 1) := by decide +kernel
theorem d_L_law_39 : decode c_L_law 39 = .ok (.tableswitch 433 0 9 #[53, 128, 203, 259, 295, 308, 333, 346, 371, 408], 53) := by decide +kernel
theorem d_L_law_92 : decode c_L_law 92 = .ok (.aload_n 1, 1) := by decide +kernel
theorem d_L_law_93 : decode c_L_law 93 = .ok (.aload_n 0, 1) := by decide +kernel
theorem d_L_law_94 : decode c_L_law 94 = .ok (.iload 4, 2) := by decide +kernel
theorem d_L_law_96 : decode c_L_law 96 = .ok (.iconst 1, 1) := by decide +kernel
theorem d_L_law_97 : decode c_L_law 97 = .ok (.iadd, 1) := by decide +kernel
theorem d_L_law_98 : decode c_L_law 98 = .ok (.iaload, 1) := by decide +kernel
theorem d_L_law_99 : decode c_L_law 99 = .ok (.aload_n 0, 1) := by decide +kernel
theorem d_L_law_100 : decode c_L_law 100 = .ok (.iload 4, 2) := by decide +kernel
theorem d_L_law_102 : decode c_L_law 102 = .ok (.iconst 2, 1) := by decide +kernel
theorem d_L_law_103 : decode c_L_law 103 = .ok (.iadd, 1) := by decide +kernel
theorem d_L_law_104 : decode c_L_law 104 = .ok (.iaload, 1) := by decide +kernel
theorem d_L_law_105 : decode c_L_law 105 = .ok (.aload_n 3, 1) := by decide +kernel
theorem d_L_law_106 : decode c_L_law 106 = .ok (.invokestatic 32, 3) := by decide +kernel
theorem d_L_law_109 : decode c_L_law 109 = .ok (.istore 5, 2) := by decide +kernel
theorem d_L_law_111 : decode c_L_law 111 = .ok (.aload_n 2, 1) := by decide +kernel
theorem d_L_law_112 : decode c_L_law 112 = .ok (.aload_n 0, 1) := by decide +kernel
theorem d_L_law_113 : decode c_L_law 113 = .ok (.iload 4, 2) := by decide +kernel
theorem d_L_law_115 : decode c_L_law 115 = .ok (.iconst 1, 1) := by decide +kernel
theorem d_L_law_116 : decode c_L_law 116 = .ok (.iadd, 1) := by decide +kernel
theorem d_L_law_117 : decode c_L_law 117 = .ok (.iaload, 1) := by decide +kernel
theorem d_L_law_118 : decode c_L_law 118 = .ok (.aload_n 0, 1) := by decide +kernel
theorem d_L_law_119 : decode c_L_law 119 = .ok (.iload 4, 2) := by decide +kernel
theorem d_L_law_121 : decode c_L_law 121 = .ok (.iconst 2, 1) := by decide +kernel
theorem d_L_law_122 : decode c_L_law 122 = .ok (.iadd, 1) := by decide +kernel
theorem d_L_law_123 : decode c_L_law 123 = .ok (.iaload, 1) := by decide +kernel
theorem d_L_law_124 : decode c_L_law 124 = .ok (.invokevirtual 37, 3) := by decide +kernel
theorem d_L_law_127 : decode c_L_law 127 = .ok (.istore 6, 2) := by decide +kernel
theorem d_L_law_129 : decode c_L_law 129 = .ok (.aload_n 2, 1) := by decide +kernel
theorem d_L_law_130 : decode c_L_law 130 = .ok (.invokevirtual 38, 3) := by decide +kernel
theorem d_L_law_133 : decode c_L_law 133 = .ok (.iload 5, 2) := by decide +kernel
theorem d_L_law_135 : decode c_L_law 135 = .ok (.if_icmp .eq 5, 3) := by decide +kernel
theorem d_L_law_138 : decode c_L_law 138 = .ok (.iconst 0, 1) := by decide +kernel
theorem d_L_law_139 : decode c_L_law 139 = .ok (.ireturn, 1) := by decide +kernel
theorem d_L_law_140 : decode c_L_law 140 = .ok (.iload 5, 2) := by decide +kernel
theorem d_L_law_142 : decode c_L_law 142 = .ok (.ifCond .ne 22, 3) := by decide +kernel
theorem d_L_law_145 : decode c_L_law 145 = .ok (.aload_n 3, 1) := by decide +kernel
theorem d_L_law_146 : decode c_L_law 146 = .ok (.iconst 0, 1) := by decide +kernel
theorem d_L_law_147 : decode c_L_law 147 = .ok (.laload, 1) := by decide +kernel
theorem d_L_law_148 : decode c_L_law 148 = .ok (.iload 6, 2) := by decide +kernel
theorem d_L_law_150 : decode c_L_law 150 = .ok (.ifCond .eq 7, 3) := by decide +kernel
theorem d_L_law_153 : decode c_L_law 153 = .ok (.lconst 1, 1) := by decide +kernel
theorem d_L_law_154 : decode c_L_law 154 = .ok (.goto 4, 3) := by decide +kernel
theorem d_L_law_157 : decode c_L_law 157 = .ok (.lconst 0, 1) := by decide +kernel
theorem d_L_law_158 : decode c_L_law 158 = .ok (.lcmp, 1) := by decide +kernel
theorem d_L_law_159 : decode c_L_law 159 = .ok (.ifCond .eq 5, 3) := by decide +kernel
theorem d_L_law_162 : decode c_L_law 162 = .ok (.iconst 0, 1) := by decide +kernel
theorem d_L_law_163 : decode c_L_law 163 = .ok (.ireturn, 1) := by decide +kernel
theorem d_L_law_164 : decode c_L_law 164 = .ok (.goto 308, 3) := by decide +kernel
theorem d_L_law_167 : decode c_L_law 167 = .ok (.aload_n 1, 1) := by decide +kernel
theorem d_L_law_168 : decode c_L_law 168 = .ok (.aload_n 0, 1) := by decide +kernel
theorem d_L_law_169 : decode c_L_law 169 = .ok (.iload 4, 2) := by decide +kernel
theorem d_L_law_171 : decode c_L_law 171 = .ok (.iconst 1, 1) := by decide +kernel
theorem d_L_law_172 : decode c_L_law 172 = .ok (.iadd, 1) := by decide +kernel
theorem d_L_law_173 : decode c_L_law 173 = .ok (.iaload, 1) := by decide +kernel
theorem d_L_law_174 : decode c_L_law 174 = .ok (.aload_n 0, 1) := by decide +kernel
theorem d_L_law_175 : decode c_L_law 175 = .ok (.iload 4, 2) := by decide +kernel
theorem d_L_law_177 : decode c_L_law 177 = .ok (.iconst 2, 1) := by decide +kernel
theorem d_L_law_178 : decode c_L_law 178 = .ok (.iadd, 1) := by decide +kernel
theorem d_L_law_179 : decode c_L_law 179 = .ok (.iaload, 1) := by decide +kernel
theorem d_L_law_180 : decode c_L_law 180 = .ok (.aload_n 3, 1) := by decide +kernel
theorem d_L_law_181 : decode c_L_law 181 = .ok (.invokestatic 42, 3) := by decide +kernel
theorem d_L_law_184 : decode c_L_law 184 = .ok (.istore 5, 2) := by decide +kernel
theorem d_L_law_186 : decode c_L_law 186 = .ok (.aload_n 2, 1) := by decide +kernel
theorem d_L_law_187 : decode c_L_law 187 = .ok (.aload_n 0, 1) := by decide +kernel
theorem d_L_law_188 : decode c_L_law 188 = .ok (.iload 4, 2) := by decide +kernel
theorem d_L_law_190 : decode c_L_law 190 = .ok (.iconst 1, 1) := by decide +kernel
theorem d_L_law_191 : decode c_L_law 191 = .ok (.iadd, 1) := by decide +kernel
theorem d_L_law_192 : decode c_L_law 192 = .ok (.iaload, 1) := by decide +kernel
theorem d_L_law_193 : decode c_L_law 193 = .ok (.aload_n 0, 1) := by decide +kernel
theorem d_L_law_194 : decode c_L_law 194 = .ok (.iload 4, 2) := by decide +kernel
theorem d_L_law_196 : decode c_L_law 196 = .ok (.iconst 2, 1) := by decide +kernel
theorem d_L_law_197 : decode c_L_law 197 = .ok (.iadd, 1) := by decide +kernel
theorem d_L_law_198 : decode c_L_law 198 = .ok (.iaload, 1) := by decide +kernel
theorem d_L_law_199 : decode c_L_law 199 = .ok (.invokevirtual 44, 3) := by decide +kernel
theorem d_L_law_202 : decode c_L_law 202 = .ok (.istore 6, 2) := by decide +kernel
theorem d_L_law_204 : decode c_L_law 204 = .ok (.aload_n 2, 1) := by decide +kernel
theorem d_L_law_205 : decode c_L_law 205 = .ok (.invokevirtual 38, 3) := by decide +kernel
theorem d_L_law_208 : decode c_L_law 208 = .ok (.iload 5, 2) := by decide +kernel
theorem d_L_law_210 : decode c_L_law 210 = .ok (.if_icmp .eq 5, 3) := by decide +kernel
theorem d_L_law_213 : decode c_L_law 213 = .ok (.iconst 0, 1) := by decide +kernel
theorem d_L_law_214 : decode c_L_law 214 = .ok (.ireturn, 1) := by decide +kernel
theorem d_L_law_215 : decode c_L_law 215 = .ok (.iload 5, 2) := by decide +kernel
theorem d_L_law_217 : decode c_L_law 217 = .ok (.ifCond .ne 22, 3) := by decide +kernel
theorem d_L_law_220 : decode c_L_law 220 = .ok (.aload_n 3, 1) := by decide +kernel
theorem d_L_law_221 : decode c_L_law 221 = .ok (.iconst 0, 1) := by decide +kernel
theorem d_L_law_222 : decode c_L_law 222 = .ok (.laload, 1) := by decide +kernel
theorem d_L_law_223 : decode c_L_law 223 = .ok (.iload 6, 2) := by decide +kernel
theorem d_L_law_225 : decode c_L_law 225 = .ok (.ifCond .eq 7, 3) := by decide +kernel
theorem d_L_law_228 : decode c_L_law 228 = .ok (.lconst 1, 1) := by decide +kernel
theorem d_L_law_229 : decode c_L_law 229 = .ok (.goto 4, 3) := by decide +kernel
theorem d_L_law_232 : decode c_L_law 232 = .ok (.lconst 0, 1) := by decide +kernel
theorem d_L_law_233 : decode c_L_law 233 = .ok (.lcmp, 1) := by decide +kernel
theorem d_L_law_234 : decode c_L_law 234 = .ok (.ifCond .eq 5, 3) := by decide +kernel
theorem d_L_law_237 : decode c_L_law 237 = .ok (.iconst 0, 1) := by decide +kernel
theorem d_L_law_238 : decode c_L_law 238 = .ok (.ireturn, 1) := by decide +kernel
theorem d_L_law_239 : decode c_L_law 239 = .ok (.goto 233, 3) := by decide +kernel
theorem d_L_law_242 : decode c_L_law 242 = .ok (.aload_n 1, 1) := by decide +kernel
theorem d_L_law_243 : decode c_L_law 243 = .ok (.aload_n 0, 1) := by decide +kernel
theorem d_L_law_244 : decode c_L_law 244 = .ok (.iload 4, 2) := by decide +kernel
theorem d_L_law_246 : decode c_L_law 246 = .ok (.iconst 1, 1) := by decide +kernel
theorem d_L_law_247 : decode c_L_law 247 = .ok (.iadd, 1) := by decide +kernel
theorem d_L_law_248 : decode c_L_law 248 = .ok (.iaload, 1) := by decide +kernel
theorem d_L_law_249 : decode c_L_law 249 = .ok (.aload_n 3, 1) := by decide +kernel
theorem d_L_law_250 : decode c_L_law 250 = .ok (.invokestatic 45, 3) := by decide +kernel
theorem d_L_law_253 : decode c_L_law 253 = .ok (.istore 5, 2) := by decide +kernel
theorem d_L_law_255 : decode c_L_law 255 = .ok (.aload_n 2, 1) := by decide +kernel
theorem d_L_law_256 : decode c_L_law 256 = .ok (.aload_n 0, 1) := by decide +kernel
theorem d_L_law_257 : decode c_L_law 257 = .ok (.iload 4, 2) := by decide +kernel
theorem d_L_law_259 : decode c_L_law 259 = .ok (.iconst 1, 1) := by decide +kernel
theorem d_L_law_260 : decode c_L_law 260 = .ok (.iadd, 1) := by decide +kernel
theorem d_L_law_261 : decode c_L_law 261 = .ok (.iaload, 1) := by decide +kernel
theorem d_L_law_262 : decode c_L_law 262 = .ok (.invokevirtual 48, 3) := by decide +kernel
theorem d_L_law_265 : decode c_L_law 265 = .ok (.istore 6, 2) := by decide +kernel
theorem d_L_law_267 : decode c_L_law 267 = .ok (.aload_n 2, 1) := by decide +kernel
theorem d_L_law_268 : decode c_L_law 268 = .ok (.invokevirtual 38, 3) := by decide +kernel
theorem d_L_law_271 : decode c_L_law 271 = .ok (.iload 5, 2) := by decide +kernel
theorem d_L_law_273 : decode c_L_law 273 = .ok (.if_icmp .eq 5, 3) := by decide +kernel
theorem d_L_law_276 : decode c_L_law 276 = .ok (.iconst 0, 1) := by decide +kernel
theorem d_L_law_277 : decode c_L_law 277 = .ok (.ireturn, 1) := by decide +kernel
theorem d_L_law_278 : decode c_L_law 278 = .ok (.iload 5, 2) := by decide +kernel
theorem d_L_law_280 : decode c_L_law 280 = .ok (.ifCond .ne 15, 3) := by decide +kernel
theorem d_L_law_283 : decode c_L_law 283 = .ok (.aload_n 3, 1) := by decide +kernel
theorem d_L_law_284 : decode c_L_law 284 = .ok (.iconst 0, 1) := by decide +kernel
theorem d_L_law_285 : decode c_L_law 285 = .ok (.laload, 1) := by decide +kernel
theorem d_L_law_286 : decode c_L_law 286 = .ok (.iload 6, 2) := by decide +kernel
theorem d_L_law_288 : decode c_L_law 288 = .ok (.i2l, 1) := by decide +kernel
theorem d_L_law_289 : decode c_L_law 289 = .ok (.lcmp, 1) := by decide +kernel
theorem d_L_law_290 : decode c_L_law 290 = .ok (.ifCond .eq 5, 3) := by decide +kernel
theorem d_L_law_293 : decode c_L_law 293 = .ok (.iconst 0, 1) := by decide +kernel
theorem d_L_law_294 : decode c_L_law 294 = .ok (.ireturn, 1) := by decide +kernel
theorem d_L_law_295 : decode c_L_law 295 = .ok (.goto 177, 3) := by decide +kernel
theorem d_L_law_298 : decode c_L_law 298 = .ok (.aload_n 1, 1) := by decide +kernel
theorem d_L_law_299 : decode c_L_law 299 = .ok (.aload_n 0, 1) := by decide +kernel
theorem d_L_law_300 : decode c_L_law 300 = .ok (.iload 4, 2) := by decide +kernel
theorem d_L_law_302 : decode c_L_law 302 = .ok (.iconst 1, 1) := by decide +kernel
theorem d_L_law_303 : decode c_L_law 303 = .ok (.iadd, 1) := by decide +kernel
theorem d_L_law_304 : decode c_L_law 304 = .ok (.iaload, 1) := by decide +kernel
theorem d_L_law_305 : decode c_L_law 305 = .ok (.invokestatic 49, 3) := by decide +kernel
theorem d_L_law_308 : decode c_L_law 308 = .ok (.istore 5, 2) := by decide +kernel
theorem d_L_law_310 : decode c_L_law 310 = .ok (.aload_n 2, 1) := by decide +kernel
theorem d_L_law_311 : decode c_L_law 311 = .ok (.aload_n 0, 1) := by decide +kernel
theorem d_L_law_312 : decode c_L_law 312 = .ok (.iload 4, 2) := by decide +kernel
theorem d_L_law_314 : decode c_L_law 314 = .ok (.iconst 1, 1) := by decide +kernel
theorem d_L_law_315 : decode c_L_law 315 = .ok (.iadd, 1) := by decide +kernel
theorem d_L_law_316 : decode c_L_law 316 = .ok (.iaload, 1) := by decide +kernel
theorem d_L_law_317 : decode c_L_law 317 = .ok (.invokevirtual 52, 3) := by decide +kernel
theorem d_L_law_320 : decode c_L_law 320 = .ok (.aload_n 2, 1) := by decide +kernel
theorem d_L_law_321 : decode c_L_law 321 = .ok (.invokevirtual 38, 3) := by decide +kernel
theorem d_L_law_324 : decode c_L_law 324 = .ok (.iload 5, 2) := by decide +kernel
theorem d_L_law_326 : decode c_L_law 326 = .ok (.if_icmp .eq 5, 3) := by decide +kernel
theorem d_L_law_329 : decode c_L_law 329 = .ok (.iconst 0, 1) := by decide +kernel
theorem d_L_law_330 : decode c_L_law 330 = .ok (.ireturn, 1) := by decide +kernel
theorem d_L_law_331 : decode c_L_law 331 = .ok (.goto 141, 3) := by decide +kernel
theorem d_L_law_334 : decode c_L_law 334 = .ok (.aload_n 1, 1) := by decide +kernel
theorem d_L_law_335 : decode c_L_law 335 = .ok (.invokevirtual 53, 3) := by decide +kernel
theorem d_L_law_338 : decode c_L_law 338 = .ok (.aload_n 2, 1) := by decide +kernel
theorem d_L_law_339 : decode c_L_law 339 = .ok (.invokevirtual 56, 3) := by decide +kernel
theorem d_L_law_342 : decode c_L_law 342 = .ok (.if_icmp .eq 130, 3) := by decide +kernel
theorem d_L_law_345 : decode c_L_law 345 = .ok (.iconst 0, 1) := by decide +kernel
theorem d_L_law_346 : decode c_L_law 346 = .ok (.ireturn, 1) := by decide +kernel
theorem d_L_law_347 : decode c_L_law 347 = .ok (.aload_n 1, 1) := by decide +kernel
theorem d_L_law_348 : decode c_L_law 348 = .ok (.aload_n 0, 1) := by decide +kernel
theorem d_L_law_349 : decode c_L_law 349 = .ok (.iload 4, 2) := by decide +kernel
theorem d_L_law_351 : decode c_L_law 351 = .ok (.iconst 1, 1) := by decide +kernel
theorem d_L_law_352 : decode c_L_law 352 = .ok (.iadd, 1) := by decide +kernel
theorem d_L_law_353 : decode c_L_law 353 = .ok (.iaload, 1) := by decide +kernel
theorem d_L_law_354 : decode c_L_law 354 = .ok (.invokevirtual 57, 3) := by decide +kernel
theorem d_L_law_357 : decode c_L_law 357 = .ok (.aload_n 2, 1) := by decide +kernel
theorem d_L_law_358 : decode c_L_law 358 = .ok (.aload_n 0, 1) := by decide +kernel
theorem d_L_law_359 : decode c_L_law 359 = .ok (.iload 4, 2) := by decide +kernel
theorem d_L_law_361 : decode c_L_law 361 = .ok (.iconst 1, 1) := by decide +kernel
theorem d_L_law_362 : decode c_L_law 362 = .ok (.iadd, 1) := by decide +kernel
theorem d_L_law_363 : decode c_L_law 363 = .ok (.iaload, 1) := by decide +kernel
theorem d_L_law_364 : decode c_L_law 364 = .ok (.invokevirtual 60, 3) := by decide +kernel
theorem d_L_law_367 : decode c_L_law 367 = .ok (.if_icmp .eq 105, 3) := by decide +kernel
theorem d_L_law_370 : decode c_L_law 370 = .ok (.iconst 0, 1) := by decide +kernel
theorem d_L_law_371 : decode c_L_law 371 = .ok (.ireturn, 1) := by decide +kernel
theorem d_L_law_372 : decode c_L_law 372 = .ok (.aload_n 1, 1) := by decide +kernel
theorem d_L_law_373 : decode c_L_law 373 = .ok (.invokevirtual 61, 3) := by decide +kernel
theorem d_L_law_376 : decode c_L_law 376 = .ok (.aload_n 2, 1) := by decide +kernel
theorem d_L_law_377 : decode c_L_law 377 = .ok (.invokevirtual 64, 3) := by decide +kernel
theorem d_L_law_380 : decode c_L_law 380 = .ok (.if_icmp .eq 92, 3) := by decide +kernel
theorem d_L_law_383 : decode c_L_law 383 = .ok (.iconst 0, 1) := by decide +kernel
theorem d_L_law_384 : decode c_L_law 384 = .ok (.ireturn, 1) := by decide +kernel
theorem d_L_law_385 : decode c_L_law 385 = .ok (.aload_n 1, 1) := by decide +kernel
theorem d_L_law_386 : decode c_L_law 386 = .ok (.aload_n 0, 1) := by decide +kernel
theorem d_L_law_387 : decode c_L_law 387 = .ok (.iload 4, 2) := by decide +kernel
theorem d_L_law_389 : decode c_L_law 389 = .ok (.iconst 1, 1) := by decide +kernel
theorem d_L_law_390 : decode c_L_law 390 = .ok (.iadd, 1) := by decide +kernel
theorem d_L_law_391 : decode c_L_law 391 = .ok (.iaload, 1) := by decide +kernel
theorem d_L_law_392 : decode c_L_law 392 = .ok (.invokevirtual 65, 3) := by decide +kernel
theorem d_L_law_395 : decode c_L_law 395 = .ok (.aload_n 2, 1) := by decide +kernel
theorem d_L_law_396 : decode c_L_law 396 = .ok (.aload_n 0, 1) := by decide +kernel
theorem d_L_law_397 : decode c_L_law 397 = .ok (.iload 4, 2) := by decide +kernel
theorem d_L_law_399 : decode c_L_law 399 = .ok (.iconst 1, 1) := by decide +kernel
theorem d_L_law_400 : decode c_L_law 400 = .ok (.iadd, 1) := by decide +kernel
theorem d_L_law_401 : decode c_L_law 401 = .ok (.iaload, 1) := by decide +kernel
theorem d_L_law_402 : decode c_L_law 402 = .ok (.invokevirtual 69, 3) := by decide +kernel
theorem d_L_law_405 : decode c_L_law 405 = .ok (.if_icmp .eq 67, 3) := by decide +kernel
theorem d_L_law_408 : decode c_L_law 408 = .ok (.iconst 0, 1) := by decide +kernel
theorem d_L_law_409 : decode c_L_law 409 = .ok (.ireturn, 1) := by decide +kernel
theorem d_L_law_410 : decode c_L_law 410 = .ok (.aload_n 1, 1) := by decide +kernel
theorem d_L_law_411 : decode c_L_law 411 = .ok (.aload_n 0, 1) := by decide +kernel
theorem d_L_law_412 : decode c_L_law 412 = .ok (.iload 4, 2) := by decide +kernel
theorem d_L_law_414 : decode c_L_law 414 = .ok (.iconst 1, 1) := by decide +kernel
theorem d_L_law_415 : decode c_L_law 415 = .ok (.iadd, 1) := by decide +kernel
theorem d_L_law_416 : decode c_L_law 416 = .ok (.iaload, 1) := by decide +kernel
theorem d_L_law_417 : decode c_L_law 417 = .ok (.aload_n 0, 1) := by decide +kernel
theorem d_L_law_418 : decode c_L_law 418 = .ok (.iload 4, 2) := by decide +kernel
theorem d_L_law_420 : decode c_L_law 420 = .ok (.iconst 2, 1) := by decide +kernel
theorem d_L_law_421 : decode c_L_law 421 = .ok (.iadd, 1) := by decide +kernel
theorem d_L_law_422 : decode c_L_law 422 = .ok (.iaload, 1) := by decide +kernel
theorem d_L_law_423 : decode c_L_law 423 = .ok (.invokevirtual 70, 3) := by decide +kernel
theorem d_L_law_426 : decode c_L_law 426 = .ok (.aload_n 2, 1) := by decide +kernel
theorem d_L_law_427 : decode c_L_law 427 = .ok (.aload_n 0, 1) := by decide +kernel
theorem d_L_law_428 : decode c_L_law 428 = .ok (.iload 4, 2) := by decide +kernel
theorem d_L_law_430 : decode c_L_law 430 = .ok (.iconst 1, 1) := by decide +kernel
theorem d_L_law_431 : decode c_L_law 431 = .ok (.iadd, 1) := by decide +kernel
theorem d_L_law_432 : decode c_L_law 432 = .ok (.iaload, 1) := by decide +kernel
theorem d_L_law_433 : decode c_L_law 433 = .ok (.aload_n 0, 1) := by decide +kernel
theorem d_L_law_434 : decode c_L_law 434 = .ok (.iload 4, 2) := by decide +kernel
theorem d_L_law_436 : decode c_L_law 436 = .ok (.iconst 2, 1) := by decide +kernel
theorem d_L_law_437 : decode c_L_law 437 = .ok (.iadd, 1) := by decide +kernel
theorem d_L_law_438 : decode c_L_law 438 = .ok (.iaload, 1) := by decide +kernel
theorem d_L_law_439 : decode c_L_law 439 = .ok (.invokevirtual 74, 3) := by decide +kernel
theorem d_L_law_442 : decode c_L_law 442 = .ok (.if_icmp .eq 30, 3) := by decide +kernel
theorem d_L_law_445 : decode c_L_law 445 = .ok (.iconst 0, 1) := by decide +kernel
theorem d_L_law_446 : decode c_L_law 446 = .ok (.ireturn, 1) := by decide +kernel
theorem d_L_law_447 : decode c_L_law 447 = .ok (.aload_n 1, 1) := by decide +kernel
theorem d_L_law_448 : decode c_L_law 448 = .ok (.aload_n 0, 1) := by decide +kernel
theorem d_L_law_449 : decode c_L_law 449 = .ok (.iload 4, 2) := by decide +kernel
theorem d_L_law_451 : decode c_L_law 451 = .ok (.iconst 1, 1) := by decide +kernel
theorem d_L_law_452 : decode c_L_law 452 = .ok (.iadd, 1) := by decide +kernel
theorem d_L_law_453 : decode c_L_law 453 = .ok (.iaload, 1) := by decide +kernel
theorem d_L_law_454 : decode c_L_law 454 = .ok (.invokevirtual 75, 3) := by decide +kernel
theorem d_L_law_457 : decode c_L_law 457 = .ok (.aload_n 2, 1) := by decide +kernel
theorem d_L_law_458 : decode c_L_law 458 = .ok (.aload_n 0, 1) := by decide +kernel
theorem d_L_law_459 : decode c_L_law 459 = .ok (.iload 4, 2) := by decide +kernel
theorem d_L_law_461 : decode c_L_law 461 = .ok (.iconst 1, 1) := by decide +kernel
theorem d_L_law_462 : decode c_L_law 462 = .ok (.iadd, 1) := by decide +kernel
theorem d_L_law_463 : decode c_L_law 463 = .ok (.iaload, 1) := by decide +kernel
theorem d_L_law_464 : decode c_L_law 464 = .ok (.invokevirtual 78, 3) := by decide +kernel
theorem d_L_law_467 : decode c_L_law 467 = .ok (.if_icmp .eq 5, 3) := by decide +kernel
theorem d_L_law_470 : decode c_L_law 470 = .ok (.iconst 0, 1) := by decide +kernel
theorem d_L_law_471 : decode c_L_law 471 = .ok (.ireturn, 1) := by decide +kernel
theorem d_L_law_472 : decode c_L_law 472 = .ok (.iinc 4 3, 3) := by decide +kernel
theorem d_L_law_475 : decode c_L_law 475 = .ok (.goto (-452), 3) := by decide +kernel
theorem d_L_law_478 : decode c_L_law 478 = .ok (.iconst 1, 1) := by decide +kernel
theorem d_L_law_479 : decode c_L_law 479 = .ok (.ireturn, 1) := by decide +kernel
