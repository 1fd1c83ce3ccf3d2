/- CashLinkLaw.law([I)Z -/
abbrev c_L_law : ByteArray := code
def y_L_law : MethodName := ⟨"CashLinkLaw", "law", "([I)Z"⟩
theorem d_L_law_0 : decode c_L_law 0 = .ok (.new 8, 3) := by decide +kernel
theorem d_L_law_3 : decode c_L_law 3 = .ok (.dup, 1) := by decide +kernel
theorem d_L_law_4 : decode c_L_law 4 = .ok (.invokespecial 77, 3) := by decide +kernel
theorem d_L_law_7 : decode c_L_law 7 = .ok (.astore_n 1, 1) := by decide +kernel
theorem d_L_law_8 : decode c_L_law 8 = .ok (.new 78, 3) := by decide +kernel
theorem d_L_law_11 : decode c_L_law 11 = .ok (.dup, 1) := by decide +kernel
theorem d_L_law_12 : decode c_L_law 12 = .ok (.invokespecial 80, 3) := by decide +kernel
theorem d_L_law_15 : decode c_L_law 15 = .ok (.astore_n 2, 1) := by decide +kernel
theorem d_L_law_16 : decode c_L_law 16 = .ok (.iconst 1, 1) := by decide +kernel
theorem d_L_law_17 : decode c_L_law 17 = .ok (.newarray .long, 2) := by decide +kernel
theorem d_L_law_19 : decode c_L_law 19 = .ok (.astore_n 3, 1) := by decide +kernel
theorem d_L_law_20 : decode c_L_law 20 = .ok (.iconst 0, 1) := by decide +kernel
theorem d_L_law_21 : decode c_L_law 21 = .ok (.istore 4, 2) := by decide +kernel
theorem d_L_law_23 : decode c_L_law 23 = .ok (.iload 4, 2) := by decide +kernel
theorem d_L_law_25 : decode c_L_law 25 = .ok (.aload_n 0, 1) := by decide +kernel
theorem d_L_law_26 : decode c_L_law 26 = .ok (.arraylength, 1) := by decide +kernel
theorem d_L_law_27 : decode c_L_law 27 = .ok (.iconst 4, 1) := by decide +kernel
theorem d_L_law_28 : decode c_L_law 28 = .ok (.isub, 1) := by decide +kernel
theorem d_L_law_29 : decode c_L_law 29 = .ok (.if_icmp .gt 1120, 3) := by decide +kernel
theorem d_L_law_32 : decode c_L_law 32 = .ok (.aload_n 0, 1) := by decide +kernel
theorem d_L_law_33 : decode c_L_law 33 = .ok (.iload 4, 2) := by decide +kernel
theorem d_L_law_35 : decode c_L_law 35 = .ok (.iaload, 1) := by decide +kernel
theorem d_L_law_36 : decode c_L_law 36 = .ok (.bipush 31, 2) := by decide +kernel
theorem d_L_law_38 : decode c_L_law 38 = .ok (.iand, 1) := by decide +kernel
theorem d_L_law_39 : decode c_L_law 39 = .ok (.tableswitch 1104 0 16 #[81, 129, 204, 272, 308, 364, 420, 476, 524, 604, 664, 720, 788, 844, 900, 968, 1048], 81) := by decide +kernel
theorem d_L_law_120 : decode c_L_law 120 = .ok (.aload_n 1, 1) := by decide +kernel
theorem d_L_law_121 : decode c_L_law 121 = .ok (.aload_n 0, 1) := by decide +kernel
theorem d_L_law_122 : decode c_L_law 122 = .ok (.iload 4, 2) := by decide +kernel
theorem d_L_law_124 : decode c_L_law 124 = .ok (.iconst 1, 1) := by decide +kernel
theorem d_L_law_125 : decode c_L_law 125 = .ok (.iadd, 1) := by decide +kernel
theorem d_L_law_126 : decode c_L_law 126 = .ok (.iaload, 1) := by decide +kernel
theorem d_L_law_127 : decode c_L_law 127 = .ok (.aload_n 0, 1) := by decide +kernel
theorem d_L_law_128 : decode c_L_law 128 = .ok (.iload 4, 2) := by decide +kernel
theorem d_L_law_130 : decode c_L_law 130 = .ok (.iconst 2, 1) := by decide +kernel
theorem d_L_law_131 : decode c_L_law 131 = .ok (.iadd, 1) := by decide +kernel
theorem d_L_law_132 : decode c_L_law 132 = .ok (.iaload, 1) := by decide +kernel
theorem d_L_law_133 : decode c_L_law 133 = .ok (.invokestatic 81, 3) := by decide +kernel
theorem d_L_law_136 : decode c_L_law 136 = .ok (.istore 5, 2) := by decide +kernel
theorem d_L_law_138 : decode c_L_law 138 = .ok (.aload_n 2, 1) := by decide +kernel
theorem d_L_law_139 : decode c_L_law 139 = .ok (.aload_n 0, 1) := by decide +kernel
theorem d_L_law_140 : decode c_L_law 140 = .ok (.iload 4, 2) := by decide +kernel
theorem d_L_law_142 : decode c_L_law 142 = .ok (.iconst 1, 1) := by decide +kernel
theorem d_L_law_143 : decode c_L_law 143 = .ok (.iadd, 1) := by decide +kernel
theorem d_L_law_144 : decode c_L_law 144 = .ok (.iaload, 1) := by decide +kernel
theorem d_L_law_145 : decode c_L_law 145 = .ok (.aload_n 0, 1) := by decide +kernel
theorem d_L_law_146 : decode c_L_law 146 = .ok (.iload 4, 2) := by decide +kernel
theorem d_L_law_148 : decode c_L_law 148 = .ok (.iconst 2, 1) := by decide +kernel
theorem d_L_law_149 : decode c_L_law 149 = .ok (.iadd, 1) := by decide +kernel
theorem d_L_law_150 : decode c_L_law 150 = .ok (.iaload, 1) := by decide +kernel
theorem d_L_law_151 : decode c_L_law 151 = .ok (.invokevirtual 86, 3) := by decide +kernel
theorem d_L_law_154 : decode c_L_law 154 = .ok (.aload_n 2, 1) := by decide +kernel
theorem d_L_law_155 : decode c_L_law 155 = .ok (.invokevirtual 87, 3) := by decide +kernel
theorem d_L_law_158 : decode c_L_law 158 = .ok (.iload 5, 2) := by decide +kernel
theorem d_L_law_160 : decode c_L_law 160 = .ok (.if_icmp .eq 5, 3) := by decide +kernel
theorem d_L_law_163 : decode c_L_law 163 = .ok (.iconst 0, 1) := by decide +kernel
theorem d_L_law_164 : decode c_L_law 164 = .ok (.ireturn, 1) := by decide +kernel
theorem d_L_law_165 : decode c_L_law 165 = .ok (.goto 978, 3) := by decide +kernel
theorem d_L_law_168 : decode c_L_law 168 = .ok (.aload_n 1, 1) := by decide +kernel
theorem d_L_law_169 : decode c_L_law 169 = .ok (.aload_n 0, 1) := by decide +kernel
theorem d_L_law_170 : decode c_L_law 170 = .ok (.iload 4, 2) := by decide +kernel
theorem d_L_law_172 : decode c_L_law 172 = .ok (.iconst 1, 1) := by decide +kernel
theorem d_L_law_173 : decode c_L_law 173 = .ok (.iadd, 1) := by decide +kernel
theorem d_L_law_174 : decode c_L_law 174 = .ok (.iaload, 1) := by decide +kernel
theorem d_L_law_175 : decode c_L_law 175 = .ok (.aload_n 0, 1) := by decide +kernel
theorem d_L_law_176 : decode c_L_law 176 = .ok (.iload 4, 2) := by decide +kernel
theorem d_L_law_178 : decode c_L_law 178 = .ok (.iconst 2, 1) := by decide +kernel
theorem d_L_law_179 : decode c_L_law 179 = .ok (.iadd, 1) := by decide +kernel
theorem d_L_law_180 : decode c_L_law 180 = .ok (.iaload, 1) := by decide +kernel
theorem d_L_law_181 : decode c_L_law 181 = .ok (.aload_n 3, 1) := by decide +kernel
theorem d_L_law_182 : decode c_L_law 182 = .ok (.invokestatic 91, 3) := by decide +kernel
theorem d_L_law_185 : decode c_L_law 185 = .ok (.istore 5, 2) := by decide +kernel
theorem d_L_law_187 : decode c_L_law 187 = .ok (.aload_n 2, 1) := by decide +kernel
theorem d_L_law_188 : decode c_L_law 188 = .ok (.aload_n 0, 1) := by decide +kernel
theorem d_L_law_189 : decode c_L_law 189 = .ok (.iload 4, 2) := by decide +kernel
theorem d_L_law_191 : decode c_L_law 191 = .ok (.iconst 1, 1) := by decide +kernel
theorem d_L_law_192 : decode c_L_law 192 = .ok (.iadd, 1) := by decide +kernel
theorem d_L_law_193 : decode c_L_law 193 = .ok (.iaload, 1) := by decide +kernel
theorem d_L_law_194 : decode c_L_law 194 = .ok (.aload_n 0, 1) := by decide +kernel
theorem d_L_law_195 : decode c_L_law 195 = .ok (.iload 4, 2) := by decide +kernel
theorem d_L_law_197 : decode c_L_law 197 = .ok (.iconst 2, 1) := by decide +kernel
theorem d_L_law_198 : decode c_L_law 198 = .ok (.iadd, 1) := by decide +kernel
theorem d_L_law_199 : decode c_L_law 199 = .ok (.iaload, 1) := by decide +kernel
theorem d_L_law_200 : decode c_L_law 200 = .ok (.invokevirtual 94, 3) := by decide +kernel
theorem d_L_law_203 : decode c_L_law 203 = .ok (.istore 6, 2) := by decide +kernel
theorem d_L_law_205 : decode c_L_law 205 = .ok (.aload_n 2, 1) := by decide +kernel
theorem d_L_law_206 : decode c_L_law 206 = .ok (.invokevirtual 87, 3) := by decide +kernel
theorem d_L_law_209 : decode c_L_law 209 = .ok (.iload 5, 2) := by decide +kernel
theorem d_L_law_211 : decode c_L_law 211 = .ok (.if_icmp .eq 5, 3) := by decide +kernel
theorem d_L_law_214 : decode c_L_law 214 = .ok (.iconst 0, 1) := by decide +kernel
theorem d_L_law_215 : decode c_L_law 215 = .ok (.ireturn, 1) := by decide +kernel
theorem d_L_law_216 : decode c_L_law 216 = .ok (.iload 5, 2) := by decide +kernel
theorem d_L_law_218 : decode c_L_law 218 = .ok (.ifCond .ne 22, 3) := by decide +kernel
theorem d_L_law_221 : decode c_L_law 221 = .ok (.aload_n 3, 1) := by decide +kernel
theorem d_L_law_222 : decode c_L_law 222 = .ok (.iconst 0, 1) := by decide +kernel
theorem d_L_law_223 : decode c_L_law 223 = .ok (.laload, 1) := by decide +kernel
theorem d_L_law_224 : decode c_L_law 224 = .ok (.iload 6, 2) := by decide +kernel
theorem d_L_law_226 : decode c_L_law 226 = .ok (.ifCond .eq 7, 3) := by decide +kernel
theorem d_L_law_229 : decode c_L_law 229 = .ok (.lconst 1, 1) := by decide +kernel
theorem d_L_law_230 : decode c_L_law 230 = .ok (.goto 4, 3) := by decide +kernel
theorem d_L_law_233 : decode c_L_law 233 = .ok (.lconst 0, 1) := by decide +kernel
theorem d_L_law_234 : decode c_L_law 234 = .ok (.lcmp, 1) := by decide +kernel
theorem d_L_law_235 : decode c_L_law 235 = .ok (.ifCond .eq 5, 3) := by decide +kernel
theorem d_L_law_238 : decode c_L_law 238 = .ok (.iconst 0, 1) := by decide +kernel
theorem d_L_law_239 : decode c_L_law 239 = .ok (.ireturn, 1) := by decide +kernel
theorem d_L_law_240 : decode c_L_law 240 = .ok (.goto 903, 3) := by decide +kernel
theorem d_L_law_243 : decode c_L_law 243 = .ok (.aload_n 1, 1) := by decide +kernel
theorem d_L_law_244 : decode c_L_law 244 = .ok (.aload_n 0, 1) := by decide +kernel
theorem d_L_law_245 : decode c_L_law 245 = .ok (.iload 4, 2) := by decide +kernel
theorem d_L_law_247 : decode c_L_law 247 = .ok (.iconst 1, 1) := by decide +kernel
theorem d_L_law_248 : decode c_L_law 248 = .ok (.iadd, 1) := by decide +kernel
theorem d_L_law_249 : decode c_L_law 249 = .ok (.iaload, 1) := by decide +kernel
theorem d_L_law_250 : decode c_L_law 250 = .ok (.aload_n 0, 1) := by decide +kernel
theorem d_L_law_251 : decode c_L_law 251 = .ok (.iload 4, 2) := by decide +kernel
theorem d_L_law_253 : decode c_L_law 253 = .ok (.iconst 2, 1) := by decide +kernel
theorem d_L_law_254 : decode c_L_law 254 = .ok (.iadd, 1) := by decide +kernel
theorem d_L_law_255 : decode c_L_law 255 = .ok (.iaload, 1) := by decide +kernel
theorem d_L_law_256 : decode c_L_law 256 = .ok (.aload_n 3, 1) := by decide +kernel
theorem d_L_law_257 : decode c_L_law 257 = .ok (.invokestatic 95, 3) := by decide +kernel
theorem d_L_law_260 : decode c_L_law 260 = .ok (.istore 5, 2) := by decide +kernel
theorem d_L_law_262 : decode c_L_law 262 = .ok (.aload_n 2, 1) := by decide +kernel
theorem d_L_law_263 : decode c_L_law 263 = .ok (.aload_n 0, 1) := by decide +kernel
theorem d_L_law_264 : decode c_L_law 264 = .ok (.iload 4, 2) := by decide +kernel
theorem d_L_law_266 : decode c_L_law 266 = .ok (.iconst 1, 1) := by decide +kernel
theorem d_L_law_267 : decode c_L_law 267 = .ok (.iadd, 1) := by decide +kernel
theorem d_L_law_268 : decode c_L_law 268 = .ok (.iaload, 1) := by decide +kernel
theorem d_L_law_269 : decode c_L_law 269 = .ok (.aload_n 0, 1) := by decide +kernel
theorem d_L_law_270 : decode c_L_law 270 = .ok (.iload 4, 2) := by decide +kernel
theorem d_L_law_272 : decode c_L_law 272 = .ok (.iconst 2, 1) := by decide +kernel
theorem d_L_law_273 : decode c_L_law 273 = .ok (.iadd, 1) := by decide +kernel
theorem d_L_law_274 : decode c_L_law 274 = .ok (.iaload, 1) := by decide +kernel
theorem d_L_law_275 : decode c_L_law 275 = .ok (.invokevirtual 97, 3) := by decide +kernel
theorem d_L_law_278 : decode c_L_law 278 = .ok (.istore 6, 2) := by decide +kernel
theorem d_L_law_280 : decode c_L_law 280 = .ok (.aload_n 2, 1) := by decide +kernel
theorem d_L_law_281 : decode c_L_law 281 = .ok (.invokevirtual 87, 3) := by decide +kernel
theorem d_L_law_284 : decode c_L_law 284 = .ok (.iload 5, 2) := by decide +kernel
theorem d_L_law_286 : decode c_L_law 286 = .ok (.if_icmp .eq 5, 3) := by decide +kernel
theorem d_L_law_289 : decode c_L_law 289 = .ok (.iconst 0, 1) := by decide +kernel
theorem d_L_law_290 : decode c_L_law 290 = .ok (.ireturn, 1) := by decide +kernel
theorem d_L_law_291 : decode c_L_law 291 = .ok (.iload 5, 2) := by decide +kernel
theorem d_L_law_293 : decode c_L_law 293 = .ok (.ifCond .ne 15, 3) := by decide +kernel
theorem d_L_law_296 : decode c_L_law 296 = .ok (.aload_n 3, 1) := by decide +kernel
theorem d_L_law_297 : decode c_L_law 297 = .ok (.iconst 0, 1) := by decide +kernel
theorem d_L_law_298 : decode c_L_law 298 = .ok (.laload, 1) := by decide +kernel
theorem d_L_law_299 : decode c_L_law 299 = .ok (.iload 6, 2) := by decide +kernel
theorem d_L_law_301 : decode c_L_law 301 = .ok (.i2l, 1) := by decide +kernel
theorem d_L_law_302 : decode c_L_law 302 = .ok (.lcmp, 1) := by decide +kernel
theorem d_L_law_303 : decode c_L_law 303 = .ok (.ifCond .eq 5, 3) := by decide +kernel
theorem d_L_law_306 : decode c_L_law 306 = .ok (.iconst 0, 1) := by decide +kernel
theorem d_L_law_307 : decode c_L_law 307 = .ok (.ireturn, 1) := by decide +kernel
theorem d_L_law_308 : decode c_L_law 308 = .ok (.goto 835, 3) := by decide +kernel
theorem d_L_law_311 : decode c_L_law 311 = .ok (.aload_n 1, 1) := by decide +kernel
theorem d_L_law_312 : decode c_L_law 312 = .ok (.aload_n 0, 1) := by decide +kernel
theorem d_L_law_313 : decode c_L_law 313 = .ok (.iload 4, 2) := by decide +kernel
theorem d_L_law_315 : decode c_L_law 315 = .ok (.iconst 1, 1) := by decide +kernel
theorem d_L_law_316 : decode c_L_law 316 = .ok (.iadd, 1) := by decide +kernel
theorem d_L_law_317 : decode c_L_law 317 = .ok (.iaload, 1) := by decide +kernel
theorem d_L_law_318 : decode c_L_law 318 = .ok (.invokestatic 98, 3) := by decide +kernel
theorem d_L_law_321 : decode c_L_law 321 = .ok (.istore 5, 2) := by decide +kernel
theorem d_L_law_323 : decode c_L_law 323 = .ok (.aload_n 2, 1) := by decide +kernel
theorem d_L_law_324 : decode c_L_law 324 = .ok (.aload_n 0, 1) := by decide +kernel
theorem d_L_law_325 : decode c_L_law 325 = .ok (.iload 4, 2) := by decide +kernel
theorem d_L_law_327 : decode c_L_law 327 = .ok (.iconst 1, 1) := by decide +kernel
theorem d_L_law_328 : decode c_L_law 328 = .ok (.iadd, 1) := by decide +kernel
theorem d_L_law_329 : decode c_L_law 329 = .ok (.iaload, 1) := by decide +kernel
theorem d_L_law_330 : decode c_L_law 330 = .ok (.invokevirtual 101, 3) := by decide +kernel
theorem d_L_law_333 : decode c_L_law 333 = .ok (.aload_n 2, 1) := by decide +kernel
theorem d_L_law_334 : decode c_L_law 334 = .ok (.invokevirtual 87, 3) := by decide +kernel
theorem d_L_law_337 : decode c_L_law 337 = .ok (.iload 5, 2) := by decide +kernel
theorem d_L_law_339 : decode c_L_law 339 = .ok (.if_icmp .eq 5, 3) := by decide +kernel
theorem d_L_law_342 : decode c_L_law 342 = .ok (.iconst 0, 1) := by decide +kernel
theorem d_L_law_343 : decode c_L_law 343 = .ok (.ireturn, 1) := by decide +kernel
theorem d_L_law_344 : decode c_L_law 344 = .ok (.goto 799, 3) := by decide +kernel
theorem d_L_law_347 : decode c_L_law 347 = .ok (.aload_n 1, 1) := by decide +kernel
theorem d_L_law_348 : decode c_L_law 348 = .ok (.aload_n 0, 1) := by decide +kernel
theorem d_L_law_349 : decode c_L_law 349 = .ok (.iload 4, 2) := by decide +kernel
theorem d_L_law_351 : decode c_L_law 351 = .ok (.iconst 1, 1) := by decide +kernel
theorem d_L_law_352 : decode c_L_law 352 = .ok (.iadd, 1) := by decide +kernel
theorem d_L_law_353 : decode c_L_law 353 = .ok (.iaload, 1) := by decide +kernel
theorem d_L_law_354 : decode c_L_law 354 = .ok (.aload_n 3, 1) := by decide +kernel
theorem d_L_law_355 : decode c_L_law 355 = .ok (.invokestatic 102, 3) := by decide +kernel
theorem d_L_law_358 : decode c_L_law 358 = .ok (.istore 5, 2) := by decide +kernel
theorem d_L_law_360 : decode c_L_law 360 = .ok (.aload_n 2, 1) := by decide +kernel
theorem d_L_law_361 : decode c_L_law 361 = .ok (.aload_n 0, 1) := by decide +kernel
theorem d_L_law_362 : decode c_L_law 362 = .ok (.iload 4, 2) := by decide +kernel
theorem d_L_law_364 : decode c_L_law 364 = .ok (.iconst 1, 1) := by decide +kernel
theorem d_L_law_365 : decode c_L_law 365 = .ok (.iadd, 1) := by decide +kernel
theorem d_L_law_366 : decode c_L_law 366 = .ok (.iaload, 1) := by decide +kernel
theorem d_L_law_367 : decode c_L_law 367 = .ok (.invokevirtual 105, 3) := by decide +kernel
theorem d_L_law_370 : decode c_L_law 370 = .ok (.istore 6, 2) := by decide +kernel
theorem d_L_law_372 : decode c_L_law 372 = .ok (.aload_n 2, 1) := by decide +kernel
theorem d_L_law_373 : decode c_L_law 373 = .ok (.invokevirtual 87, 3) := by decide +kernel
theorem d_L_law_376 : decode c_L_law 376 = .ok (.iload 5, 2) := by decide +kernel
theorem d_L_law_378 : decode c_L_law 378 = .ok (.if_icmp .eq 5, 3) := by decide +kernel
theorem d_L_law_381 : decode c_L_law 381 = .ok (.iconst 0, 1) := by decide +kernel
theorem d_L_law_382 : decode c_L_law 382 = .ok (.ireturn, 1) := by decide +kernel
theorem d_L_law_383 : decode c_L_law 383 = .ok (.iload 5, 2) := by decide +kernel
theorem d_L_law_385 : decode c_L_law 385 = .ok (.ifCond .ne 15, 3) := by decide +kernel
theorem d_L_law_388 : decode c_L_law 388 = .ok (.aload_n 3, 1) := by decide +kernel
theorem d_L_law_389 : decode c_L_law 389 = .ok (.iconst 0, 1) := by decide +kernel
theorem d_L_law_390 : decode c_L_law 390 = .ok (.laload, 1) := by decide +kernel
theorem d_L_law_391 : decode c_L_law 391 = .ok (.iload 6, 2) := by decide +kernel
theorem d_L_law_393 : decode c_L_law 393 = .ok (.i2l, 1) := by decide +kernel
theorem d_L_law_394 : decode c_L_law 394 = .ok (.lcmp, 1) := by decide +kernel
theorem d_L_law_395 : decode c_L_law 395 = .ok (.ifCond .eq 5, 3) := by decide +kernel
theorem d_L_law_398 : decode c_L_law 398 = .ok (.iconst 0, 1) := by decide +kernel
theorem d_L_law_399 : decode c_L_law 399 = .ok (.ireturn, 1) := by decide +kernel
theorem d_L_law_400 : decode c_L_law 400 = .ok (.goto 743, 3) := by decide +kernel
theorem d_L_law_403 : decode c_L_law 403 = .ok (.aload_n 1, 1) := by decide +kernel
theorem d_L_law_404 : decode c_L_law 404 = .ok (.aload_n 0, 1) := by decide +kernel
theorem d_L_law_405 : decode c_L_law 405 = .ok (.iload 4, 2) := by decide +kernel
theorem d_L_law_407 : decode c_L_law 407 = .ok (.iconst 1, 1) := by decide +kernel
theorem d_L_law_408 : decode c_L_law 408 = .ok (.iadd, 1) := by decide +kernel
theorem d_L_law_409 : decode c_L_law 409 = .ok (.iaload, 1) := by decide +kernel
theorem d_L_law_410 : decode c_L_law 410 = .ok (.aload_n 3, 1) := by decide +kernel
theorem d_L_law_411 : decode c_L_law 411 = .ok (.invokestatic 106, 3) := by decide +kernel
theorem d_L_law_414 : decode c_L_law 414 = .ok (.istore 5, 2) := by decide +kernel
theorem d_L_law_416 : decode c_L_law 416 = .ok (.aload_n 2, 1) := by decide +kernel
theorem d_L_law_417 : decode c_L_law 417 = .ok (.aload_n 0, 1) := by decide +kernel
theorem d_L_law_418 : decode c_L_law 418 = .ok (.iload 4, 2) := by decide +kernel
theorem d_L_law_420 : decode c_L_law 420 = .ok (.iconst 1, 1) := by decide +kernel
theorem d_L_law_421 : decode c_L_law 421 = .ok (.iadd, 1) := by decide +kernel
theorem d_L_law_422 : decode c_L_law 422 = .ok (.iaload, 1) := by decide +kernel
theorem d_L_law_423 : decode c_L_law 423 = .ok (.invokevirtual 108, 3) := by decide +kernel
theorem d_L_law_426 : decode c_L_law 426 = .ok (.istore 6, 2) := by decide +kernel
theorem d_L_law_428 : decode c_L_law 428 = .ok (.aload_n 2, 1) := by decide +kernel
theorem d_L_law_429 : decode c_L_law 429 = .ok (.invokevirtual 87, 3) := by decide +kernel
theorem d_L_law_432 : decode c_L_law 432 = .ok (.iload 5, 2) := by decide +kernel
theorem d_L_law_434 : decode c_L_law 434 = .ok (.if_icmp .eq 5, 3) := by decide +kernel
theorem d_L_law_437 : decode c_L_law 437 = .ok (.iconst 0, 1) := by decide +kernel
theorem d_L_law_438 : decode c_L_law 438 = .ok (.ireturn, 1) := by decide +kernel
theorem d_L_law_439 : decode c_L_law 439 = .ok (.iload 5, 2) := by decide +kernel
theorem d_L_law_441 : decode c_L_law 441 = .ok (.ifCond .ne 15, 3) := by decide +kernel
theorem d_L_law_444 : decode c_L_law 444 = .ok (.aload_n 3, 1) := by decide +kernel
theorem d_L_law_445 : decode c_L_law 445 = .ok (.iconst 0, 1) := by decide +kernel
theorem d_L_law_446 : decode c_L_law 446 = .ok (.laload, 1) := by decide +kernel
theorem d_L_law_447 : decode c_L_law 447 = .ok (.iload 6, 2) := by decide +kernel
theorem d_L_law_449 : decode c_L_law 449 = .ok (.i2l, 1) := by decide +kernel
theorem d_L_law_450 : decode c_L_law 450 = .ok (.lcmp, 1) := by decide +kernel
theorem d_L_law_451 : decode c_L_law 451 = .ok (.ifCond .eq 5, 3) := by decide +kernel
theorem d_L_law_454 : decode c_L_law 454 = .ok (.iconst 0, 1) := by decide +kernel
theorem d_L_law_455 : decode c_L_law 455 = .ok (.ireturn, 1) := by decide +kernel
theorem d_L_law_456 : decode c_L_law 456 = .ok (.goto 687, 3) := by decide +kernel
theorem d_L_law_459 : decode c_L_law 459 = .ok (.aload_n 1, 1) := by decide +kernel
theorem d_L_law_460 : decode c_L_law 460 = .ok (.aload_n 0, 1) := by decide +kernel
theorem d_L_law_461 : decode c_L_law 461 = .ok (.iload 4, 2) := by decide +kernel
theorem d_L_law_463 : decode c_L_law 463 = .ok (.iconst 1, 1) := by decide +kernel
theorem d_L_law_464 : decode c_L_law 464 = .ok (.iadd, 1) := by decide +kernel
theorem d_L_law_465 : decode c_L_law 465 = .ok (.iaload, 1) := by decide +kernel
theorem d_L_law_466 : decode c_L_law 466 = .ok (.aload_n 3, 1) := by decide +kernel
theorem d_L_law_467 : decode c_L_law 467 = .ok (.invokestatic 109, 3) := by decide +kernel
theorem d_L_law_470 : decode c_L_law 470 = .ok (.istore 5, 2) := by decide +kernel
theorem d_L_law_472 : decode c_L_law 472 = .ok (.aload_n 2, 1) := by decide +kernel
theorem d_L_law_473 : decode c_L_law 473 = .ok (.aload_n 0, 1) := by decide +kernel
theorem d_L_law_474 : decode c_L_law 474 = .ok (.iload 4, 2) := by decide +kernel
theorem d_L_law_476 : decode c_L_law 476 = .ok (.iconst 1, 1) := by decide +kernel
theorem d_L_law_477 : decode c_L_law 477 = .ok (.iadd, 1) := by decide +kernel
theorem d_L_law_478 : decode c_L_law 478 = .ok (.iaload, 1) := by decide +kernel
theorem d_L_law_479 : decode c_L_law 479 = .ok (.invokevirtual 111, 3) := by decide +kernel
theorem d_L_law_482 : decode c_L_law 482 = .ok (.istore 6, 2) := by decide +kernel
theorem d_L_law_484 : decode c_L_law 484 = .ok (.aload_n 2, 1) := by decide +kernel
theorem d_L_law_485 : decode c_L_law 485 = .ok (.invokevirtual 87, 3) := by decide +kernel
theorem d_L_law_488 : decode c_L_law 488 = .ok (.iload 5, 2) := by decide +kernel
theorem d_L_law_490 : decode c_L_law 490 = .ok (.if_icmp .eq 5, 3) := by decide +kernel
theorem d_L_law_493 : decode c_L_law 493 = .ok (.iconst 0, 1) := by decide +kernel
theorem d_L_law_494 : decode c_L_law 494 = .ok (.ireturn, 1) := by decide +kernel
theorem d_L_law_495 : decode c_L_law 495 = .ok (.iload 5, 2) := by decide +kernel
theorem d_L_law_497 : decode c_L_law 497 = .ok (.ifCond .ne 15, 3) := by decide +kernel
theorem d_L_law_500 : decode c_L_law 500 = .ok (.aload_n 3, 1) := by decide +kernel
theorem d_L_law_501 : decode c_L_law 501 = .ok (.iconst 0, 1) := by decide +kernel
theorem d_L_law_502 : decode c_L_law 502 = .ok (.laload, 1) := by decide +kernel
theorem d_L_law_503 : decode c_L_law 503 = .ok (.iload 6, 2) := by decide +kernel
theorem d_L_law_505 : decode c_L_law 505 = .ok (.i2l, 1) := by decide +kernel
theorem d_L_law_506 : decode c_L_law 506 = .ok (.lcmp, 1) := by decide +kernel
theorem d_L_law_507 : decode c_L_law 507 = .ok (.ifCond .eq 5, 3) := by decide +kernel
theorem d_L_law_510 : decode c_L_law 510 = .ok (.iconst 0, 1) := by decide +kernel
theorem d_L_law_511 : decode c_L_law 511 = .ok (.ireturn, 1) := by decide +kernel
theorem d_L_law_512 : decode c_L_law 512 = .ok (.goto 631, 3) := by decide +kernel
theorem d_L_law_515 : decode c_L_law 515 = .ok (.aload_n 1, 1) := by decide +kernel
theorem d_L_law_516 : decode c_L_law 516 = .ok (.aload_n 0, 1) := by decide +kernel
theorem d_L_law_517 : decode c_L_law 517 = .ok (.iload 4, 2) := by decide +kernel
theorem d_L_law_519 : decode c_L_law 519 = .ok (.iconst 1, 1) := by decide +kernel
theorem d_L_law_520 : decode c_L_law 520 = .ok (.iadd, 1) := by decide +kernel
theorem d_L_law_521 : decode c_L_law 521 = .ok (.iaload, 1) := by decide +kernel
theorem d_L_law_522 : decode c_L_law 522 = .ok (.aload_n 0, 1) := by decide +kernel
theorem d_L_law_523 : decode c_L_law 523 = .ok (.iload 4, 2) := by decide +kernel
theorem d_L_law_525 : decode c_L_law 525 = .ok (.iconst 2, 1) := by decide +kernel
theorem d_L_law_526 : decode c_L_law 526 = .ok (.iadd, 1) := by decide +kernel
theorem d_L_law_527 : decode c_L_law 527 = .ok (.iaload, 1) := by decide +kernel
theorem d_L_law_528 : decode c_L_law 528 = .ok (.invokestatic 112, 3) := by decide +kernel
theorem d_L_law_531 : decode c_L_law 531 = .ok (.istore 5, 2) := by decide +kernel
theorem d_L_law_533 : decode c_L_law 533 = .ok (.aload_n 2, 1) := by decide +kernel
theorem d_L_law_534 : decode c_L_law 534 = .ok (.aload_n 0, 1) := by decide +kernel
theorem d_L_law_535 : decode c_L_law 535 = .ok (.iload 4, 2) := by decide +kernel
theorem d_L_law_537 : decode c_L_law 537 = .ok (.iconst 1, 1) := by decide +kernel
theorem d_L_law_538 : decode c_L_law 538 = .ok (.iadd, 1) := by decide +kernel
theorem d_L_law_539 : decode c_L_law 539 = .ok (.iaload, 1) := by decide +kernel
theorem d_L_law_540 : decode c_L_law 540 = .ok (.aload_n 0, 1) := by decide +kernel
theorem d_L_law_541 : decode c_L_law 541 = .ok (.iload 4, 2) := by decide +kernel
theorem d_L_law_543 : decode c_L_law 543 = .ok (.iconst 2, 1) := by decide +kernel
theorem d_L_law_544 : decode c_L_law 544 = .ok (.iadd, 1) := by decide +kernel
theorem d_L_law_545 : decode c_L_law 545 = .ok (.iaload, 1) := by decide +kernel
theorem d_L_law_546 : decode c_L_law 546 = .ok (.invokevirtual 114, 3) := by decide +kernel
theorem d_L_law_549 : decode c_L_law 549 = .ok (.aload_n 2, 1) := by decide +kernel
theorem d_L_law_550 : decode c_L_law 550 = .ok (.invokevirtual 87, 3) := by decide +kernel
theorem d_L_law_553 : decode c_L_law 553 = .ok (.iload 5, 2) := by decide +kernel
theorem d_L_law_555 : decode c_L_law 555 = .ok (.if_icmp .eq 5, 3) := by decide +kernel
theorem d_L_law_558 : decode c_L_law 558 = .ok (.iconst 0, 1) := by decide +kernel
theorem d_L_law_559 : decode c_L_law 559 = .ok (.ireturn, 1) := by decide +kernel
theorem d_L_law_560 : decode c_L_law 560 = .ok (.goto 583, 3) := by decide +kernel
theorem d_L_law_563 : decode c_L_law 563 = .ok (.aload_n 1, 1) := by decide +kernel
theorem d_L_law_564 : decode c_L_law 564 = .ok (.aload_n 0, 1) := by decide +kernel
theorem d_L_law_565 : decode c_L_law 565 = .ok (.iload 4, 2) := by decide +kernel
theorem d_L_law_567 : decode c_L_law 567 = .ok (.iconst 1, 1) := by decide +kernel
theorem d_L_law_568 : decode c_L_law 568 = .ok (.iadd, 1) := by decide +kernel
theorem d_L_law_569 : decode c_L_law 569 = .ok (.iaload, 1) := by decide +kernel
theorem d_L_law_570 : decode c_L_law 570 = .ok (.aload_n 0, 1) := by decide +kernel
theorem d_L_law_571 : decode c_L_law 571 = .ok (.iload 4, 2) := by decide +kernel
theorem d_L_law_573 : decode c_L_law 573 = .ok (.iconst 2, 1) := by decide +kernel
theorem d_L_law_574 : decode c_L_law 574 = .ok (.iadd, 1) := by decide +kernel
theorem d_L_law_575 : decode c_L_law 575 = .ok (.iaload, 1) := by decide +kernel
theorem d_L_law_576 : decode c_L_law 576 = .ok (.aload_n 0, 1) := by decide +kernel
theorem d_L_law_577 : decode c_L_law 577 = .ok (.iload 4, 2) := by decide +kernel
theorem d_L_law_579 : decode c_L_law 579 = .ok (.iconst 3, 1) := by decide +kernel
theorem d_L_law_580 : decode c_L_law 580 = .ok (.iadd, 1) := by decide +kernel
theorem d_L_law_581 : decode c_L_law 581 = .ok (.iaload, 1) := by decide +kernel
theorem d_L_law_582 : decode c_L_law 582 = .ok (.aload_n 3, 1) := by decide +kernel
theorem d_L_law_583 : decode c_L_law 583 = .ok (.invokestatic 115, 3) := by decide +kernel
theorem d_L_law_586 : decode c_L_law 586 = .ok (.istore 5, 2) := by decide +kernel
theorem d_L_law_588 : decode c_L_law 588 = .ok (.aload_n 2, 1) := by decide +kernel
theorem d_L_law_589 : decode c_L_law 589 = .ok (.aload_n 0, 1) := by decide +kernel
theorem d_L_law_590 : decode c_L_law 590 = .ok (.iload 4, 2) := by decide +kernel
theorem d_L_law_592 : decode c_L_law 592 = .ok (.iconst 1, 1) := by decide +kernel
theorem d_L_law_593 : decode c_L_law 593 = .ok (.iadd, 1) := by decide +kernel
theorem d_L_law_594 : decode c_L_law 594 = .ok (.iaload, 1) := by decide +kernel
theorem d_L_law_595 : decode c_L_law 595 = .ok (.aload_n 0, 1) := by decide +kernel
theorem d_L_law_596 : decode c_L_law 596 = .ok (.iload 4, 2) := by decide +kernel
theorem d_L_law_598 : decode c_L_law 598 = .ok (.iconst 2, 1) := by decide +kernel
theorem d_L_law_599 : decode c_L_law 599 = .ok (.iadd, 1) := by decide +kernel
theorem d_L_law_600 : decode c_L_law 600 = .ok (.iaload, 1) := by decide +kernel
theorem d_L_law_601 : decode c_L_law 601 = .ok (.aload_n 0, 1) := by decide +kernel
theorem d_L_law_602 : decode c_L_law 602 = .ok (.iload 4, 2) := by decide +kernel
theorem d_L_law_604 : decode c_L_law 604 = .ok (.iconst 3, 1) := by decide +kernel
theorem d_L_law_605 : decode c_L_law 605 = .ok (.iadd, 1) := by decide +kernel
theorem d_L_law_606 : decode c_L_law 606 = .ok (.iaload, 1) := by decide +kernel
theorem d_L_law_607 : decode c_L_law 607 = .ok (.invokevirtual 118, 3) := by decide +kernel
theorem d_L_law_610 : decode c_L_law 610 = .ok (.istore 6, 2) := by decide +kernel
theorem d_L_law_612 : decode c_L_law 612 = .ok (.aload_n 2, 1) := by decide +kernel
theorem d_L_law_613 : decode c_L_law 613 = .ok (.invokevirtual 87, 3) := by decide +kernel
theorem d_L_law_616 : decode c_L_law 616 = .ok (.iload 5, 2) := by decide +kernel
theorem d_L_law_618 : decode c_L_law 618 = .ok (.if_icmp .eq 5, 3) := by decide +kernel
theorem d_L_law_621 : decode c_L_law 621 = .ok (.iconst 0, 1) := by decide +kernel
theorem d_L_law_622 : decode c_L_law 622 = .ok (.ireturn, 1) := by decide +kernel
theorem d_L_law_623 : decode c_L_law 623 = .ok (.iload 5, 2) := by decide +kernel
theorem d_L_law_625 : decode c_L_law 625 = .ok (.ifCond .ne 15, 3) := by decide +kernel
theorem d_L_law_628 : decode c_L_law 628 = .ok (.aload_n 3, 1) := by decide +kernel
theorem d_L_law_629 : decode c_L_law 629 = .ok (.iconst 0, 1) := by decide +kernel
theorem d_L_law_630 : decode c_L_law 630 = .ok (.laload, 1) := by decide +kernel
theorem d_L_law_631 : decode c_L_law 631 = .ok (.iload 6, 2) := by decide +kernel
theorem d_L_law_633 : decode c_L_law 633 = .ok (.i2l, 1) := by decide +kernel
theorem d_L_law_634 : decode c_L_law 634 = .ok (.lcmp, 1) := by decide +kernel
theorem d_L_law_635 : decode c_L_law 635 = .ok (.ifCond .eq 5, 3) := by decide +kernel
theorem d_L_law_638 : decode c_L_law 638 = .ok (.iconst 0, 1) := by decide +kernel
theorem d_L_law_639 : decode c_L_law 639 = .ok (.ireturn, 1) := by decide +kernel
theorem d_L_law_640 : decode c_L_law 640 = .ok (.goto 503, 3) := by decide +kernel
theorem d_L_law_643 : decode c_L_law 643 = .ok (.aload_n 1, 1) := by decide +kernel
theorem d_L_law_644 : decode c_L_law 644 = .ok (.aload_n 0, 1) := by decide +kernel
theorem d_L_law_645 : decode c_L_law 645 = .ok (.iload 4, 2) := by decide +kernel
theorem d_L_law_647 : decode c_L_law 647 = .ok (.iconst 1, 1) := by decide +kernel
theorem d_L_law_648 : decode c_L_law 648 = .ok (.iadd, 1) := by decide +kernel
theorem d_L_law_649 : decode c_L_law 649 = .ok (.iaload, 1) := by decide +kernel
theorem d_L_law_650 : decode c_L_law 650 = .ok (.aload_n 0, 1) := by decide +kernel
theorem d_L_law_651 : decode c_L_law 651 = .ok (.iload 4, 2) := by decide +kernel
theorem d_L_law_653 : decode c_L_law 653 = .ok (.iconst 2, 1) := by decide +kernel
theorem d_L_law_654 : decode c_L_law 654 = .ok (.iadd, 1) := by decide +kernel
theorem d_L_law_655 : decode c_L_law 655 = .ok (.iaload, 1) := by decide +kernel
theorem d_L_law_656 : decode c_L_law 656 = .ok (.aload_n 0, 1) := by decide +kernel
theorem d_L_law_657 : decode c_L_law 657 = .ok (.iload 4, 2) := by decide +kernel
theorem d_L_law_659 : decode c_L_law 659 = .ok (.iconst 3, 1) := by decide +kernel
theorem d_L_law_660 : decode c_L_law 660 = .ok (.iadd, 1) := by decide +kernel
theorem d_L_law_661 : decode c_L_law 661 = .ok (.iaload, 1) := by decide +kernel
theorem d_L_law_662 : decode c_L_law 662 = .ok (.invokestatic 119, 3) := by decide +kernel
theorem d_L_law_665 : decode c_L_law 665 = .ok (.istore 5, 2) := by decide +kernel
theorem d_L_law_667 : decode c_L_law 667 = .ok (.aload_n 2, 1) := by decide +kernel
theorem d_L_law_668 : decode c_L_law 668 = .ok (.aload_n 0, 1) := by decide +kernel
theorem d_L_law_669 : decode c_L_law 669 = .ok (.iload 4, 2) := by decide +kernel
theorem d_L_law_671 : decode c_L_law 671 = .ok (.iconst 1, 1) := by decide +kernel
theorem d_L_law_672 : decode c_L_law 672 = .ok (.iadd, 1) := by decide +kernel
theorem d_L_law_673 : decode c_L_law 673 = .ok (.iaload, 1) := by decide +kernel
theorem d_L_law_674 : decode c_L_law 674 = .ok (.aload_n 0, 1) := by decide +kernel
theorem d_L_law_675 : decode c_L_law 675 = .ok (.iload 4, 2) := by decide +kernel
theorem d_L_law_677 : decode c_L_law 677 = .ok (.iconst 2, 1) := by decide +kernel
theorem d_L_law_678 : decode c_L_law 678 = .ok (.iadd, 1) := by decide +kernel
theorem d_L_law_679 : decode c_L_law 679 = .ok (.iaload, 1) := by decide +kernel
theorem d_L_law_680 : decode c_L_law 680 = .ok (.aload_n 0, 1) := by decide +kernel
theorem d_L_law_681 : decode c_L_law 681 = .ok (.iload 4, 2) := by decide +kernel
theorem d_L_law_683 : decode c_L_law 683 = .ok (.iconst 3, 1) := by decide +kernel
theorem d_L_law_684 : decode c_L_law 684 = .ok (.iadd, 1) := by decide +kernel
theorem d_L_law_685 : decode c_L_law 685 = .ok (.iaload, 1) := by decide +kernel
theorem d_L_law_686 : decode c_L_law 686 = .ok (.invokevirtual 122, 3) := by decide +kernel
theorem d_L_law_689 : decode c_L_law 689 = .ok (.aload_n 2, 1) := by decide +kernel
theorem d_L_law_690 : decode c_L_law 690 = .ok (.invokevirtual 87, 3) := by decide +kernel
theorem d_L_law_693 : decode c_L_law 693 = .ok (.iload 5, 2) := by decide +kernel
theorem d_L_law_695 : decode c_L_law 695 = .ok (.if_icmp .eq 5, 3) := by decide +kernel
theorem d_L_law_698 : decode c_L_law 698 = .ok (.iconst 0, 1) := by decide +kernel
theorem d_L_law_699 : decode c_L_law 699 = .ok (.ireturn, 1) := by decide +kernel
theorem d_L_law_700 : decode c_L_law 700 = .ok (.goto 443, 3) := by decide +kernel
theorem d_L_law_703 : decode c_L_law 703 = .ok (.aload_n 1, 1) := by decide +kernel
theorem d_L_law_704 : decode c_L_law 704 = .ok (.aload_n 0, 1) := by decide +kernel
theorem d_L_law_705 : decode c_L_law 705 = .ok (.iload 4, 2) := by decide +kernel
theorem d_L_law_707 : decode c_L_law 707 = .ok (.iconst 1, 1) := by decide +kernel
theorem d_L_law_708 : decode c_L_law 708 = .ok (.iadd, 1) := by decide +kernel
theorem d_L_law_709 : decode c_L_law 709 = .ok (.iaload, 1) := by decide +kernel
theorem d_L_law_710 : decode c_L_law 710 = .ok (.aload_n 3, 1) := by decide +kernel
theorem d_L_law_711 : decode c_L_law 711 = .ok (.invokestatic 123, 3) := by decide +kernel
theorem d_L_law_714 : decode c_L_law 714 = .ok (.istore 5, 2) := by decide +kernel
theorem d_L_law_716 : decode c_L_law 716 = .ok (.aload_n 2, 1) := by decide +kernel
theorem d_L_law_717 : decode c_L_law 717 = .ok (.aload_n 0, 1) := by decide +kernel
theorem d_L_law_718 : decode c_L_law 718 = .ok (.iload 4, 2) := by decide +kernel
theorem d_L_law_720 : decode c_L_law 720 = .ok (.iconst 1, 1) := by decide +kernel
theorem d_L_law_721 : decode c_L_law 721 = .ok (.iadd, 1) := by decide +kernel
theorem d_L_law_722 : decode c_L_law 722 = .ok (.iaload, 1) := by decide +kernel
theorem d_L_law_723 : decode c_L_law 723 = .ok (.invokevirtual 125, 3) := by decide +kernel
theorem d_L_law_726 : decode c_L_law 726 = .ok (.istore 6, 2) := by decide +kernel
theorem d_L_law_728 : decode c_L_law 728 = .ok (.aload_n 2, 1) := by decide +kernel
theorem d_L_law_729 : decode c_L_law 729 = .ok (.invokevirtual 87, 3) := by decide +kernel
theorem d_L_law_732 : decode c_L_law 732 = .ok (.iload 5, 2) := by decide +kernel
theorem d_L_law_734 : decode c_L_law 734 = .ok (.if_icmp .eq 5, 3) := by decide +kernel
theorem d_L_law_737 : decode c_L_law 737 = .ok (.iconst 0, 1) := by decide +kernel
theorem d_L_law_738 : decode c_L_law 738 = .ok (.ireturn, 1) := by decide +kernel
theorem d_L_law_739 : decode c_L_law 739 = .ok (.iload 5, 2) := by decide +kernel
theorem d_L_law_741 : decode c_L_law 741 = .ok (.ifCond .ne 15, 3) := by decide +kernel
theorem d_L_law_744 : decode c_L_law 744 = .ok (.aload_n 3, 1) := by decide +kernel
theorem d_L_law_745 : decode c_L_law 745 = .ok (.iconst 0, 1) := by decide +kernel
theorem d_L_law_746 : decode c_L_law 746 = .ok (.laload, 1) := by decide +kernel
theorem d_L_law_747 : decode c_L_law 747 = .ok (.iload 6, 2) := by decide +kernel
theorem d_L_law_749 : decode c_L_law 749 = .ok (.i2l, 1) := by decide +kernel
theorem d_L_law_750 : decode c_L_law 750 = .ok (.lcmp, 1) := by decide +kernel
theorem d_L_law_751 : decode c_L_law 751 = .ok (.ifCond .eq 5, 3) := by decide +kernel
theorem d_L_law_754 : decode c_L_law 754 = .ok (.iconst 0, 1) := by decide +kernel
theorem d_L_law_755 : decode c_L_law 755 = .ok (.ireturn, 1) := by decide +kernel
theorem d_L_law_756 : decode c_L_law 756 = .ok (.goto 387, 3) := by decide +kernel
theorem d_L_law_759 : decode c_L_law 759 = .ok (.aload_n 1, 1) := by decide +kernel
theorem d_L_law_760 : decode c_L_law 760 = .ok (.aload_n 0, 1) := by decide +kernel
theorem d_L_law_761 : decode c_L_law 761 = .ok (.iload 4, 2) := by decide +kernel
theorem d_L_law_763 : decode c_L_law 763 = .ok (.iconst 1, 1) := by decide +kernel
theorem d_L_law_764 : decode c_L_law 764 = .ok (.iadd, 1) := by decide +kernel
theorem d_L_law_765 : decode c_L_law 765 = .ok (.iaload, 1) := by decide +kernel
theorem d_L_law_766 : decode c_L_law 766 = .ok (.aload_n 0, 1) := by decide +kernel
theorem d_L_law_767 : decode c_L_law 767 = .ok (.iload 4, 2) := by decide +kernel
theorem d_L_law_769 : decode c_L_law 769 = .ok (.iconst 2, 1) := by decide +kernel
theorem d_L_law_770 : decode c_L_law 770 = .ok (.iadd, 1) := by decide +kernel
theorem d_L_law_771 : decode c_L_law 771 = .ok (.iaload, 1) := by decide +kernel
theorem d_L_law_772 : decode c_L_law 772 = .ok (.aload_n 3, 1) := by decide +kernel
theorem d_L_law_773 : decode c_L_law 773 = .ok (.invokestatic 126, 3) := by decide +kernel
theorem d_L_law_776 : decode c_L_law 776 = .ok (.istore 5, 2) := by decide +kernel
theorem d_L_law_778 : decode c_L_law 778 = .ok (.aload_n 2, 1) := by decide +kernel
theorem d_L_law_779 : decode c_L_law 779 = .ok (.aload_n 0, 1) := by decide +kernel
theorem d_L_law_780 : decode c_L_law 780 = .ok (.iload 4, 2) := by decide +kernel
theorem d_L_law_782 : decode c_L_law 782 = .ok (.iconst 1, 1) := by decide +kernel
theorem d_L_law_783 : decode c_L_law 783 = .ok (.iadd, 1) := by decide +kernel
theorem d_L_law_784 : decode c_L_law 784 = .ok (.iaload, 1) := by decide +kernel
theorem d_L_law_785 : decode c_L_law 785 = .ok (.aload_n 0, 1) := by decide +kernel
theorem d_L_law_786 : decode c_L_law 786 = .ok (.iload 4, 2) := by decide +kernel
theorem d_L_law_788 : decode c_L_law 788 = .ok (.iconst 2, 1) := by decide +kernel
theorem d_L_law_789 : decode c_L_law 789 = .ok (.iadd, 1) := by decide +kernel
theorem d_L_law_790 : decode c_L_law 790 = .ok (.iaload, 1) := by decide +kernel
theorem d_L_law_791 : decode c_L_law 791 = .ok (.invokevirtual 128, 3) := by decide +kernel
theorem d_L_law_794 : decode c_L_law 794 = .ok (.istore 6, 2) := by decide +kernel
theorem d_L_law_796 : decode c_L_law 796 = .ok (.aload_n 2, 1) := by decide +kernel
theorem d_L_law_797 : decode c_L_law 797 = .ok (.invokevirtual 87, 3) := by decide +kernel
theorem d_L_law_800 : decode c_L_law 800 = .ok (.iload 5, 2) := by decide +kernel
theorem d_L_law_802 : decode c_L_law 802 = .ok (.if_icmp .eq 5, 3) := by decide +kernel
theorem d_L_law_805 : decode c_L_law 805 = .ok (.iconst 0, 1) := by decide +kernel
theorem d_L_law_806 : decode c_L_law 806 = .ok (.ireturn, 1) := by decide +kernel
theorem d_L_law_807 : decode c_L_law 807 = .ok (.iload 5, 2) := by decide +kernel
theorem d_L_law_809 : decode c_L_law 809 = .ok (.ifCond .ne 15, 3) := by decide +kernel
theorem d_L_law_812 : decode c_L_law 812 = .ok (.aload_n 3, 1) := by decide +kernel
theorem d_L_law_813 : decode c_L_law 813 = .ok (.iconst 0, 1) := by decide +kernel
theorem d_L_law_814 : decode c_L_law 814 = .ok (.laload, 1) := by decide +kernel
theorem d_L_law_815 : decode c_L_law 815 = .ok (.iload 6, 2) := by decide +kernel
theorem d_L_law_817 : decode c_L_law 817 = .ok (.i2l, 1) := by decide +kernel
theorem d_L_law_818 : decode c_L_law 818 = .ok (.lcmp, 1) := by decide +kernel
theorem d_L_law_819 : decode c_L_law 819 = .ok (.ifCond .eq 5, 3) := by decide +kernel
theorem d_L_law_822 : decode c_L_law 822 = .ok (.iconst 0, 1) := by decide +kernel
theorem d_L_law_823 : decode c_L_law 823 = .ok (.ireturn, 1) := by decide +kernel
theorem d_L_law_824 : decode c_L_law 824 = .ok (.goto 319, 3) := by decide +kernel
theorem d_L_law_827 : decode c_L_law 827 = .ok (.aload_n 1, 1) := by decide +kernel
theorem d_L_law_828 : decode c_L_law 828 = .ok (.aload_n 0, 1) := by decide +kernel
theorem d_L_law_829 : decode c_L_law 829 = .ok (.iload 4, 2) := by decide +kernel
theorem d_L_law_831 : decode c_L_law 831 = .ok (.iconst 1, 1) := by decide +kernel
theorem d_L_law_832 : decode c_L_law 832 = .ok (.iadd, 1) := by decide +kernel
theorem d_L_law_833 : decode c_L_law 833 = .ok (.iaload, 1) := by decide +kernel
theorem d_L_law_834 : decode c_L_law 834 = .ok (.aload_n 3, 1) := by decide +kernel
theorem d_L_law_835 : decode c_L_law 835 = .ok (.invokestatic 129, 3) := by decide +kernel
theorem d_L_law_838 : decode c_L_law 838 = .ok (.istore 5, 2) := by decide +kernel
theorem d_L_law_840 : decode c_L_law 840 = .ok (.aload_n 2, 1) := by decide +kernel
theorem d_L_law_841 : decode c_L_law 841 = .ok (.aload_n 0, 1) := by decide +kernel
theorem d_L_law_842 : decode c_L_law 842 = .ok (.iload 4, 2) := by decide +kernel
theorem d_L_law_844 : decode c_L_law 844 = .ok (.iconst 1, 1) := by decide +kernel
theorem d_L_law_845 : decode c_L_law 845 = .ok (.iadd, 1) := by decide +kernel
theorem d_L_law_846 : decode c_L_law 846 = .ok (.iaload, 1) := by decide +kernel
theorem d_L_law_847 : decode c_L_law 847 = .ok (.invokevirtual 131, 3) := by decide +kernel
theorem d_L_law_850 : decode c_L_law 850 = .ok (.istore 6, 2) := by decide +kernel
theorem d_L_law_852 : decode c_L_law 852 = .ok (.aload_n 2, 1) := by decide +kernel
theorem d_L_law_853 : decode c_L_law 853 = .ok (.invokevirtual 87, 3) := by decide +kernel
theorem d_L_law_856 : decode c_L_law 856 = .ok (.iload 5, 2) := by decide +kernel
theorem d_L_law_858 : decode c_L_law 858 = .ok (.if_icmp .eq 5, 3) := by decide +kernel
theorem d_L_law_861 : decode c_L_law 861 = .ok (.iconst 0, 1) := by decide +kernel
theorem d_L_law_862 : decode c_L_law 862 = .ok (.ireturn, 1) := by decide +kernel
theorem d_L_law_863 : decode c_L_law 863 = .ok (.iload 5, 2) := by decide +kernel
theorem d_L_law_865 : decode c_L_law 865 = .ok (.ifCond .ne 15, 3) := by decide +kernel
theorem d_L_law_868 : decode c_L_law 868 = .ok (.aload_n 3, 1) := by decide +kernel
theorem d_L_law_869 : decode c_L_law 869 = .ok (.iconst 0, 1) := by decide +kernel
theorem d_L_law_870 : decode c_L_law 870 = .ok (.laload, 1) := by decide +kernel
theorem d_L_law_871 : decode c_L_law 871 = .ok (.iload 6, 2) := by decide +kernel
theorem d_L_law_873 : decode c_L_law 873 = .ok (.i2l, 1) := by decide +kernel
theorem d_L_law_874 : decode c_L_law 874 = .ok (.lcmp, 1) := by decide +kernel
theorem d_L_law_875 : decode c_L_law 875 = .ok (.ifCond .eq 5, 3) := by decide +kernel
theorem d_L_law_878 : decode c_L_law 878 = .ok (.iconst 0, 1) := by decide +kernel
theorem d_L_law_879 : decode c_L_law 879 = .ok (.ireturn, 1) := by decide +kernel
theorem d_L_law_880 : decode c_L_law 880 = .ok (.goto 263, 3) := by decide +kernel
theorem d_L_law_883 : decode c_L_law 883 = .ok (.aload_n 1, 1) := by decide +kernel
theorem d_L_law_884 : decode c_L_law 884 = .ok (.aload_n 0, 1) := by decide +kernel
theorem d_L_law_885 : decode c_L_law 885 = .ok (.iload 4, 2) := by decide +kernel
theorem d_L_law_887 : decode c_L_law 887 = .ok (.iconst 1, 1) := by decide +kernel
theorem d_L_law_888 : decode c_L_law 888 = .ok (.iadd, 1) := by decide +kernel
theorem d_L_law_889 : decode c_L_law 889 = .ok (.iaload, 1) := by decide +kernel
theorem d_L_law_890 : decode c_L_law 890 = .ok (.aload_n 3, 1) := by decide +kernel
theorem d_L_law_891 : decode c_L_law 891 = .ok (.invokestatic 132, 3) := by decide +kernel
theorem d_L_law_894 : decode c_L_law 894 = .ok (.istore 5, 2) := by decide +kernel
theorem d_L_law_896 : decode c_L_law 896 = .ok (.aload_n 2, 1) := by decide +kernel
theorem d_L_law_897 : decode c_L_law 897 = .ok (.aload_n 0, 1) := by decide +kernel
theorem d_L_law_898 : decode c_L_law 898 = .ok (.iload 4, 2) := by decide +kernel
theorem d_L_law_900 : decode c_L_law 900 = .ok (.iconst 1, 1) := by decide +kernel
theorem d_L_law_901 : decode c_L_law 901 = .ok (.iadd, 1) := by decide +kernel
theorem d_L_law_902 : decode c_L_law 902 = .ok (.iaload, 1) := by decide +kernel
theorem d_L_law_903 : decode c_L_law 903 = .ok (.invokevirtual 134, 3) := by decide +kernel
theorem d_L_law_906 : decode c_L_law 906 = .ok (.istore 6, 2) := by decide +kernel
theorem d_L_law_908 : decode c_L_law 908 = .ok (.aload_n 2, 1) := by decide +kernel
theorem d_L_law_909 : decode c_L_law 909 = .ok (.invokevirtual 87, 3) := by decide +kernel
theorem d_L_law_912 : decode c_L_law 912 = .ok (.iload 5, 2) := by decide +kernel
theorem d_L_law_914 : decode c_L_law 914 = .ok (.if_icmp .eq 5, 3) := by decide +kernel
theorem d_L_law_917 : decode c_L_law 917 = .ok (.iconst 0, 1) := by decide +kernel
theorem d_L_law_918 : decode c_L_law 918 = .ok (.ireturn, 1) := by decide +kernel
theorem d_L_law_919 : decode c_L_law 919 = .ok (.iload 5, 2) := by decide +kernel
theorem d_L_law_921 : decode c_L_law 921 = .ok (.ifCond .ne 15, 3) := by decide +kernel
theorem d_L_law_924 : decode c_L_law 924 = .ok (.aload_n 3, 1) := by decide +kernel
theorem d_L_law_925 : decode c_L_law 925 = .ok (.iconst 0, 1) := by decide +kernel
theorem d_L_law_926 : decode c_L_law 926 = .ok (.laload, 1) := by decide +kernel
theorem d_L_law_927 : decode c_L_law 927 = .ok (.iload 6, 2) := by decide +kernel
theorem d_L_law_929 : decode c_L_law 929 = .ok (.i2l, 1) := by decide +kernel
theorem d_L_law_930 : decode c_L_law 930 = .ok (.lcmp, 1) := by decide +kernel
theorem d_L_law_931 : decode c_L_law 931 = .ok (.ifCond .eq 5, 3) := by decide +kernel
theorem d_L_law_934 : decode c_L_law 934 = .ok (.iconst 0, 1) := by decide +kernel
theorem d_L_law_935 : decode c_L_law 935 = .ok (.ireturn, 1) := by decide +kernel
theorem d_L_law_936 : decode c_L_law 936 = .ok (.goto 207, 3) := by decide +kernel
theorem d_L_law_939 : decode c_L_law 939 = .ok (.aload_n 1, 1) := by decide +kernel
theorem d_L_law_940 : decode c_L_law 940 = .ok (.aload_n 0, 1) := by decide +kernel
theorem d_L_law_941 : decode c_L_law 941 = .ok (.iload 4, 2) := by decide +kernel
theorem d_L_law_943 : decode c_L_law 943 = .ok (.iconst 1, 1) := by decide +kernel
theorem d_L_law_944 : decode c_L_law 944 = .ok (.iadd, 1) := by decide +kernel
theorem d_L_law_945 : decode c_L_law 945 = .ok (.iaload, 1) := by decide +kernel
theorem d_L_law_946 : decode c_L_law 946 = .ok (.aload_n 0, 1) := by decide +kernel
theorem d_L_law_947 : decode c_L_law 947 = .ok (.iload 4, 2) := by decide +kernel
theorem d_L_law_949 : decode c_L_law 949 = .ok (.iconst 2, 1) := by decide +kernel
theorem d_L_law_950 : decode c_L_law 950 = .ok (.iadd, 1) := by decide +kernel
theorem d_L_law_951 : decode c_L_law 951 = .ok (.iaload, 1) := by decide +kernel
theorem d_L_law_952 : decode c_L_law 952 = .ok (.aload_n 3, 1) := by decide +kernel
theorem d_L_law_953 : decode c_L_law 953 = .ok (.invokestatic 135, 3) := by decide +kernel
theorem d_L_law_956 : decode c_L_law 956 = .ok (.istore 5, 2) := by decide +kernel
theorem d_L_law_958 : decode c_L_law 958 = .ok (.aload_n 2, 1) := by decide +kernel
theorem d_L_law_959 : decode c_L_law 959 = .ok (.aload_n 0, 1) := by decide +kernel
theorem d_L_law_960 : decode c_L_law 960 = .ok (.iload 4, 2) := by decide +kernel
theorem d_L_law_962 : decode c_L_law 962 = .ok (.iconst 1, 1) := by decide +kernel
theorem d_L_law_963 : decode c_L_law 963 = .ok (.iadd, 1) := by decide +kernel
theorem d_L_law_964 : decode c_L_law 964 = .ok (.iaload, 1) := by decide +kernel
theorem d_L_law_965 : decode c_L_law 965 = .ok (.aload_n 0, 1) := by decide +kernel
theorem d_L_law_966 : decode c_L_law 966 = .ok (.iload 4, 2) := by decide +kernel
theorem d_L_law_968 : decode c_L_law 968 = .ok (.iconst 2, 1) := by decide +kernel
theorem d_L_law_969 : decode c_L_law 969 = .ok (.iadd, 1) := by decide +kernel
theorem d_L_law_970 : decode c_L_law 970 = .ok (.iaload, 1) := by decide +kernel
theorem d_L_law_971 : decode c_L_law 971 = .ok (.invokevirtual 137, 3) := by decide +kernel
theorem d_L_law_974 : decode c_L_law 974 = .ok (.istore 6, 2) := by decide +kernel
theorem d_L_law_976 : decode c_L_law 976 = .ok (.aload_n 2, 1) := by decide +kernel
theorem d_L_law_977 : decode c_L_law 977 = .ok (.invokevirtual 87, 3) := by decide +kernel
theorem d_L_law_980 : decode c_L_law 980 = .ok (.iload 5, 2) := by decide +kernel
theorem d_L_law_982 : decode c_L_law 982 = .ok (.if_icmp .eq 5, 3) := by decide +kernel
theorem d_L_law_985 : decode c_L_law 985 = .ok (.iconst 0, 1) := by decide +kernel
theorem d_L_law_986 : decode c_L_law 986 = .ok (.ireturn, 1) := by decide +kernel
theorem d_L_law_987 : decode c_L_law 987 = .ok (.iload 5, 2) := by decide +kernel
theorem d_L_law_989 : decode c_L_law 989 = .ok (.ifCond .ne 15, 3) := by decide +kernel
theorem d_L_law_992 : decode c_L_law 992 = .ok (.aload_n 3, 1) := by decide +kernel
theorem d_L_law_993 : decode c_L_law 993 = .ok (.iconst 0, 1) := by decide +kernel
theorem d_L_law_994 : decode c_L_law 994 = .ok (.laload, 1) := by decide +kernel
theorem d_L_law_995 : decode c_L_law 995 = .ok (.iload 6, 2) := by decide +kernel
theorem d_L_law_997 : decode c_L_law 997 = .ok (.i2l, 1) := by decide +kernel
theorem d_L_law_998 : decode c_L_law 998 = .ok (.lcmp, 1) := by decide +kernel
theorem d_L_law_999 : decode c_L_law 999 = .ok (.ifCond .eq 5, 3) := by decide +kernel
theorem d_L_law_1002 : decode c_L_law 1002 = .ok (.iconst 0, 1) := by decide +kernel
theorem d_L_law_1003 : decode c_L_law 1003 = .ok (.ireturn, 1) := by decide +kernel
theorem d_L_law_1004 : decode c_L_law 1004 = .ok (.goto 139, 3) := by decide +kernel
theorem d_L_law_1007 : decode c_L_law 1007 = .ok (.aload_n 1, 1) := by decide +kernel
theorem d_L_law_1008 : decode c_L_law 1008 = .ok (.aload_n 0, 1) := by decide +kernel
theorem d_L_law_1009 : decode c_L_law 1009 = .ok (.iload 4, 2) := by decide +kernel
theorem d_L_law_1011 : decode c_L_law 1011 = .ok (.iconst 1, 1) := by decide +kernel
theorem d_L_law_1012 : decode c_L_law 1012 = .ok (.iadd, 1) := by decide +kernel
theorem d_L_law_1013 : decode c_L_law 1013 = .ok (.iaload, 1) := by decide +kernel
theorem d_L_law_1014 : decode c_L_law 1014 = .ok (.aload_n 0, 1) := by decide +kernel
theorem d_L_law_1015 : decode c_L_law 1015 = .ok (.iload 4, 2) := by decide +kernel
theorem d_L_law_1017 : decode c_L_law 1017 = .ok (.iconst 2, 1) := by decide +kernel
theorem d_L_law_1018 : decode c_L_law 1018 = .ok (.iadd, 1) := by decide +kernel
theorem d_L_law_1019 : decode c_L_law 1019 = .ok (.iaload, 1) := by decide +kernel
theorem d_L_law_1020 : decode c_L_law 1020 = .ok (.aload_n 0, 1) := by decide +kernel
theorem d_L_law_1021 : decode c_L_law 1021 = .ok (.iload 4, 2) := by decide +kernel
theorem d_L_law_1023 : decode c_L_law 1023 = .ok (.iconst 3, 1) := by decide +kernel
theorem d_L_law_1024 : decode c_L_law 1024 = .ok (.iadd, 1) := by decide +kernel
theorem d_L_law_1025 : decode c_L_law 1025 = .ok (.iaload, 1) := by decide +kernel
theorem d_L_law_1026 : decode c_L_law 1026 = .ok (.aload_n 3, 1) := by decide +kernel
theorem d_L_law_1027 : decode c_L_law 1027 = .ok (.invokestatic 138, 3) := by decide +kernel
theorem d_L_law_1030 : decode c_L_law 1030 = .ok (.istore 5, 2) := by decide +kernel
theorem d_L_law_1032 : decode c_L_law 1032 = .ok (.aload_n 2, 1) := by decide +kernel
theorem d_L_law_1033 : decode c_L_law 1033 = .ok (.aload_n 0, 1) := by decide +kernel
theorem d_L_law_1034 : decode c_L_law 1034 = .ok (.iload 4, 2) := by decide +kernel
theorem d_L_law_1036 : decode c_L_law 1036 = .ok (.iconst 1, 1) := by decide +kernel
theorem d_L_law_1037 : decode c_L_law 1037 = .ok (.iadd, 1) := by decide +kernel
theorem d_L_law_1038 : decode c_L_law 1038 = .ok (.iaload, 1) := by decide +kernel
theorem d_L_law_1039 : decode c_L_law 1039 = .ok (.aload_n 0, 1) := by decide +kernel
theorem d_L_law_1040 : decode c_L_law 1040 = .ok (.iload 4, 2) := by decide +kernel
theorem d_L_law_1042 : decode c_L_law 1042 = .ok (.iconst 2, 1) := by decide +kernel
theorem d_L_law_1043 : decode c_L_law 1043 = .ok (.iadd, 1) := by decide +kernel
theorem d_L_law_1044 : decode c_L_law 1044 = .ok (.iaload, 1) := by decide +kernel
theorem d_L_law_1045 : decode c_L_law 1045 = .ok (.aload_n 0, 1) := by decide +kernel
theorem d_L_law_1046 : decode c_L_law 1046 = .ok (.iload 4, 2) := by decide +kernel
theorem d_L_law_1048 : decode c_L_law 1048 = .ok (.iconst 3, 1) := by decide +kernel
theorem d_L_law_1049 : decode c_L_law 1049 = .ok (.iadd, 1) := by decide +kernel
theorem d_L_law_1050 : decode c_L_law 1050 = .ok (.iaload, 1) := by decide +kernel
theorem d_L_law_1051 : decode c_L_law 1051 = .ok (.invokevirtual 140, 3) := by decide +kernel
theorem d_L_law_1054 : decode c_L_law 1054 = .ok (.istore 6, 2) := by decide +kernel
theorem d_L_law_1056 : decode c_L_law 1056 = .ok (.aload_n 2, 1) := by decide +kernel
theorem d_L_law_1057 : decode c_L_law 1057 = .ok (.invokevirtual 87, 3) := by decide +kernel
theorem d_L_law_1060 : decode c_L_law 1060 = .ok (.iload 5, 2) := by decide +kernel
theorem d_L_law_1062 : decode c_L_law 1062 = .ok (.if_icmp .eq 5, 3) := by decide +kernel
theorem d_L_law_1065 : decode c_L_law 1065 = .ok (.iconst 0, 1) := by decide +kernel
theorem d_L_law_1066 : decode c_L_law 1066 = .ok (.ireturn, 1) := by decide +kernel
theorem d_L_law_1067 : decode c_L_law 1067 = .ok (.iload 5, 2) := by decide +kernel
theorem d_L_law_1069 : decode c_L_law 1069 = .ok (.ifCond .ne 15, 3) := by decide +kernel
theorem d_L_law_1072 : decode c_L_law 1072 = .ok (.aload_n 3, 1) := by decide +kernel
theorem d_L_law_1073 : decode c_L_law 1073 = .ok (.iconst 0, 1) := by decide +kernel
theorem d_L_law_1074 : decode c_L_law 1074 = .ok (.laload, 1) := by decide +kernel
theorem d_L_law_1075 : decode c_L_law 1075 = .ok (.iload 6, 2) := by decide +kernel
theorem d_L_law_1077 : decode c_L_law 1077 = .ok (.i2l, 1) := by decide +kernel
theorem d_L_law_1078 : decode c_L_law 1078 = .ok (.lcmp, 1) := by decide +kernel
theorem d_L_law_1079 : decode c_L_law 1079 = .ok (.ifCond .eq 5, 3) := by decide +kernel
theorem d_L_law_1082 : decode c_L_law 1082 = .ok (.iconst 0, 1) := by decide +kernel
theorem d_L_law_1083 : decode c_L_law 1083 = .ok (.ireturn, 1) := by decide +kernel
theorem d_L_law_1084 : decode c_L_law 1084 = .ok (.goto 59, 3) := by decide +kernel
theorem d_L_law_1087 : decode c_L_law 1087 = .ok (.aload_n 1, 1) := by decide +kernel
theorem d_L_law_1088 : decode c_L_law 1088 = .ok (.aload_n 0, 1) := by decide +kernel
theorem d_L_law_1089 : decode c_L_law 1089 = .ok (.iload 4, 2) := by decide +kernel
theorem d_L_law_1091 : decode c_L_law 1091 = .ok (.iconst 1, 1) := by decide +kernel
theorem d_L_law_1092 : decode c_L_law 1092 = .ok (.iadd, 1) := by decide +kernel
theorem d_L_law_1093 : decode c_L_law 1093 = .ok (.iaload, 1) := by decide +kernel
theorem d_L_law_1094 : decode c_L_law 1094 = .ok (.aload_n 3, 1) := by decide +kernel
theorem d_L_law_1095 : decode c_L_law 1095 = .ok (.invokestatic 141, 3) := by decide +kernel
theorem d_L_law_1098 : decode c_L_law 1098 = .ok (.istore 5, 2) := by decide +kernel
theorem d_L_law_1100 : decode c_L_law 1100 = .ok (.aload_n 2, 1) := by decide +kernel
theorem d_L_law_1101 : decode c_L_law 1101 = .ok (.aload_n 0, 1) := by decide +kernel
theorem d_L_law_1102 : decode c_L_law 1102 = .ok (.iload 4, 2) := by decide +kernel
theorem d_L_law_1104 : decode c_L_law 1104 = .ok (.iconst 1, 1) := by decide +kernel
theorem d_L_law_1105 : decode c_L_law 1105 = .ok (.iadd, 1) := by decide +kernel
theorem d_L_law_1106 : decode c_L_law 1106 = .ok (.iaload, 1) := by decide +kernel
theorem d_L_law_1107 : decode c_L_law 1107 = .ok (.invokevirtual 143, 3) := by decide +kernel
theorem d_L_law_1110 : decode c_L_law 1110 = .ok (.istore 6, 2) := by decide +kernel
theorem d_L_law_1112 : decode c_L_law 1112 = .ok (.aload_n 2, 1) := by decide +kernel
theorem d_L_law_1113 : decode c_L_law 1113 = .ok (.invokevirtual 87, 3) := by decide +kernel
theorem d_L_law_1116 : decode c_L_law 1116 = .ok (.iload 5, 2) := by decide +kernel
theorem d_L_law_1118 : decode c_L_law 1118 = .ok (.if_icmp .eq 5, 3) := by decide +kernel
theorem d_L_law_1121 : decode c_L_law 1121 = .ok (.iconst 0, 1) := by decide +kernel
theorem d_L_law_1122 : decode c_L_law 1122 = .ok (.ireturn, 1) := by decide +kernel
theorem d_L_law_1123 : decode c_L_law 1123 = .ok (.iload 5, 2) := by decide +kernel
theorem d_L_law_1125 : decode c_L_law 1125 = .ok (.ifCond .ne 15, 3) := by decide +kernel
theorem d_L_law_1128 : decode c_L_law 1128 = .ok (.aload_n 3, 1) := by decide +kernel
theorem d_L_law_1129 : decode c_L_law 1129 = .ok (.iconst 0, 1) := by decide +kernel
theorem d_L_law_1130 : decode c_L_law 1130 = .ok (.laload, 1) := by decide +kernel
theorem d_L_law_1131 : decode c_L_law 1131 = .ok (.iload 6, 2) := by decide +kernel
theorem d_L_law_1133 : decode c_L_law 1133 = .ok (.i2l, 1) := by decide +kernel
theorem d_L_law_1134 : decode c_L_law 1134 = .ok (.lcmp, 1) := by decide +kernel
theorem d_L_law_1135 : decode c_L_law 1135 = .ok (.ifCond .eq 5, 3) := by decide +kernel
theorem d_L_law_1138 : decode c_L_law 1138 = .ok (.iconst 0, 1) := by decide +kernel
theorem d_L_law_1139 : decode c_L_law 1139 = .ok (.ireturn, 1) := by decide +kernel
theorem d_L_law_1140 : decode c_L_law 1140 = .ok (.goto 3, 3) := by decide +kernel
theorem d_L_law_1143 : decode c_L_law 1143 = .ok (.iinc 4 4, 3) := by decide +kernel
theorem d_L_law_1146 : decode c_L_law 1146 = .ok (.goto (-1123), 3) := by decide +kernel
theorem d_L_law_1149 : decode c_L_law 1149 = .ok (.iconst 1, 1) := by decide +kernel
theorem d_L_law_1150 : decode c_L_law 1150 = .ok (.ireturn, 1) := by decide +kernel
def m_L_law : XM := ("CashLinkLaw", c_L_law, 7, (some .boolean), "law", [], 14, 315)
def b_L_law : XB := [(0, X_new 0 4 xD0),
  (3, X_dup),
  (4, X_invI Y_C_init 0 []),
  (7, X_astore 1 1),
  (8, X_new 10 31 xD10),
  (11, X_dup),
  (12, X_invI Y_R_init 0 []),
  (15, X_astore 2 1),
  (16, X_push (xv_i 1) 1),
  (17, X_newa 1 8 (.inr (.inl (fun _ => 0))) 2),
  (19, X_astore 3 1),
  (20, X_push (xv_i 0) 1),
  (21, X_istore 4 2),
  (23, X_iload 4 2),
  (25, X_aload 0 1),
  (26, X_alen),
  (27, X_push (xv_i 4) 1),
  (28, X_bin (fun x y => x - y)),
  (29, X_icmp (fun x y => y < x) 1149),
  (32, X_aload 0 1),
  (33, X_iload 4 2),
  (35, X_ald 0),
  (36, X_push (xv_i 31) 2),
  (38, X_bin (fun x y => x &&& y)),
  (39, X_sw [(0, 120), (1, 168), (2, 243), (3, 311), (4, 347), (5, 403), (6, 459), (7, 515), (8, 563), (9, 643), (10, 703), (11, 759), (12, 827), (13, 883), (14, 939), (15, 1007), (16, 1087)] 1143),
  (120, X_aload 1 1),
  (121, X_aload 0 1),
  (122, X_iload 4 2),
  (124, X_push (xv_i 1) 1),
  (125, X_bin (fun x y => x + y)),
  (126, X_ald 0),
  (127, X_aload 0 1),
  (128, X_iload 4 2),
  (130, X_push (xv_i 2) 1),
  (131, X_bin (fun x y => x + y)),
  (132, X_ald 0),
  (133, X_invS Y_L_card 3 []),
  (136, X_istore 5 2),
  (138, X_aload 2 1),
  (139, X_aload 0 1),
  (140, X_iload 4 2),
  (142, X_push (xv_i 1) 1),
  (143, X_bin (fun x y => x + y)),
  (144, X_ald 0),
  (145, X_aload 0 1),
  (146, X_iload 4 2),
  (148, X_push (xv_i 2) 1),
  (149, X_bin (fun x y => x + y)),
  (150, X_ald 0),
  (151, X_invV 10 Y_R_card 2 []),
  (154, X_aload 2 1),
  (155, X_invV 10 Y_R_thrown 0 []),
  (158, X_iload 5 2),
  (160, X_icmp (fun x y => x = y) 165),
  (163, X_push (xv_i 0) 1),
  (164, X_zret),
  (165, X_goto 1143),
  (168, X_aload 1 1),
  (169, X_aload 0 1),
  (170, X_iload 4 2),
  (172, X_push (xv_i 1) 1),
  (173, X_bin (fun x y => x + y)),
  (174, X_ald 0),
  (175, X_aload 0 1),
  (176, X_iload 4 2),
  (178, X_push (xv_i 2) 1),
  (179, X_bin (fun x y => x + y)),
  (180, X_ald 0),
  (181, X_aload 3 1),
  (182, X_invS Y_L_pin 4 []),
  (185, X_istore 5 2),
  (187, X_aload 2 1),
  (188, X_aload 0 1),
  (189, X_iload 4 2),
  (191, X_push (xv_i 1) 1),
  (192, X_bin (fun x y => x + y)),
  (193, X_ald 0),
  (194, X_aload 0 1),
  (195, X_iload 4 2),
  (197, X_push (xv_i 2) 1),
  (198, X_bin (fun x y => x + y)),
  (199, X_ald 0),
  (200, X_invV 10 Y_R_pin 2 []),
  (203, X_istore 6 2),
  (205, X_aload 2 1),
  (206, X_invV 10 Y_R_thrown 0 []),
  (209, X_iload 5 2),
  (211, X_icmp (fun x y => x = y) 216),
  (214, X_push (xv_i 0) 1),
  (215, X_zret),
  (216, X_iload 5 2),
  (218, X_if (fun x => ¬ x = 0) 240),
  (221, X_aload 3 1),
  (222, X_push (xv_i 0) 1),
  (223, X_lald 1),
  (224, X_iload 6 2),
  (226, X_if (fun x => x = 0) 233),
  (229, X_push (xv_l 1) 1),
  (230, X_goto 234),
  (233, X_push (xv_l 0) 1),
  (234, X_lcmp),
  (235, X_if (fun x => x = 0) 240),
  (238, X_push (xv_i 0) 1),
  (239, X_zret),
  (240, X_goto 1143),
  (243, X_aload 1 1),
  (244, X_aload 0 1),
  (245, X_iload 4 2),
  (247, X_push (xv_i 1) 1),
  (248, X_bin (fun x y => x + y)),
  (249, X_ald 0),
  (250, X_aload 0 1),
  (251, X_iload 4 2),
  (253, X_push (xv_i 2) 1),
  (254, X_bin (fun x y => x + y)),
  (255, X_ald 0),
  (256, X_aload 3 1),
  (257, X_invS Y_L_ask 4 []),
  (260, X_istore 5 2),
  (262, X_aload 2 1),
  (263, X_aload 0 1),
  (264, X_iload 4 2),
  (266, X_push (xv_i 1) 1),
  (267, X_bin (fun x y => x + y)),
  (268, X_ald 0),
  (269, X_aload 0 1),
  (270, X_iload 4 2),
  (272, X_push (xv_i 2) 1),
  (273, X_bin (fun x y => x + y)),
  (274, X_ald 0),
  (275, X_invV 10 Y_R_ask 2 []),
  (278, X_istore 6 2),
  (280, X_aload 2 1),
  (281, X_invV 10 Y_R_thrown 0 []),
  (284, X_iload 5 2),
  (286, X_icmp (fun x y => x = y) 291),
  (289, X_push (xv_i 0) 1),
  (290, X_zret),
  (291, X_iload 5 2),
  (293, X_if (fun x => ¬ x = 0) 308),
  (296, X_aload 3 1),
  (297, X_push (xv_i 0) 1),
  (298, X_lald 1),
  (299, X_iload 6 2),
  (301, X_i2l),
  (302, X_lcmp),
  (303, X_if (fun x => x = 0) 308),
  (306, X_push (xv_i 0) 1),
  (307, X_zret),
  (308, X_goto 1143),
  (311, X_aload 1 1),
  (312, X_aload 0 1),
  (313, X_iload 4 2),
  (315, X_push (xv_i 1) 1),
  (316, X_bin (fun x y => x + y)),
  (317, X_ald 0),
  (318, X_invS Y_L_cancel 2 []),
  (321, X_istore 5 2),
  (323, X_aload 2 1),
  (324, X_aload 0 1),
  (325, X_iload 4 2),
  (327, X_push (xv_i 1) 1),
  (328, X_bin (fun x y => x + y)),
  (329, X_ald 0),
  (330, X_invV 10 Y_R_cancel 1 []),
  (333, X_aload 2 1),
  (334, X_invV 10 Y_R_thrown 0 []),
  (337, X_iload 5 2),
  (339, X_icmp (fun x y => x = y) 344),
  (342, X_push (xv_i 0) 1),
  (343, X_zret),
  (344, X_goto 1143),
  (347, X_aload 1 1),
  (348, X_aload 0 1),
  (349, X_iload 4 2),
  (351, X_push (xv_i 1) 1),
  (352, X_bin (fun x y => x + y)),
  (353, X_ald 0),
  (354, X_aload 3 1),
  (355, X_invS Y_L_again 3 []),
  (358, X_istore 5 2),
  (360, X_aload 2 1),
  (361, X_aload 0 1),
  (362, X_iload 4 2),
  (364, X_push (xv_i 1) 1),
  (365, X_bin (fun x y => x + y)),
  (366, X_ald 0),
  (367, X_invV 10 Y_R_again 1 []),
  (370, X_istore 6 2),
  (372, X_aload 2 1),
  (373, X_invV 10 Y_R_thrown 0 []),
  (376, X_iload 5 2),
  (378, X_icmp (fun x y => x = y) 383),
  (381, X_push (xv_i 0) 1),
  (382, X_zret),
  (383, X_iload 5 2),
  (385, X_if (fun x => ¬ x = 0) 400),
  (388, X_aload 3 1),
  (389, X_push (xv_i 0) 1),
  (390, X_lald 1),
  (391, X_iload 6 2),
  (393, X_i2l),
  (394, X_lcmp),
  (395, X_if (fun x => x = 0) 400),
  (398, X_push (xv_i 0) 1),
  (399, X_zret),
  (400, X_goto 1143),
  (403, X_aload 1 1),
  (404, X_aload 0 1),
  (405, X_iload 4 2),
  (407, X_push (xv_i 1) 1),
  (408, X_bin (fun x y => x + y)),
  (409, X_ald 0),
  (410, X_aload 3 1),
  (411, X_invS Y_L_settle 3 []),
  (414, X_istore 5 2),
  (416, X_aload 2 1),
  (417, X_aload 0 1),
  (418, X_iload 4 2),
  (420, X_push (xv_i 1) 1),
  (421, X_bin (fun x y => x + y)),
  (422, X_ald 0),
  (423, X_invV 10 Y_R_settle 1 []),
  (426, X_istore 6 2),
  (428, X_aload 2 1),
  (429, X_invV 10 Y_R_thrown 0 []),
  (432, X_iload 5 2),
  (434, X_icmp (fun x y => x = y) 439),
  (437, X_push (xv_i 0) 1),
  (438, X_zret),
  (439, X_iload 5 2),
  (441, X_if (fun x => ¬ x = 0) 456),
  (444, X_aload 3 1),
  (445, X_push (xv_i 0) 1),
  (446, X_lald 1),
  (447, X_iload 6 2),
  (449, X_i2l),
  (450, X_lcmp),
  (451, X_if (fun x => x = 0) 456),
  (454, X_push (xv_i 0) 1),
  (455, X_zret),
  (456, X_goto 1143),
  (459, X_aload 1 1),
  (460, X_aload 0 1),
  (461, X_iload 4 2),
  (463, X_push (xv_i 1) 1),
  (464, X_bin (fun x y => x + y)),
  (465, X_ald 0),
  (466, X_aload 3 1),
  (467, X_invS Y_L_deliver 3 []),
  (470, X_istore 5 2),
  (472, X_aload 2 1),
  (473, X_aload 0 1),
  (474, X_iload 4 2),
  (476, X_push (xv_i 1) 1),
  (477, X_bin (fun x y => x + y)),
  (478, X_ald 0),
  (479, X_invV 10 Y_R_deliver 1 []),
  (482, X_istore 6 2),
  (484, X_aload 2 1),
  (485, X_invV 10 Y_R_thrown 0 []),
  (488, X_iload 5 2),
  (490, X_icmp (fun x y => x = y) 495),
  (493, X_push (xv_i 0) 1),
  (494, X_zret),
  (495, X_iload 5 2),
  (497, X_if (fun x => ¬ x = 0) 512),
  (500, X_aload 3 1),
  (501, X_push (xv_i 0) 1),
  (502, X_lald 1),
  (503, X_iload 6 2),
  (505, X_i2l),
  (506, X_lcmp),
  (507, X_if (fun x => x = 0) 512),
  (510, X_push (xv_i 0) 1),
  (511, X_zret),
  (512, X_goto 1143),
  (515, X_aload 1 1),
  (516, X_aload 0 1),
  (517, X_iload 4 2),
  (519, X_push (xv_i 1) 1),
  (520, X_bin (fun x y => x + y)),
  (521, X_ald 0),
  (522, X_aload 0 1),
  (523, X_iload 4 2),
  (525, X_push (xv_i 2) 1),
  (526, X_bin (fun x y => x + y)),
  (527, X_ald 0),
  (528, X_invS Y_L_jam 3 []),
  (531, X_istore 5 2),
  (533, X_aload 2 1),
  (534, X_aload 0 1),
  (535, X_iload 4 2),
  (537, X_push (xv_i 1) 1),
  (538, X_bin (fun x y => x + y)),
  (539, X_ald 0),
  (540, X_aload 0 1),
  (541, X_iload 4 2),
  (543, X_push (xv_i 2) 1),
  (544, X_bin (fun x y => x + y)),
  (545, X_ald 0),
  (546, X_invV 10 Y_R_jam 2 []),
  (549, X_aload 2 1),
  (550, X_invV 10 Y_R_thrown 0 []),
  (553, X_iload 5 2),
  (555, X_icmp (fun x y => x = y) 560),
  (558, X_push (xv_i 0) 1),
  (559, X_zret),
  (560, X_goto 1143),
  (563, X_aload 1 1),
  (564, X_aload 0 1),
  (565, X_iload 4 2),
  (567, X_push (xv_i 1) 1),
  (568, X_bin (fun x y => x + y)),
  (569, X_ald 0),
  (570, X_aload 0 1),
  (571, X_iload 4 2),
  (573, X_push (xv_i 2) 1),
  (574, X_bin (fun x y => x + y)),
  (575, X_ald 0),
  (576, X_aload 0 1),
  (577, X_iload 4 2),
  (579, X_push (xv_i 3) 1),
  (580, X_bin (fun x y => x + y)),
  (581, X_ald 0),
  (582, X_aload 3 1),
  (583, X_invS Y_L_load 5 []),
  (586, X_istore 5 2),
  (588, X_aload 2 1),
  (589, X_aload 0 1),
  (590, X_iload 4 2),
  (592, X_push (xv_i 1) 1),
  (593, X_bin (fun x y => x + y)),
  (594, X_ald 0),
  (595, X_aload 0 1),
  (596, X_iload 4 2),
  (598, X_push (xv_i 2) 1),
  (599, X_bin (fun x y => x + y)),
  (600, X_ald 0),
  (601, X_aload 0 1),
  (602, X_iload 4 2),
  (604, X_push (xv_i 3) 1),
  (605, X_bin (fun x y => x + y)),
  (606, X_ald 0),
  (607, X_invV 10 Y_R_load 3 []),
  (610, X_istore 6 2),
  (612, X_aload 2 1),
  (613, X_invV 10 Y_R_thrown 0 []),
  (616, X_iload 5 2),
  (618, X_icmp (fun x y => x = y) 623),
  (621, X_push (xv_i 0) 1),
  (622, X_zret),
  (623, X_iload 5 2),
  (625, X_if (fun x => ¬ x = 0) 640),
  (628, X_aload 3 1),
  (629, X_push (xv_i 0) 1),
  (630, X_lald 1),
  (631, X_iload 6 2),
  (633, X_i2l),
  (634, X_lcmp),
  (635, X_if (fun x => x = 0) 640),
  (638, X_push (xv_i 0) 1),
  (639, X_zret),
  (640, X_goto 1143),
  (643, X_aload 1 1),
  (644, X_aload 0 1),
  (645, X_iload 4 2),
  (647, X_push (xv_i 1) 1),
  (648, X_bin (fun x y => x + y)),
  (649, X_ald 0),
  (650, X_aload 0 1),
  (651, X_iload 4 2),
  (653, X_push (xv_i 2) 1),
  (654, X_bin (fun x y => x + y)),
  (655, X_ald 0),
  (656, X_aload 0 1),
  (657, X_iload 4 2),
  (659, X_push (xv_i 3) 1),
  (660, X_bin (fun x y => x + y)),
  (661, X_ald 0),
  (662, X_invS Y_L_power 4 []),
  (665, X_istore 5 2),
  (667, X_aload 2 1),
  (668, X_aload 0 1),
  (669, X_iload 4 2),
  (671, X_push (xv_i 1) 1),
  (672, X_bin (fun x y => x + y)),
  (673, X_ald 0),
  (674, X_aload 0 1),
  (675, X_iload 4 2),
  (677, X_push (xv_i 2) 1),
  (678, X_bin (fun x y => x + y)),
  (679, X_ald 0),
  (680, X_aload 0 1),
  (681, X_iload 4 2),
  (683, X_push (xv_i 3) 1),
  (684, X_bin (fun x y => x + y)),
  (685, X_ald 0),
  (686, X_invV 10 Y_R_power 3 []),
  (689, X_aload 2 1),
  (690, X_invV 10 Y_R_thrown 0 []),
  (693, X_iload 5 2),
  (695, X_icmp (fun x y => x = y) 700),
  (698, X_push (xv_i 0) 1),
  (699, X_zret),
  (700, X_goto 1143),
  (703, X_aload 1 1),
  (704, X_aload 0 1),
  (705, X_iload 4 2),
  (707, X_push (xv_i 1) 1),
  (708, X_bin (fun x y => x + y)),
  (709, X_ald 0),
  (710, X_aload 3 1),
  (711, X_invS Y_L_on 3 []),
  (714, X_istore 5 2),
  (716, X_aload 2 1),
  (717, X_aload 0 1),
  (718, X_iload 4 2),
  (720, X_push (xv_i 1) 1),
  (721, X_bin (fun x y => x + y)),
  (722, X_ald 0),
  (723, X_invV 10 Y_R_on 1 []),
  (726, X_istore 6 2),
  (728, X_aload 2 1),
  (729, X_invV 10 Y_R_thrown 0 []),
  (732, X_iload 5 2),
  (734, X_icmp (fun x y => x = y) 739),
  (737, X_push (xv_i 0) 1),
  (738, X_zret),
  (739, X_iload 5 2),
  (741, X_if (fun x => ¬ x = 0) 756),
  (744, X_aload 3 1),
  (745, X_push (xv_i 0) 1),
  (746, X_lald 1),
  (747, X_iload 6 2),
  (749, X_i2l),
  (750, X_lcmp),
  (751, X_if (fun x => x = 0) 756),
  (754, X_push (xv_i 0) 1),
  (755, X_zret),
  (756, X_goto 1143),
  (759, X_aload 1 1),
  (760, X_aload 0 1),
  (761, X_iload 4 2),
  (763, X_push (xv_i 1) 1),
  (764, X_bin (fun x y => x + y)),
  (765, X_ald 0),
  (766, X_aload 0 1),
  (767, X_iload 4 2),
  (769, X_push (xv_i 2) 1),
  (770, X_bin (fun x y => x + y)),
  (771, X_ald 0),
  (772, X_aload 3 1),
  (773, X_invS Y_L_told 4 []),
  (776, X_istore 5 2),
  (778, X_aload 2 1),
  (779, X_aload 0 1),
  (780, X_iload 4 2),
  (782, X_push (xv_i 1) 1),
  (783, X_bin (fun x y => x + y)),
  (784, X_ald 0),
  (785, X_aload 0 1),
  (786, X_iload 4 2),
  (788, X_push (xv_i 2) 1),
  (789, X_bin (fun x y => x + y)),
  (790, X_ald 0),
  (791, X_invV 10 Y_R_told 2 []),
  (794, X_istore 6 2),
  (796, X_aload 2 1),
  (797, X_invV 10 Y_R_thrown 0 []),
  (800, X_iload 5 2),
  (802, X_icmp (fun x y => x = y) 807),
  (805, X_push (xv_i 0) 1),
  (806, X_zret),
  (807, X_iload 5 2),
  (809, X_if (fun x => ¬ x = 0) 824),
  (812, X_aload 3 1),
  (813, X_push (xv_i 0) 1),
  (814, X_lald 1),
  (815, X_iload 6 2),
  (817, X_i2l),
  (818, X_lcmp),
  (819, X_if (fun x => x = 0) 824),
  (822, X_push (xv_i 0) 1),
  (823, X_zret),
  (824, X_goto 1143),
  (827, X_aload 1 1),
  (828, X_aload 0 1),
  (829, X_iload 4 2),
  (831, X_push (xv_i 1) 1),
  (832, X_bin (fun x y => x + y)),
  (833, X_ald 0),
  (834, X_aload 3 1),
  (835, X_invS Y_L_balance 3 []),
  (838, X_istore 5 2),
  (840, X_aload 2 1),
  (841, X_aload 0 1),
  (842, X_iload 4 2),
  (844, X_push (xv_i 1) 1),
  (845, X_bin (fun x y => x + y)),
  (846, X_ald 0),
  (847, X_invV 10 Y_R_balance 1 []),
  (850, X_istore 6 2),
  (852, X_aload 2 1),
  (853, X_invV 10 Y_R_thrown 0 []),
  (856, X_iload 5 2),
  (858, X_icmp (fun x y => x = y) 863),
  (861, X_push (xv_i 0) 1),
  (862, X_zret),
  (863, X_iload 5 2),
  (865, X_if (fun x => ¬ x = 0) 880),
  (868, X_aload 3 1),
  (869, X_push (xv_i 0) 1),
  (870, X_lald 1),
  (871, X_iload 6 2),
  (873, X_i2l),
  (874, X_lcmp),
  (875, X_if (fun x => x = 0) 880),
  (878, X_push (xv_i 0) 1),
  (879, X_zret),
  (880, X_goto 1143),
  (883, X_aload 1 1),
  (884, X_aload 0 1),
  (885, X_iload 4 2),
  (887, X_push (xv_i 1) 1),
  (888, X_bin (fun x y => x + y)),
  (889, X_ald 0),
  (890, X_aload 3 1),
  (891, X_invS Y_L_taken 3 []),
  (894, X_istore 5 2),
  (896, X_aload 2 1),
  (897, X_aload 0 1),
  (898, X_iload 4 2),
  (900, X_push (xv_i 1) 1),
  (901, X_bin (fun x y => x + y)),
  (902, X_ald 0),
  (903, X_invV 10 Y_R_taken 1 []),
  (906, X_istore 6 2),
  (908, X_aload 2 1),
  (909, X_invV 10 Y_R_thrown 0 []),
  (912, X_iload 5 2),
  (914, X_icmp (fun x y => x = y) 919),
  (917, X_push (xv_i 0) 1),
  (918, X_zret),
  (919, X_iload 5 2),
  (921, X_if (fun x => ¬ x = 0) 936),
  (924, X_aload 3 1),
  (925, X_push (xv_i 0) 1),
  (926, X_lald 1),
  (927, X_iload 6 2),
  (929, X_i2l),
  (930, X_lcmp),
  (931, X_if (fun x => x = 0) 936),
  (934, X_push (xv_i 0) 1),
  (935, X_zret),
  (936, X_goto 1143),
  (939, X_aload 1 1),
  (940, X_aload 0 1),
  (941, X_iload 4 2),
  (943, X_push (xv_i 1) 1),
  (944, X_bin (fun x y => x + y)),
  (945, X_ald 0),
  (946, X_aload 0 1),
  (947, X_iload 4 2),
  (949, X_push (xv_i 2) 1),
  (950, X_bin (fun x y => x + y)),
  (951, X_ald 0),
  (952, X_aload 3 1),
  (953, X_invS Y_L_byteAt 4 []),
  (956, X_istore 5 2),
  (958, X_aload 2 1),
  (959, X_aload 0 1),
  (960, X_iload 4 2),
  (962, X_push (xv_i 1) 1),
  (963, X_bin (fun x y => x + y)),
  (964, X_ald 0),
  (965, X_aload 0 1),
  (966, X_iload 4 2),
  (968, X_push (xv_i 2) 1),
  (969, X_bin (fun x y => x + y)),
  (970, X_ald 0),
  (971, X_invV 10 Y_R_byteAt 2 []),
  (974, X_istore 6 2),
  (976, X_aload 2 1),
  (977, X_invV 10 Y_R_thrown 0 []),
  (980, X_iload 5 2),
  (982, X_icmp (fun x y => x = y) 987),
  (985, X_push (xv_i 0) 1),
  (986, X_zret),
  (987, X_iload 5 2),
  (989, X_if (fun x => ¬ x = 0) 1004),
  (992, X_aload 3 1),
  (993, X_push (xv_i 0) 1),
  (994, X_lald 1),
  (995, X_iload 6 2),
  (997, X_i2l),
  (998, X_lcmp),
  (999, X_if (fun x => x = 0) 1004),
  (1002, X_push (xv_i 0) 1),
  (1003, X_zret),
  (1004, X_goto 1143),
  (1007, X_aload 1 1),
  (1008, X_aload 0 1),
  (1009, X_iload 4 2),
  (1011, X_push (xv_i 1) 1),
  (1012, X_bin (fun x y => x + y)),
  (1013, X_ald 0),
  (1014, X_aload 0 1),
  (1015, X_iload 4 2),
  (1017, X_push (xv_i 2) 1),
  (1018, X_bin (fun x y => x + y)),
  (1019, X_ald 0),
  (1020, X_aload 0 1),
  (1021, X_iload 4 2),
  (1023, X_push (xv_i 3) 1),
  (1024, X_bin (fun x y => x + y)),
  (1025, X_ald 0),
  (1026, X_aload 3 1),
  (1027, X_invS Y_L_mix 5 []),
  (1030, X_istore 5 2),
  (1032, X_aload 2 1),
  (1033, X_aload 0 1),
  (1034, X_iload 4 2),
  (1036, X_push (xv_i 1) 1),
  (1037, X_bin (fun x y => x + y)),
  (1038, X_ald 0),
  (1039, X_aload 0 1),
  (1040, X_iload 4 2),
  (1042, X_push (xv_i 2) 1),
  (1043, X_bin (fun x y => x + y)),
  (1044, X_ald 0),
  (1045, X_aload 0 1),
  (1046, X_iload 4 2),
  (1048, X_push (xv_i 3) 1),
  (1049, X_bin (fun x y => x + y)),
  (1050, X_ald 0),
  (1051, X_invV 10 Y_R_mix 3 []),
  (1054, X_istore 6 2),
  (1056, X_aload 2 1),
  (1057, X_invV 10 Y_R_thrown 0 []),
  (1060, X_iload 5 2),
  (1062, X_icmp (fun x y => x = y) 1067),
  (1065, X_push (xv_i 0) 1),
  (1066, X_zret),
  (1067, X_iload 5 2),
  (1069, X_if (fun x => ¬ x = 0) 1084),
  (1072, X_aload 3 1),
  (1073, X_push (xv_i 0) 1),
  (1074, X_lald 1),
  (1075, X_iload 6 2),
  (1077, X_i2l),
  (1078, X_lcmp),
  (1079, X_if (fun x => x = 0) 1084),
  (1082, X_push (xv_i 0) 1),
  (1083, X_zret),
  (1084, X_goto 1143),
  (1087, X_aload 1 1),
  (1088, X_aload 0 1),
  (1089, X_iload 4 2),
  (1091, X_push (xv_i 1) 1),
  (1092, X_bin (fun x y => x + y)),
  (1093, X_ald 0),
  (1094, X_aload 3 1),
  (1095, X_invS Y_L_count 3 []),
  (1098, X_istore 5 2),
  (1100, X_aload 2 1),
  (1101, X_aload 0 1),
  (1102, X_iload 4 2),
  (1104, X_push (xv_i 1) 1),
  (1105, X_bin (fun x y => x + y)),
  (1106, X_ald 0),
  (1107, X_invV 10 Y_R_count 1 []),
  (1110, X_istore 6 2),
  (1112, X_aload 2 1),
  (1113, X_invV 10 Y_R_thrown 0 []),
  (1116, X_iload 5 2),
  (1118, X_icmp (fun x y => x = y) 1123),
  (1121, X_push (xv_i 0) 1),
  (1122, X_zret),
  (1123, X_iload 5 2),
  (1125, X_if (fun x => ¬ x = 0) 1140),
  (1128, X_aload 3 1),
  (1129, X_push (xv_i 0) 1),
  (1130, X_lald 1),
  (1131, X_iload 6 2),
  (1133, X_i2l),
  (1134, X_lcmp),
  (1135, X_if (fun x => x = 0) 1140),
  (1138, X_push (xv_i 0) 1),
  (1139, X_zret),
  (1140, X_goto 1143),
  (1143, X_iinc 4 4),
  (1146, X_goto 23),
  (1149, X_push (xv_i 1) 1),
  (1150, X_zret)]
set_option maxRecDepth 100000 in
theorem k_L_law : x_bok m_L_law b_L_law := by
  unfold b_L_law
  refine x_bok.cons (xs_new d_L_law_0 xc0 xw0 xt0 q1_36 q1_37 q1_1 xd0 rfl) ?_
  refine x_bok.cons (xs_dup d_L_law_3) ?_
  refine x_bok.cons (xs_invI d_L_law_4 sn_C_init is_C_init ⟨q1_38, q1_39, q1_40, q1_1⟩ (by decide) rfl (by decide) rfl) ?_
  refine x_bok.cons (xs_astore_n d_L_law_7 rfl (by decide)) ?_
  refine x_bok.cons (xs_new d_L_law_8 xc10 xw10 xt10 q5_199 q5_200 q1_12 xd10 rfl) ?_
  refine x_bok.cons (xs_dup d_L_law_11) ?_
  refine x_bok.cons (xs_invI d_L_law_12 sn_R_init is_R_init ⟨q5_201, q5_202, q5_203, q1_12⟩ (by decide) rfl (by decide) rfl) ?_
  refine x_bok.cons (xs_astore_n d_L_law_15 rfl (by decide)) ?_
  refine x_bok.cons (xs_iconst d_L_law_16 (by decide)) ?_
  refine x_bok.cons (xs_newa (ty := .long) d_L_law_17 rfl rfl q6_231 (fun _ _ _ => rfl) x_zlong) ?_
  refine x_bok.cons (xs_astore_n d_L_law_19 rfl (by decide)) ?_
  refine x_bok.cons (xs_iconst d_L_law_20 (by decide)) ?_
  refine x_bok.cons (xs_istore d_L_law_21 (by decide)) ?_
  refine x_bok.cons (xs_iload d_L_law_23) ?_
  refine x_bok.cons (xs_aload_n d_L_law_25 rfl) ?_
  refine x_bok.cons (xs_alen d_L_law_26) ?_
  refine x_bok.cons (xs_iconst d_L_law_27 (by decide)) ?_
  refine x_bok.cons (xs_isub d_L_law_28) ?_
  refine x_bok.cons (xs_icmp_gt d_L_law_29 (by decide)) ?_
  refine x_bok.cons (xs_aload_n d_L_law_32 rfl) ?_
  refine x_bok.cons (xs_iload d_L_law_33) ?_
  refine x_bok.cons (xs_iald d_L_law_35 rfl) ?_
  refine x_bok.cons (xs_bipush d_L_law_36 (by decide)) ?_
  refine x_bok.cons (xs_iand d_L_law_38) ?_
  refine x_bok.cons (xs_tsw d_L_law_39 (by decide) (by decide) (x_swall 0 17 _ (by decide))) ?_
  refine x_bok.cons (xs_aload_n d_L_law_120 rfl) ?_
  refine x_bok.cons (xs_aload_n d_L_law_121 rfl) ?_
  refine x_bok.cons (xs_iload d_L_law_122) ?_
  refine x_bok.cons (xs_iconst d_L_law_124 (by decide)) ?_
  refine x_bok.cons (xs_iadd d_L_law_125) ?_
  refine x_bok.cons (xs_iald d_L_law_126 rfl) ?_
  refine x_bok.cons (xs_aload_n d_L_law_127 rfl) ?_
  refine x_bok.cons (xs_iload d_L_law_128) ?_
  refine x_bok.cons (xs_iconst d_L_law_130 (by decide)) ?_
  refine x_bok.cons (xs_iadd d_L_law_131) ?_
  refine x_bok.cons (xs_iald d_L_law_132 rfl) ?_
  refine x_bok.cons (xs_invS d_L_law_133 sn_L_card is_L_card ⟨q1_214, q1_215, q1_0⟩ (by decide) (by decide) rfl) ?_
  refine x_bok.cons (xs_istore d_L_law_136 (by decide)) ?_
  refine x_bok.cons (xs_aload_n d_L_law_138 rfl) ?_
  refine x_bok.cons (xs_aload_n d_L_law_139 rfl) ?_
  refine x_bok.cons (xs_iload d_L_law_140) ?_
  refine x_bok.cons (xs_iconst d_L_law_142 (by decide)) ?_
  refine x_bok.cons (xs_iadd d_L_law_143) ?_
  refine x_bok.cons (xs_iald d_L_law_144 rfl) ?_
  refine x_bok.cons (xs_aload_n d_L_law_145 rfl) ?_
  refine x_bok.cons (xs_iload d_L_law_146) ?_
  refine x_bok.cons (xs_iconst d_L_law_148 (by decide)) ?_
  refine x_bok.cons (xs_iadd d_L_law_149) ?_
  refine x_bok.cons (xs_iald d_L_law_150 rfl) ?_
  refine x_bok.cons (xs_invV d_L_law_151 xc10 sn_R_card is_R_card ⟨q6_63, q6_64, q6_65, q1_12⟩ (by decide) (by decide) rfl) ?_
  refine x_bok.cons (xs_aload_n d_L_law_154 rfl) ?_
  refine x_bok.cons (xs_invV d_L_law_155 xc10 sn_R_thrown is_R_thrown ⟨q6_59, q6_60, q6_61, q1_12⟩ (by decide) (by decide) rfl) ?_
  refine x_bok.cons (xs_iload d_L_law_158) ?_
  refine x_bok.cons (xs_icmp_eq d_L_law_160 (by decide)) ?_
  refine x_bok.cons (xs_iconst d_L_law_163 (by decide)) ?_
  refine x_bok.cons (xs_zret d_L_law_164 rfl) ?_
  refine x_bok.cons (xs_goto d_L_law_165 (by decide)) ?_
  refine x_bok.cons (xs_aload_n d_L_law_168 rfl) ?_
  refine x_bok.cons (xs_aload_n d_L_law_169 rfl) ?_
  refine x_bok.cons (xs_iload d_L_law_170) ?_
  refine x_bok.cons (xs_iconst d_L_law_172 (by decide)) ?_
  refine x_bok.cons (xs_iadd d_L_law_173) ?_
  refine x_bok.cons (xs_iald d_L_law_174 rfl) ?_
  refine x_bok.cons (xs_aload_n d_L_law_175 rfl) ?_
  refine x_bok.cons (xs_iload d_L_law_176) ?_
  refine x_bok.cons (xs_iconst d_L_law_178 (by decide)) ?_
  refine x_bok.cons (xs_iadd d_L_law_179) ?_
  refine x_bok.cons (xs_iald d_L_law_180 rfl) ?_
  refine x_bok.cons (xs_aload_n d_L_law_181 rfl) ?_
  refine x_bok.cons (xs_invS d_L_law_182 sn_L_pin is_L_pin ⟨q2_92, q2_93, q1_0⟩ (by decide) (by decide) rfl) ?_
  refine x_bok.cons (xs_istore d_L_law_185 (by decide)) ?_
  refine x_bok.cons (xs_aload_n d_L_law_187 rfl) ?_
  refine x_bok.cons (xs_aload_n d_L_law_188 rfl) ?_
  refine x_bok.cons (xs_iload d_L_law_189) ?_
  refine x_bok.cons (xs_iconst d_L_law_191 (by decide)) ?_
  refine x_bok.cons (xs_iadd d_L_law_192) ?_
  refine x_bok.cons (xs_iald d_L_law_193 rfl) ?_
  refine x_bok.cons (xs_aload_n d_L_law_194 rfl) ?_
  refine x_bok.cons (xs_iload d_L_law_195) ?_
  refine x_bok.cons (xs_iconst d_L_law_197 (by decide)) ?_
  refine x_bok.cons (xs_iadd d_L_law_198) ?_
  refine x_bok.cons (xs_iald d_L_law_199 rfl) ?_
  refine x_bok.cons (xs_invV d_L_law_200 xc10 sn_R_pin is_R_pin ⟨q6_70, q6_71, q6_72, q1_12⟩ (by decide) (by decide) rfl) ?_
  refine x_bok.cons (xs_istore d_L_law_203 (by decide)) ?_
  refine x_bok.cons (xs_aload_n d_L_law_205 rfl) ?_
  refine x_bok.cons (xs_invV d_L_law_206 xc10 sn_R_thrown is_R_thrown ⟨q6_59, q6_60, q6_61, q1_12⟩ (by decide) (by decide) rfl) ?_
  refine x_bok.cons (xs_iload d_L_law_209) ?_
  refine x_bok.cons (xs_icmp_eq d_L_law_211 (by decide)) ?_
  refine x_bok.cons (xs_iconst d_L_law_214 (by decide)) ?_
  refine x_bok.cons (xs_zret d_L_law_215 rfl) ?_
  refine x_bok.cons (xs_iload d_L_law_216) ?_
  refine x_bok.cons (xs_if_ne d_L_law_218 (by decide)) ?_
  refine x_bok.cons (xs_aload_n d_L_law_221 rfl) ?_
  refine x_bok.cons (xs_iconst d_L_law_222 (by decide)) ?_
  refine x_bok.cons (xs_lald d_L_law_223 rfl) ?_
  refine x_bok.cons (xs_iload d_L_law_224) ?_
  refine x_bok.cons (xs_if_eq d_L_law_226 (by decide)) ?_
  refine x_bok.cons (xs_lconst d_L_law_229 (by decide)) ?_
  refine x_bok.cons (xs_goto d_L_law_230 (by decide)) ?_
  refine x_bok.cons (xs_lconst d_L_law_233 (by decide)) ?_
  refine x_bok.cons (xs_lcmp d_L_law_234) ?_
  refine x_bok.cons (xs_if_eq d_L_law_235 (by decide)) ?_
  refine x_bok.cons (xs_iconst d_L_law_238 (by decide)) ?_
  refine x_bok.cons (xs_zret d_L_law_239 rfl) ?_
  refine x_bok.cons (xs_goto d_L_law_240 (by decide)) ?_
  refine x_bok.cons (xs_aload_n d_L_law_243 rfl) ?_
  refine x_bok.cons (xs_aload_n d_L_law_244 rfl) ?_
  refine x_bok.cons (xs_iload d_L_law_245) ?_
  refine x_bok.cons (xs_iconst d_L_law_247 (by decide)) ?_
  refine x_bok.cons (xs_iadd d_L_law_248) ?_
  refine x_bok.cons (xs_iald d_L_law_249 rfl) ?_
  refine x_bok.cons (xs_aload_n d_L_law_250 rfl) ?_
  refine x_bok.cons (xs_iload d_L_law_251) ?_
  refine x_bok.cons (xs_iconst d_L_law_253 (by decide)) ?_
  refine x_bok.cons (xs_iadd d_L_law_254) ?_
  refine x_bok.cons (xs_iald d_L_law_255 rfl) ?_
  refine x_bok.cons (xs_aload_n d_L_law_256 rfl) ?_
  refine x_bok.cons (xs_invS d_L_law_257 sn_L_ask is_L_ask ⟨q2_105, q2_106, q1_0⟩ (by decide) (by decide) rfl) ?_
  refine x_bok.cons (xs_istore d_L_law_260 (by decide)) ?_
  refine x_bok.cons (xs_aload_n d_L_law_262 rfl) ?_
  refine x_bok.cons (xs_aload_n d_L_law_263 rfl) ?_
  refine x_bok.cons (xs_iload d_L_law_264) ?_
  refine x_bok.cons (xs_iconst d_L_law_266 (by decide)) ?_
  refine x_bok.cons (xs_iadd d_L_law_267) ?_
  refine x_bok.cons (xs_iald d_L_law_268 rfl) ?_
  refine x_bok.cons (xs_aload_n d_L_law_269 rfl) ?_
  refine x_bok.cons (xs_iload d_L_law_270) ?_
  refine x_bok.cons (xs_iconst d_L_law_272 (by decide)) ?_
  refine x_bok.cons (xs_iadd d_L_law_273) ?_
  refine x_bok.cons (xs_iald d_L_law_274 rfl) ?_
  refine x_bok.cons (xs_invV d_L_law_275 xc10 sn_R_ask is_R_ask ⟨q6_74, q6_75, q6_76, q1_12⟩ (by decide) (by decide) rfl) ?_
  refine x_bok.cons (xs_istore d_L_law_278 (by decide)) ?_
  refine x_bok.cons (xs_aload_n d_L_law_280 rfl) ?_
  refine x_bok.cons (xs_invV d_L_law_281 xc10 sn_R_thrown is_R_thrown ⟨q6_59, q6_60, q6_61, q1_12⟩ (by decide) (by decide) rfl) ?_
  refine x_bok.cons (xs_iload d_L_law_284) ?_
  refine x_bok.cons (xs_icmp_eq d_L_law_286 (by decide)) ?_
  refine x_bok.cons (xs_iconst d_L_law_289 (by decide)) ?_
  refine x_bok.cons (xs_zret d_L_law_290 rfl) ?_
  refine x_bok.cons (xs_iload d_L_law_291) ?_
  refine x_bok.cons (xs_if_ne d_L_law_293 (by decide)) ?_
  refine x_bok.cons (xs_aload_n d_L_law_296 rfl) ?_
  refine x_bok.cons (xs_iconst d_L_law_297 (by decide)) ?_
  refine x_bok.cons (xs_lald d_L_law_298 rfl) ?_
  refine x_bok.cons (xs_iload d_L_law_299) ?_
  refine x_bok.cons (xs_i2l d_L_law_301) ?_
  refine x_bok.cons (xs_lcmp d_L_law_302) ?_
  refine x_bok.cons (xs_if_eq d_L_law_303 (by decide)) ?_
  refine x_bok.cons (xs_iconst d_L_law_306 (by decide)) ?_
  refine x_bok.cons (xs_zret d_L_law_307 rfl) ?_
  refine x_bok.cons (xs_goto d_L_law_308 (by decide)) ?_
  refine x_bok.cons (xs_aload_n d_L_law_311 rfl) ?_
  refine x_bok.cons (xs_aload_n d_L_law_312 rfl) ?_
  refine x_bok.cons (xs_iload d_L_law_313) ?_
  refine x_bok.cons (xs_iconst d_L_law_315 (by decide)) ?_
  refine x_bok.cons (xs_iadd d_L_law_316) ?_
  refine x_bok.cons (xs_iald d_L_law_317 rfl) ?_
  refine x_bok.cons (xs_invS d_L_law_318 sn_L_cancel is_L_cancel ⟨q3_56, q3_57, q1_0⟩ (by decide) (by decide) rfl) ?_
  refine x_bok.cons (xs_istore d_L_law_321 (by decide)) ?_
  refine x_bok.cons (xs_aload_n d_L_law_323 rfl) ?_
  refine x_bok.cons (xs_aload_n d_L_law_324 rfl) ?_
  refine x_bok.cons (xs_iload d_L_law_325) ?_
  refine x_bok.cons (xs_iconst d_L_law_327 (by decide)) ?_
  refine x_bok.cons (xs_iadd d_L_law_328) ?_
  refine x_bok.cons (xs_iald d_L_law_329 rfl) ?_
  refine x_bok.cons (xs_invV d_L_law_330 xc10 sn_R_cancel is_R_cancel ⟨q6_125, q6_126, q6_127, q1_12⟩ (by decide) (by decide) rfl) ?_
  refine x_bok.cons (xs_aload_n d_L_law_333 rfl) ?_
  refine x_bok.cons (xs_invV d_L_law_334 xc10 sn_R_thrown is_R_thrown ⟨q6_59, q6_60, q6_61, q1_12⟩ (by decide) (by decide) rfl) ?_
  refine x_bok.cons (xs_iload d_L_law_337) ?_
  refine x_bok.cons (xs_icmp_eq d_L_law_339 (by decide)) ?_
  refine x_bok.cons (xs_iconst d_L_law_342 (by decide)) ?_
  refine x_bok.cons (xs_zret d_L_law_343 rfl) ?_
  refine x_bok.cons (xs_goto d_L_law_344 (by decide)) ?_
  refine x_bok.cons (xs_aload_n d_L_law_347 rfl) ?_
  refine x_bok.cons (xs_aload_n d_L_law_348 rfl) ?_
  refine x_bok.cons (xs_iload d_L_law_349) ?_
  refine x_bok.cons (xs_iconst d_L_law_351 (by decide)) ?_
  refine x_bok.cons (xs_iadd d_L_law_352) ?_
  refine x_bok.cons (xs_iald d_L_law_353 rfl) ?_
  refine x_bok.cons (xs_aload_n d_L_law_354 rfl) ?_
  refine x_bok.cons (xs_invS d_L_law_355 sn_L_again is_L_again ⟨q3_78, q3_79, q1_0⟩ (by decide) (by decide) rfl) ?_
  refine x_bok.cons (xs_istore d_L_law_358 (by decide)) ?_
  refine x_bok.cons (xs_aload_n d_L_law_360 rfl) ?_
  refine x_bok.cons (xs_aload_n d_L_law_361 rfl) ?_
  refine x_bok.cons (xs_iload d_L_law_362) ?_
  refine x_bok.cons (xs_iconst d_L_law_364 (by decide)) ?_
  refine x_bok.cons (xs_iadd d_L_law_365) ?_
  refine x_bok.cons (xs_iald d_L_law_366 rfl) ?_
  refine x_bok.cons (xs_invV d_L_law_367 xc10 sn_R_again is_R_again ⟨q6_141, q6_142, q6_143, q1_12⟩ (by decide) (by decide) rfl) ?_
  refine x_bok.cons (xs_istore d_L_law_370 (by decide)) ?_
  refine x_bok.cons (xs_aload_n d_L_law_372 rfl) ?_
  refine x_bok.cons (xs_invV d_L_law_373 xc10 sn_R_thrown is_R_thrown ⟨q6_59, q6_60, q6_61, q1_12⟩ (by decide) (by decide) rfl) ?_
  refine x_bok.cons (xs_iload d_L_law_376) ?_
  refine x_bok.cons (xs_icmp_eq d_L_law_378 (by decide)) ?_
  refine x_bok.cons (xs_iconst d_L_law_381 (by decide)) ?_
  refine x_bok.cons (xs_zret d_L_law_382 rfl) ?_
  refine x_bok.cons (xs_iload d_L_law_383) ?_
  refine x_bok.cons (xs_if_ne d_L_law_385 (by decide)) ?_
  refine x_bok.cons (xs_aload_n d_L_law_388 rfl) ?_
  refine x_bok.cons (xs_iconst d_L_law_389 (by decide)) ?_
  refine x_bok.cons (xs_lald d_L_law_390 rfl) ?_
  refine x_bok.cons (xs_iload d_L_law_391) ?_
  refine x_bok.cons (xs_i2l d_L_law_393) ?_
  refine x_bok.cons (xs_lcmp d_L_law_394) ?_
  refine x_bok.cons (xs_if_eq d_L_law_395 (by decide)) ?_
  refine x_bok.cons (xs_iconst d_L_law_398 (by decide)) ?_
  refine x_bok.cons (xs_zret d_L_law_399 rfl) ?_
  refine x_bok.cons (xs_goto d_L_law_400 (by decide)) ?_
  refine x_bok.cons (xs_aload_n d_L_law_403 rfl) ?_
  refine x_bok.cons (xs_aload_n d_L_law_404 rfl) ?_
  refine x_bok.cons (xs_iload d_L_law_405) ?_
  refine x_bok.cons (xs_iconst d_L_law_407 (by decide)) ?_
  refine x_bok.cons (xs_iadd d_L_law_408) ?_
  refine x_bok.cons (xs_iald d_L_law_409 rfl) ?_
  refine x_bok.cons (xs_aload_n d_L_law_410 rfl) ?_
  refine x_bok.cons (xs_invS d_L_law_411 sn_L_settle is_L_settle ⟨q3_111, q3_112, q1_0⟩ (by decide) (by decide) rfl) ?_
  refine x_bok.cons (xs_istore d_L_law_414 (by decide)) ?_
  refine x_bok.cons (xs_aload_n d_L_law_416 rfl) ?_
  refine x_bok.cons (xs_aload_n d_L_law_417 rfl) ?_
  refine x_bok.cons (xs_iload d_L_law_418) ?_
  refine x_bok.cons (xs_iconst d_L_law_420 (by decide)) ?_
  refine x_bok.cons (xs_iadd d_L_law_421) ?_
  refine x_bok.cons (xs_iald d_L_law_422 rfl) ?_
  refine x_bok.cons (xs_invV d_L_law_423 xc10 sn_R_settle is_R_settle ⟨q6_145, q6_146, q6_147, q1_12⟩ (by decide) (by decide) rfl) ?_
  refine x_bok.cons (xs_istore d_L_law_426 (by decide)) ?_
  refine x_bok.cons (xs_aload_n d_L_law_428 rfl) ?_
  refine x_bok.cons (xs_invV d_L_law_429 xc10 sn_R_thrown is_R_thrown ⟨q6_59, q6_60, q6_61, q1_12⟩ (by decide) (by decide) rfl) ?_
  refine x_bok.cons (xs_iload d_L_law_432) ?_
  refine x_bok.cons (xs_icmp_eq d_L_law_434 (by decide)) ?_
  refine x_bok.cons (xs_iconst d_L_law_437 (by decide)) ?_
  refine x_bok.cons (xs_zret d_L_law_438 rfl) ?_
  refine x_bok.cons (xs_iload d_L_law_439) ?_
  refine x_bok.cons (xs_if_ne d_L_law_441 (by decide)) ?_
  refine x_bok.cons (xs_aload_n d_L_law_444 rfl) ?_
  refine x_bok.cons (xs_iconst d_L_law_445 (by decide)) ?_
  refine x_bok.cons (xs_lald d_L_law_446 rfl) ?_
  refine x_bok.cons (xs_iload d_L_law_447) ?_
  refine x_bok.cons (xs_i2l d_L_law_449) ?_
  refine x_bok.cons (xs_lcmp d_L_law_450) ?_
  refine x_bok.cons (xs_if_eq d_L_law_451 (by decide)) ?_
  refine x_bok.cons (xs_iconst d_L_law_454 (by decide)) ?_
  refine x_bok.cons (xs_zret d_L_law_455 rfl) ?_
  refine x_bok.cons (xs_goto d_L_law_456 (by decide)) ?_
  refine x_bok.cons (xs_aload_n d_L_law_459 rfl) ?_
  refine x_bok.cons (xs_aload_n d_L_law_460 rfl) ?_
  refine x_bok.cons (xs_iload d_L_law_461) ?_
  refine x_bok.cons (xs_iconst d_L_law_463 (by decide)) ?_
  refine x_bok.cons (xs_iadd d_L_law_464) ?_
  refine x_bok.cons (xs_iald d_L_law_465 rfl) ?_
  refine x_bok.cons (xs_aload_n d_L_law_466 rfl) ?_
  refine x_bok.cons (xs_invS d_L_law_467 sn_L_deliver is_L_deliver ⟨q3_146, q3_147, q1_0⟩ (by decide) (by decide) rfl) ?_
  refine x_bok.cons (xs_istore d_L_law_470 (by decide)) ?_
  refine x_bok.cons (xs_aload_n d_L_law_472 rfl) ?_
  refine x_bok.cons (xs_aload_n d_L_law_473 rfl) ?_
  refine x_bok.cons (xs_iload d_L_law_474) ?_
  refine x_bok.cons (xs_iconst d_L_law_476 (by decide)) ?_
  refine x_bok.cons (xs_iadd d_L_law_477) ?_
  refine x_bok.cons (xs_iald d_L_law_478 rfl) ?_
  refine x_bok.cons (xs_invV d_L_law_479 xc10 sn_R_deliver is_R_deliver ⟨q6_149, q6_150, q6_151, q1_12⟩ (by decide) (by decide) rfl) ?_
  refine x_bok.cons (xs_istore d_L_law_482 (by decide)) ?_
  refine x_bok.cons (xs_aload_n d_L_law_484 rfl) ?_
  refine x_bok.cons (xs_invV d_L_law_485 xc10 sn_R_thrown is_R_thrown ⟨q6_59, q6_60, q6_61, q1_12⟩ (by decide) (by decide) rfl) ?_
  refine x_bok.cons (xs_iload d_L_law_488) ?_
  refine x_bok.cons (xs_icmp_eq d_L_law_490 (by decide)) ?_
  refine x_bok.cons (xs_iconst d_L_law_493 (by decide)) ?_
  refine x_bok.cons (xs_zret d_L_law_494 rfl) ?_
  refine x_bok.cons (xs_iload d_L_law_495) ?_
  refine x_bok.cons (xs_if_ne d_L_law_497 (by decide)) ?_
  refine x_bok.cons (xs_aload_n d_L_law_500 rfl) ?_
  refine x_bok.cons (xs_iconst d_L_law_501 (by decide)) ?_
  refine x_bok.cons (xs_lald d_L_law_502 rfl) ?_
  refine x_bok.cons (xs_iload d_L_law_503) ?_
  refine x_bok.cons (xs_i2l d_L_law_505) ?_
  refine x_bok.cons (xs_lcmp d_L_law_506) ?_
  refine x_bok.cons (xs_if_eq d_L_law_507 (by decide)) ?_
  refine x_bok.cons (xs_iconst d_L_law_510 (by decide)) ?_
  refine x_bok.cons (xs_zret d_L_law_511 rfl) ?_
  refine x_bok.cons (xs_goto d_L_law_512 (by decide)) ?_
  refine x_bok.cons (xs_aload_n d_L_law_515 rfl) ?_
  refine x_bok.cons (xs_aload_n d_L_law_516 rfl) ?_
  refine x_bok.cons (xs_iload d_L_law_517) ?_
  refine x_bok.cons (xs_iconst d_L_law_519 (by decide)) ?_
  refine x_bok.cons (xs_iadd d_L_law_520) ?_
  refine x_bok.cons (xs_iald d_L_law_521 rfl) ?_
  refine x_bok.cons (xs_aload_n d_L_law_522 rfl) ?_
  refine x_bok.cons (xs_iload d_L_law_523) ?_
  refine x_bok.cons (xs_iconst d_L_law_525 (by decide)) ?_
  refine x_bok.cons (xs_iadd d_L_law_526) ?_
  refine x_bok.cons (xs_iald d_L_law_527 rfl) ?_
  refine x_bok.cons (xs_invS d_L_law_528 sn_L_jam is_L_jam ⟨q4_105, q4_106, q1_0⟩ (by decide) (by decide) rfl) ?_
  refine x_bok.cons (xs_istore d_L_law_531 (by decide)) ?_
  refine x_bok.cons (xs_aload_n d_L_law_533 rfl) ?_
  refine x_bok.cons (xs_aload_n d_L_law_534 rfl) ?_
  refine x_bok.cons (xs_iload d_L_law_535) ?_
  refine x_bok.cons (xs_iconst d_L_law_537 (by decide)) ?_
  refine x_bok.cons (xs_iadd d_L_law_538) ?_
  refine x_bok.cons (xs_iald d_L_law_539 rfl) ?_
  refine x_bok.cons (xs_aload_n d_L_law_540 rfl) ?_
  refine x_bok.cons (xs_iload d_L_law_541) ?_
  refine x_bok.cons (xs_iconst d_L_law_543 (by decide)) ?_
  refine x_bok.cons (xs_iadd d_L_law_544) ?_
  refine x_bok.cons (xs_iald d_L_law_545 rfl) ?_
  refine x_bok.cons (xs_invV d_L_law_546 xc10 sn_R_jam is_R_jam ⟨q6_175, q6_176, q6_177, q1_12⟩ (by decide) (by decide) rfl) ?_
  refine x_bok.cons (xs_aload_n d_L_law_549 rfl) ?_
  refine x_bok.cons (xs_invV d_L_law_550 xc10 sn_R_thrown is_R_thrown ⟨q6_59, q6_60, q6_61, q1_12⟩ (by decide) (by decide) rfl) ?_
  refine x_bok.cons (xs_iload d_L_law_553) ?_
  refine x_bok.cons (xs_icmp_eq d_L_law_555 (by decide)) ?_
  refine x_bok.cons (xs_iconst d_L_law_558 (by decide)) ?_
  refine x_bok.cons (xs_zret d_L_law_559 rfl) ?_
  refine x_bok.cons (xs_goto d_L_law_560 (by decide)) ?_
  refine x_bok.cons (xs_aload_n d_L_law_563 rfl) ?_
  refine x_bok.cons (xs_aload_n d_L_law_564 rfl) ?_
  refine x_bok.cons (xs_iload d_L_law_565) ?_
  refine x_bok.cons (xs_iconst d_L_law_567 (by decide)) ?_
  refine x_bok.cons (xs_iadd d_L_law_568) ?_
  refine x_bok.cons (xs_iald d_L_law_569 rfl) ?_
  refine x_bok.cons (xs_aload_n d_L_law_570 rfl) ?_
  refine x_bok.cons (xs_iload d_L_law_571) ?_
  refine x_bok.cons (xs_iconst d_L_law_573 (by decide)) ?_
  refine x_bok.cons (xs_iadd d_L_law_574) ?_
  refine x_bok.cons (xs_iald d_L_law_575 rfl) ?_
  refine x_bok.cons (xs_aload_n d_L_law_576 rfl) ?_
  refine x_bok.cons (xs_iload d_L_law_577) ?_
  refine x_bok.cons (xs_iconst d_L_law_579 (by decide)) ?_
  refine x_bok.cons (xs_iadd d_L_law_580) ?_
  refine x_bok.cons (xs_iald d_L_law_581 rfl) ?_
  refine x_bok.cons (xs_aload_n d_L_law_582 rfl) ?_
  refine x_bok.cons (xs_invS d_L_law_583 sn_L_load is_L_load ⟨q4_112, q4_113, q1_0⟩ (by decide) (by decide) rfl) ?_
  refine x_bok.cons (xs_istore d_L_law_586 (by decide)) ?_
  refine x_bok.cons (xs_aload_n d_L_law_588 rfl) ?_
  refine x_bok.cons (xs_aload_n d_L_law_589 rfl) ?_
  refine x_bok.cons (xs_iload d_L_law_590) ?_
  refine x_bok.cons (xs_iconst d_L_law_592 (by decide)) ?_
  refine x_bok.cons (xs_iadd d_L_law_593) ?_
  refine x_bok.cons (xs_iald d_L_law_594 rfl) ?_
  refine x_bok.cons (xs_aload_n d_L_law_595 rfl) ?_
  refine x_bok.cons (xs_iload d_L_law_596) ?_
  refine x_bok.cons (xs_iconst d_L_law_598 (by decide)) ?_
  refine x_bok.cons (xs_iadd d_L_law_599) ?_
  refine x_bok.cons (xs_iald d_L_law_600 rfl) ?_
  refine x_bok.cons (xs_aload_n d_L_law_601 rfl) ?_
  refine x_bok.cons (xs_iload d_L_law_602) ?_
  refine x_bok.cons (xs_iconst d_L_law_604 (by decide)) ?_
  refine x_bok.cons (xs_iadd d_L_law_605) ?_
  refine x_bok.cons (xs_iald d_L_law_606 rfl) ?_
  refine x_bok.cons (xs_invV d_L_law_607 xc10 sn_R_load is_R_load ⟨q6_179, q6_180, q6_181, q1_12⟩ (by decide) (by decide) rfl) ?_
  refine x_bok.cons (xs_istore d_L_law_610 (by decide)) ?_
  refine x_bok.cons (xs_aload_n d_L_law_612 rfl) ?_
  refine x_bok.cons (xs_invV d_L_law_613 xc10 sn_R_thrown is_R_thrown ⟨q6_59, q6_60, q6_61, q1_12⟩ (by decide) (by decide) rfl) ?_
  refine x_bok.cons (xs_iload d_L_law_616) ?_
  refine x_bok.cons (xs_icmp_eq d_L_law_618 (by decide)) ?_
  refine x_bok.cons (xs_iconst d_L_law_621 (by decide)) ?_
  refine x_bok.cons (xs_zret d_L_law_622 rfl) ?_
  refine x_bok.cons (xs_iload d_L_law_623) ?_
  refine x_bok.cons (xs_if_ne d_L_law_625 (by decide)) ?_
  refine x_bok.cons (xs_aload_n d_L_law_628 rfl) ?_
  refine x_bok.cons (xs_iconst d_L_law_629 (by decide)) ?_
  refine x_bok.cons (xs_lald d_L_law_630 rfl) ?_
  refine x_bok.cons (xs_iload d_L_law_631) ?_
  refine x_bok.cons (xs_i2l d_L_law_633) ?_
  refine x_bok.cons (xs_lcmp d_L_law_634) ?_
  refine x_bok.cons (xs_if_eq d_L_law_635 (by decide)) ?_
  refine x_bok.cons (xs_iconst d_L_law_638 (by decide)) ?_
  refine x_bok.cons (xs_zret d_L_law_639 rfl) ?_
  refine x_bok.cons (xs_goto d_L_law_640 (by decide)) ?_
  refine x_bok.cons (xs_aload_n d_L_law_643 rfl) ?_
  refine x_bok.cons (xs_aload_n d_L_law_644 rfl) ?_
  refine x_bok.cons (xs_iload d_L_law_645) ?_
  refine x_bok.cons (xs_iconst d_L_law_647 (by decide)) ?_
  refine x_bok.cons (xs_iadd d_L_law_648) ?_
  refine x_bok.cons (xs_iald d_L_law_649 rfl) ?_
  refine x_bok.cons (xs_aload_n d_L_law_650 rfl) ?_
  refine x_bok.cons (xs_iload d_L_law_651) ?_
  refine x_bok.cons (xs_iconst d_L_law_653 (by decide)) ?_
  refine x_bok.cons (xs_iadd d_L_law_654) ?_
  refine x_bok.cons (xs_iald d_L_law_655 rfl) ?_
  refine x_bok.cons (xs_aload_n d_L_law_656 rfl) ?_
  refine x_bok.cons (xs_iload d_L_law_657) ?_
  refine x_bok.cons (xs_iconst d_L_law_659 (by decide)) ?_
  refine x_bok.cons (xs_iadd d_L_law_660) ?_
  refine x_bok.cons (xs_iald d_L_law_661 rfl) ?_
  refine x_bok.cons (xs_invS d_L_law_662 sn_L_power is_L_power ⟨q4_127, q4_128, q1_0⟩ (by decide) (by decide) rfl) ?_
  refine x_bok.cons (xs_istore d_L_law_665 (by decide)) ?_
  refine x_bok.cons (xs_aload_n d_L_law_667 rfl) ?_
  refine x_bok.cons (xs_aload_n d_L_law_668 rfl) ?_
  refine x_bok.cons (xs_iload d_L_law_669) ?_
  refine x_bok.cons (xs_iconst d_L_law_671 (by decide)) ?_
  refine x_bok.cons (xs_iadd d_L_law_672) ?_
  refine x_bok.cons (xs_iald d_L_law_673 rfl) ?_
  refine x_bok.cons (xs_aload_n d_L_law_674 rfl) ?_
  refine x_bok.cons (xs_iload d_L_law_675) ?_
  refine x_bok.cons (xs_iconst d_L_law_677 (by decide)) ?_
  refine x_bok.cons (xs_iadd d_L_law_678) ?_
  refine x_bok.cons (xs_iald d_L_law_679 rfl) ?_
  refine x_bok.cons (xs_aload_n d_L_law_680 rfl) ?_
  refine x_bok.cons (xs_iload d_L_law_681) ?_
  refine x_bok.cons (xs_iconst d_L_law_683 (by decide)) ?_
  refine x_bok.cons (xs_iadd d_L_law_684) ?_
  refine x_bok.cons (xs_iald d_L_law_685 rfl) ?_
  refine x_bok.cons (xs_invV d_L_law_686 xc10 sn_R_power is_R_power ⟨q6_183, q6_184, q6_185, q1_12⟩ (by decide) (by decide) rfl) ?_
  refine x_bok.cons (xs_aload_n d_L_law_689 rfl) ?_
  refine x_bok.cons (xs_invV d_L_law_690 xc10 sn_R_thrown is_R_thrown ⟨q6_59, q6_60, q6_61, q1_12⟩ (by decide) (by decide) rfl) ?_
  refine x_bok.cons (xs_iload d_L_law_693) ?_
  refine x_bok.cons (xs_icmp_eq d_L_law_695 (by decide)) ?_
  refine x_bok.cons (xs_iconst d_L_law_698 (by decide)) ?_
  refine x_bok.cons (xs_zret d_L_law_699 rfl) ?_
  refine x_bok.cons (xs_goto d_L_law_700 (by decide)) ?_
  refine x_bok.cons (xs_aload_n d_L_law_703 rfl) ?_
  refine x_bok.cons (xs_aload_n d_L_law_704 rfl) ?_
  refine x_bok.cons (xs_iload d_L_law_705) ?_
  refine x_bok.cons (xs_iconst d_L_law_707 (by decide)) ?_
  refine x_bok.cons (xs_iadd d_L_law_708) ?_
  refine x_bok.cons (xs_iald d_L_law_709 rfl) ?_
  refine x_bok.cons (xs_aload_n d_L_law_710 rfl) ?_
  refine x_bok.cons (xs_invS d_L_law_711 sn_L_on is_L_on ⟨q4_138, q4_139, q1_0⟩ (by decide) (by decide) rfl) ?_
  refine x_bok.cons (xs_istore d_L_law_714 (by decide)) ?_
  refine x_bok.cons (xs_aload_n d_L_law_716 rfl) ?_
  refine x_bok.cons (xs_aload_n d_L_law_717 rfl) ?_
  refine x_bok.cons (xs_iload d_L_law_718) ?_
  refine x_bok.cons (xs_iconst d_L_law_720 (by decide)) ?_
  refine x_bok.cons (xs_iadd d_L_law_721) ?_
  refine x_bok.cons (xs_iald d_L_law_722 rfl) ?_
  refine x_bok.cons (xs_invV d_L_law_723 xc10 sn_R_on is_R_on ⟨q6_187, q6_188, q6_189, q1_12⟩ (by decide) (by decide) rfl) ?_
  refine x_bok.cons (xs_istore d_L_law_726 (by decide)) ?_
  refine x_bok.cons (xs_aload_n d_L_law_728 rfl) ?_
  refine x_bok.cons (xs_invV d_L_law_729 xc10 sn_R_thrown is_R_thrown ⟨q6_59, q6_60, q6_61, q1_12⟩ (by decide) (by decide) rfl) ?_
  refine x_bok.cons (xs_iload d_L_law_732) ?_
  refine x_bok.cons (xs_icmp_eq d_L_law_734 (by decide)) ?_
  refine x_bok.cons (xs_iconst d_L_law_737 (by decide)) ?_
  refine x_bok.cons (xs_zret d_L_law_738 rfl) ?_
  refine x_bok.cons (xs_iload d_L_law_739) ?_
  refine x_bok.cons (xs_if_ne d_L_law_741 (by decide)) ?_
  refine x_bok.cons (xs_aload_n d_L_law_744 rfl) ?_
  refine x_bok.cons (xs_iconst d_L_law_745 (by decide)) ?_
  refine x_bok.cons (xs_lald d_L_law_746 rfl) ?_
  refine x_bok.cons (xs_iload d_L_law_747) ?_
  refine x_bok.cons (xs_i2l d_L_law_749) ?_
  refine x_bok.cons (xs_lcmp d_L_law_750) ?_
  refine x_bok.cons (xs_if_eq d_L_law_751 (by decide)) ?_
  refine x_bok.cons (xs_iconst d_L_law_754 (by decide)) ?_
  refine x_bok.cons (xs_zret d_L_law_755 rfl) ?_
  refine x_bok.cons (xs_goto d_L_law_756 (by decide)) ?_
  refine x_bok.cons (xs_aload_n d_L_law_759 rfl) ?_
  refine x_bok.cons (xs_aload_n d_L_law_760 rfl) ?_
  refine x_bok.cons (xs_iload d_L_law_761) ?_
  refine x_bok.cons (xs_iconst d_L_law_763 (by decide)) ?_
  refine x_bok.cons (xs_iadd d_L_law_764) ?_
  refine x_bok.cons (xs_iald d_L_law_765 rfl) ?_
  refine x_bok.cons (xs_aload_n d_L_law_766 rfl) ?_
  refine x_bok.cons (xs_iload d_L_law_767) ?_
  refine x_bok.cons (xs_iconst d_L_law_769 (by decide)) ?_
  refine x_bok.cons (xs_iadd d_L_law_770) ?_
  refine x_bok.cons (xs_iald d_L_law_771 rfl) ?_
  refine x_bok.cons (xs_aload_n d_L_law_772 rfl) ?_
  refine x_bok.cons (xs_invS d_L_law_773 sn_L_told is_L_told ⟨q4_175, q4_176, q1_0⟩ (by decide) (by decide) rfl) ?_
  refine x_bok.cons (xs_istore d_L_law_776 (by decide)) ?_
  refine x_bok.cons (xs_aload_n d_L_law_778 rfl) ?_
  refine x_bok.cons (xs_aload_n d_L_law_779 rfl) ?_
  refine x_bok.cons (xs_iload d_L_law_780) ?_
  refine x_bok.cons (xs_iconst d_L_law_782 (by decide)) ?_
  refine x_bok.cons (xs_iadd d_L_law_783) ?_
  refine x_bok.cons (xs_iald d_L_law_784 rfl) ?_
  refine x_bok.cons (xs_aload_n d_L_law_785 rfl) ?_
  refine x_bok.cons (xs_iload d_L_law_786) ?_
  refine x_bok.cons (xs_iconst d_L_law_788 (by decide)) ?_
  refine x_bok.cons (xs_iadd d_L_law_789) ?_
  refine x_bok.cons (xs_iald d_L_law_790 rfl) ?_
  refine x_bok.cons (xs_invV d_L_law_791 xc10 sn_R_told is_R_told ⟨q6_195, q6_196, q6_197, q1_12⟩ (by decide) (by decide) rfl) ?_
  refine x_bok.cons (xs_istore d_L_law_794 (by decide)) ?_
  refine x_bok.cons (xs_aload_n d_L_law_796 rfl) ?_
  refine x_bok.cons (xs_invV d_L_law_797 xc10 sn_R_thrown is_R_thrown ⟨q6_59, q6_60, q6_61, q1_12⟩ (by decide) (by decide) rfl) ?_
  refine x_bok.cons (xs_iload d_L_law_800) ?_
  refine x_bok.cons (xs_icmp_eq d_L_law_802 (by decide)) ?_
  refine x_bok.cons (xs_iconst d_L_law_805 (by decide)) ?_
  refine x_bok.cons (xs_zret d_L_law_806 rfl) ?_
  refine x_bok.cons (xs_iload d_L_law_807) ?_
  refine x_bok.cons (xs_if_ne d_L_law_809 (by decide)) ?_
  refine x_bok.cons (xs_aload_n d_L_law_812 rfl) ?_
  refine x_bok.cons (xs_iconst d_L_law_813 (by decide)) ?_
  refine x_bok.cons (xs_lald d_L_law_814 rfl) ?_
  refine x_bok.cons (xs_iload d_L_law_815) ?_
  refine x_bok.cons (xs_i2l d_L_law_817) ?_
  refine x_bok.cons (xs_lcmp d_L_law_818) ?_
  refine x_bok.cons (xs_if_eq d_L_law_819 (by decide)) ?_
  refine x_bok.cons (xs_iconst d_L_law_822 (by decide)) ?_
  refine x_bok.cons (xs_zret d_L_law_823 rfl) ?_
  refine x_bok.cons (xs_goto d_L_law_824 (by decide)) ?_
  refine x_bok.cons (xs_aload_n d_L_law_827 rfl) ?_
  refine x_bok.cons (xs_aload_n d_L_law_828 rfl) ?_
  refine x_bok.cons (xs_iload d_L_law_829) ?_
  refine x_bok.cons (xs_iconst d_L_law_831 (by decide)) ?_
  refine x_bok.cons (xs_iadd d_L_law_832) ?_
  refine x_bok.cons (xs_iald d_L_law_833 rfl) ?_
  refine x_bok.cons (xs_aload_n d_L_law_834 rfl) ?_
  refine x_bok.cons (xs_invS d_L_law_835 sn_L_balance is_L_balance ⟨q4_190, q4_191, q1_0⟩ (by decide) (by decide) rfl) ?_
  refine x_bok.cons (xs_istore d_L_law_838 (by decide)) ?_
  refine x_bok.cons (xs_aload_n d_L_law_840 rfl) ?_
  refine x_bok.cons (xs_aload_n d_L_law_841 rfl) ?_
  refine x_bok.cons (xs_iload d_L_law_842) ?_
  refine x_bok.cons (xs_iconst d_L_law_844 (by decide)) ?_
  refine x_bok.cons (xs_iadd d_L_law_845) ?_
  refine x_bok.cons (xs_iald d_L_law_846 rfl) ?_
  refine x_bok.cons (xs_invV d_L_law_847 xc10 sn_R_balance is_R_balance ⟨q6_199, q6_200, q6_201, q1_12⟩ (by decide) (by decide) rfl) ?_
  refine x_bok.cons (xs_istore d_L_law_850 (by decide)) ?_
  refine x_bok.cons (xs_aload_n d_L_law_852 rfl) ?_
  refine x_bok.cons (xs_invV d_L_law_853 xc10 sn_R_thrown is_R_thrown ⟨q6_59, q6_60, q6_61, q1_12⟩ (by decide) (by decide) rfl) ?_
  refine x_bok.cons (xs_iload d_L_law_856) ?_
  refine x_bok.cons (xs_icmp_eq d_L_law_858 (by decide)) ?_
  refine x_bok.cons (xs_iconst d_L_law_861 (by decide)) ?_
  refine x_bok.cons (xs_zret d_L_law_862 rfl) ?_
  refine x_bok.cons (xs_iload d_L_law_863) ?_
  refine x_bok.cons (xs_if_ne d_L_law_865 (by decide)) ?_
  refine x_bok.cons (xs_aload_n d_L_law_868 rfl) ?_
  refine x_bok.cons (xs_iconst d_L_law_869 (by decide)) ?_
  refine x_bok.cons (xs_lald d_L_law_870 rfl) ?_
  refine x_bok.cons (xs_iload d_L_law_871) ?_
  refine x_bok.cons (xs_i2l d_L_law_873) ?_
  refine x_bok.cons (xs_lcmp d_L_law_874) ?_
  refine x_bok.cons (xs_if_eq d_L_law_875 (by decide)) ?_
  refine x_bok.cons (xs_iconst d_L_law_878 (by decide)) ?_
  refine x_bok.cons (xs_zret d_L_law_879 rfl) ?_
  refine x_bok.cons (xs_goto d_L_law_880 (by decide)) ?_
  refine x_bok.cons (xs_aload_n d_L_law_883 rfl) ?_
  refine x_bok.cons (xs_aload_n d_L_law_884 rfl) ?_
  refine x_bok.cons (xs_iload d_L_law_885) ?_
  refine x_bok.cons (xs_iconst d_L_law_887 (by decide)) ?_
  refine x_bok.cons (xs_iadd d_L_law_888) ?_
  refine x_bok.cons (xs_iald d_L_law_889 rfl) ?_
  refine x_bok.cons (xs_aload_n d_L_law_890 rfl) ?_
  refine x_bok.cons (xs_invS d_L_law_891 sn_L_taken is_L_taken ⟨q4_198, q4_199, q1_0⟩ (by decide) (by decide) rfl) ?_
  refine x_bok.cons (xs_istore d_L_law_894 (by decide)) ?_
  refine x_bok.cons (xs_aload_n d_L_law_896 rfl) ?_
  refine x_bok.cons (xs_aload_n d_L_law_897 rfl) ?_
  refine x_bok.cons (xs_iload d_L_law_898) ?_
  refine x_bok.cons (xs_iconst d_L_law_900 (by decide)) ?_
  refine x_bok.cons (xs_iadd d_L_law_901) ?_
  refine x_bok.cons (xs_iald d_L_law_902 rfl) ?_
  refine x_bok.cons (xs_invV d_L_law_903 xc10 sn_R_taken is_R_taken ⟨q6_203, q6_204, q6_205, q1_12⟩ (by decide) (by decide) rfl) ?_
  refine x_bok.cons (xs_istore d_L_law_906 (by decide)) ?_
  refine x_bok.cons (xs_aload_n d_L_law_908 rfl) ?_
  refine x_bok.cons (xs_invV d_L_law_909 xc10 sn_R_thrown is_R_thrown ⟨q6_59, q6_60, q6_61, q1_12⟩ (by decide) (by decide) rfl) ?_
  refine x_bok.cons (xs_iload d_L_law_912) ?_
  refine x_bok.cons (xs_icmp_eq d_L_law_914 (by decide)) ?_
  refine x_bok.cons (xs_iconst d_L_law_917 (by decide)) ?_
  refine x_bok.cons (xs_zret d_L_law_918 rfl) ?_
  refine x_bok.cons (xs_iload d_L_law_919) ?_
  refine x_bok.cons (xs_if_ne d_L_law_921 (by decide)) ?_
  refine x_bok.cons (xs_aload_n d_L_law_924 rfl) ?_
  refine x_bok.cons (xs_iconst d_L_law_925 (by decide)) ?_
  refine x_bok.cons (xs_lald d_L_law_926 rfl) ?_
  refine x_bok.cons (xs_iload d_L_law_927) ?_
  refine x_bok.cons (xs_i2l d_L_law_929) ?_
  refine x_bok.cons (xs_lcmp d_L_law_930) ?_
  refine x_bok.cons (xs_if_eq d_L_law_931 (by decide)) ?_
  refine x_bok.cons (xs_iconst d_L_law_934 (by decide)) ?_
  refine x_bok.cons (xs_zret d_L_law_935 rfl) ?_
  refine x_bok.cons (xs_goto d_L_law_936 (by decide)) ?_
  refine x_bok.cons (xs_aload_n d_L_law_939 rfl) ?_
  refine x_bok.cons (xs_aload_n d_L_law_940 rfl) ?_
  refine x_bok.cons (xs_iload d_L_law_941) ?_
  refine x_bok.cons (xs_iconst d_L_law_943 (by decide)) ?_
  refine x_bok.cons (xs_iadd d_L_law_944) ?_
  refine x_bok.cons (xs_iald d_L_law_945 rfl) ?_
  refine x_bok.cons (xs_aload_n d_L_law_946 rfl) ?_
  refine x_bok.cons (xs_iload d_L_law_947) ?_
  refine x_bok.cons (xs_iconst d_L_law_949 (by decide)) ?_
  refine x_bok.cons (xs_iadd d_L_law_950) ?_
  refine x_bok.cons (xs_iald d_L_law_951 rfl) ?_
  refine x_bok.cons (xs_aload_n d_L_law_952 rfl) ?_
  refine x_bok.cons (xs_invS d_L_law_953 sn_L_byteAt is_L_byteAt ⟨q4_205, q4_206, q1_0⟩ (by decide) (by decide) rfl) ?_
  refine x_bok.cons (xs_istore d_L_law_956 (by decide)) ?_
  refine x_bok.cons (xs_aload_n d_L_law_958 rfl) ?_
  refine x_bok.cons (xs_aload_n d_L_law_959 rfl) ?_
  refine x_bok.cons (xs_iload d_L_law_960) ?_
  refine x_bok.cons (xs_iconst d_L_law_962 (by decide)) ?_
  refine x_bok.cons (xs_iadd d_L_law_963) ?_
  refine x_bok.cons (xs_iald d_L_law_964 rfl) ?_
  refine x_bok.cons (xs_aload_n d_L_law_965 rfl) ?_
  refine x_bok.cons (xs_iload d_L_law_966) ?_
  refine x_bok.cons (xs_iconst d_L_law_968 (by decide)) ?_
  refine x_bok.cons (xs_iadd d_L_law_969) ?_
  refine x_bok.cons (xs_iald d_L_law_970 rfl) ?_
  refine x_bok.cons (xs_invV d_L_law_971 xc10 sn_R_byteAt is_R_byteAt ⟨q6_207, q6_208, q6_209, q1_12⟩ (by decide) (by decide) rfl) ?_
  refine x_bok.cons (xs_istore d_L_law_974 (by decide)) ?_
  refine x_bok.cons (xs_aload_n d_L_law_976 rfl) ?_
  refine x_bok.cons (xs_invV d_L_law_977 xc10 sn_R_thrown is_R_thrown ⟨q6_59, q6_60, q6_61, q1_12⟩ (by decide) (by decide) rfl) ?_
  refine x_bok.cons (xs_iload d_L_law_980) ?_
  refine x_bok.cons (xs_icmp_eq d_L_law_982 (by decide)) ?_
  refine x_bok.cons (xs_iconst d_L_law_985 (by decide)) ?_
  refine x_bok.cons (xs_zret d_L_law_986 rfl) ?_
  refine x_bok.cons (xs_iload d_L_law_987) ?_
  refine x_bok.cons (xs_if_ne d_L_law_989 (by decide)) ?_
  refine x_bok.cons (xs_aload_n d_L_law_992 rfl) ?_
  refine x_bok.cons (xs_iconst d_L_law_993 (by decide)) ?_
  refine x_bok.cons (xs_lald d_L_law_994 rfl) ?_
  refine x_bok.cons (xs_iload d_L_law_995) ?_
  refine x_bok.cons (xs_i2l d_L_law_997) ?_
  refine x_bok.cons (xs_lcmp d_L_law_998) ?_
  refine x_bok.cons (xs_if_eq d_L_law_999 (by decide)) ?_
  refine x_bok.cons (xs_iconst d_L_law_1002 (by decide)) ?_
  refine x_bok.cons (xs_zret d_L_law_1003 rfl) ?_
  refine x_bok.cons (xs_goto d_L_law_1004 (by decide)) ?_
  refine x_bok.cons (xs_aload_n d_L_law_1007 rfl) ?_
  refine x_bok.cons (xs_aload_n d_L_law_1008 rfl) ?_
  refine x_bok.cons (xs_iload d_L_law_1009) ?_
  refine x_bok.cons (xs_iconst d_L_law_1011 (by decide)) ?_
  refine x_bok.cons (xs_iadd d_L_law_1012) ?_
  refine x_bok.cons (xs_iald d_L_law_1013 rfl) ?_
  refine x_bok.cons (xs_aload_n d_L_law_1014 rfl) ?_
  refine x_bok.cons (xs_iload d_L_law_1015) ?_
  refine x_bok.cons (xs_iconst d_L_law_1017 (by decide)) ?_
  refine x_bok.cons (xs_iadd d_L_law_1018) ?_
  refine x_bok.cons (xs_iald d_L_law_1019 rfl) ?_
  refine x_bok.cons (xs_aload_n d_L_law_1020 rfl) ?_
  refine x_bok.cons (xs_iload d_L_law_1021) ?_
  refine x_bok.cons (xs_iconst d_L_law_1023 (by decide)) ?_
  refine x_bok.cons (xs_iadd d_L_law_1024) ?_
  refine x_bok.cons (xs_iald d_L_law_1025 rfl) ?_
  refine x_bok.cons (xs_aload_n d_L_law_1026 rfl) ?_
  refine x_bok.cons (xs_invS d_L_law_1027 sn_L_mix is_L_mix ⟨q5_167, q5_168, q1_0⟩ (by decide) (by decide) rfl) ?_
  refine x_bok.cons (xs_istore d_L_law_1030 (by decide)) ?_
  refine x_bok.cons (xs_aload_n d_L_law_1032 rfl) ?_
  refine x_bok.cons (xs_aload_n d_L_law_1033 rfl) ?_
  refine x_bok.cons (xs_iload d_L_law_1034) ?_
  refine x_bok.cons (xs_iconst d_L_law_1036 (by decide)) ?_
  refine x_bok.cons (xs_iadd d_L_law_1037) ?_
  refine x_bok.cons (xs_iald d_L_law_1038 rfl) ?_
  refine x_bok.cons (xs_aload_n d_L_law_1039 rfl) ?_
  refine x_bok.cons (xs_iload d_L_law_1040) ?_
  refine x_bok.cons (xs_iconst d_L_law_1042 (by decide)) ?_
  refine x_bok.cons (xs_iadd d_L_law_1043) ?_
  refine x_bok.cons (xs_iald d_L_law_1044 rfl) ?_
  refine x_bok.cons (xs_aload_n d_L_law_1045 rfl) ?_
  refine x_bok.cons (xs_iload d_L_law_1046) ?_
  refine x_bok.cons (xs_iconst d_L_law_1048 (by decide)) ?_
  refine x_bok.cons (xs_iadd d_L_law_1049) ?_
  refine x_bok.cons (xs_iald d_L_law_1050 rfl) ?_
  refine x_bok.cons (xs_invV d_L_law_1051 xc10 sn_R_mix is_R_mix ⟨q6_223, q6_224, q6_225, q1_12⟩ (by decide) (by decide) rfl) ?_
  refine x_bok.cons (xs_istore d_L_law_1054 (by decide)) ?_
  refine x_bok.cons (xs_aload_n d_L_law_1056 rfl) ?_
  refine x_bok.cons (xs_invV d_L_law_1057 xc10 sn_R_thrown is_R_thrown ⟨q6_59, q6_60, q6_61, q1_12⟩ (by decide) (by decide) rfl) ?_
  refine x_bok.cons (xs_iload d_L_law_1060) ?_
  refine x_bok.cons (xs_icmp_eq d_L_law_1062 (by decide)) ?_
  refine x_bok.cons (xs_iconst d_L_law_1065 (by decide)) ?_
  refine x_bok.cons (xs_zret d_L_law_1066 rfl) ?_
  refine x_bok.cons (xs_iload d_L_law_1067) ?_
  refine x_bok.cons (xs_if_ne d_L_law_1069 (by decide)) ?_
  refine x_bok.cons (xs_aload_n d_L_law_1072 rfl) ?_
  refine x_bok.cons (xs_iconst d_L_law_1073 (by decide)) ?_
  refine x_bok.cons (xs_lald d_L_law_1074 rfl) ?_
  refine x_bok.cons (xs_iload d_L_law_1075) ?_
  refine x_bok.cons (xs_i2l d_L_law_1077) ?_
  refine x_bok.cons (xs_lcmp d_L_law_1078) ?_
  refine x_bok.cons (xs_if_eq d_L_law_1079 (by decide)) ?_
  refine x_bok.cons (xs_iconst d_L_law_1082 (by decide)) ?_
  refine x_bok.cons (xs_zret d_L_law_1083 rfl) ?_
  refine x_bok.cons (xs_goto d_L_law_1084 (by decide)) ?_
  refine x_bok.cons (xs_aload_n d_L_law_1087 rfl) ?_
  refine x_bok.cons (xs_aload_n d_L_law_1088 rfl) ?_
  refine x_bok.cons (xs_iload d_L_law_1089) ?_
  refine x_bok.cons (xs_iconst d_L_law_1091 (by decide)) ?_
  refine x_bok.cons (xs_iadd d_L_law_1092) ?_
  refine x_bok.cons (xs_iald d_L_law_1093 rfl) ?_
  refine x_bok.cons (xs_aload_n d_L_law_1094 rfl) ?_
  refine x_bok.cons (xs_invS d_L_law_1095 sn_L_count is_L_count ⟨q5_176, q5_177, q1_0⟩ (by decide) (by decide) rfl) ?_
  refine x_bok.cons (xs_istore d_L_law_1098 (by decide)) ?_
  refine x_bok.cons (xs_aload_n d_L_law_1100 rfl) ?_
  refine x_bok.cons (xs_aload_n d_L_law_1101 rfl) ?_
  refine x_bok.cons (xs_iload d_L_law_1102) ?_
  refine x_bok.cons (xs_iconst d_L_law_1104 (by decide)) ?_
  refine x_bok.cons (xs_iadd d_L_law_1105) ?_
  refine x_bok.cons (xs_iald d_L_law_1106 rfl) ?_
  refine x_bok.cons (xs_invV d_L_law_1107 xc10 sn_R_count is_R_count ⟨q6_227, q6_228, q6_229, q1_12⟩ (by decide) (by decide) rfl) ?_
  refine x_bok.cons (xs_istore d_L_law_1110 (by decide)) ?_
  refine x_bok.cons (xs_aload_n d_L_law_1112 rfl) ?_
  refine x_bok.cons (xs_invV d_L_law_1113 xc10 sn_R_thrown is_R_thrown ⟨q6_59, q6_60, q6_61, q1_12⟩ (by decide) (by decide) rfl) ?_
  refine x_bok.cons (xs_iload d_L_law_1116) ?_
  refine x_bok.cons (xs_icmp_eq d_L_law_1118 (by decide)) ?_
  refine x_bok.cons (xs_iconst d_L_law_1121 (by decide)) ?_
  refine x_bok.cons (xs_zret d_L_law_1122 rfl) ?_
  refine x_bok.cons (xs_iload d_L_law_1123) ?_
  refine x_bok.cons (xs_if_ne d_L_law_1125 (by decide)) ?_
  refine x_bok.cons (xs_aload_n d_L_law_1128 rfl) ?_
  refine x_bok.cons (xs_iconst d_L_law_1129 (by decide)) ?_
  refine x_bok.cons (xs_lald d_L_law_1130 rfl) ?_
  refine x_bok.cons (xs_iload d_L_law_1131) ?_
  refine x_bok.cons (xs_i2l d_L_law_1133) ?_
  refine x_bok.cons (xs_lcmp d_L_law_1134) ?_
  refine x_bok.cons (xs_if_eq d_L_law_1135 (by decide)) ?_
  refine x_bok.cons (xs_iconst d_L_law_1138 (by decide)) ?_
  refine x_bok.cons (xs_zret d_L_law_1139 rfl) ?_
  refine x_bok.cons (xs_goto d_L_law_1140 (by decide)) ?_
  refine x_bok.cons (xs_iinc d_L_law_1143 (by decide) (by decide)) ?_
  refine x_bok.cons (xs_goto d_L_law_1146 (by decide)) ?_
  refine x_bok.cons (xs_iconst d_L_law_1149 (by decide)) ?_
  refine x_bok.cons (xs_zret d_L_law_1150 rfl) ?_
  exact x_bok.nil
set_option maxRecDepth 100000 in
theorem mn_L_law : x_bmn b_L_law := by
  unfold b_L_law
  refine x_bmn.cons (xm_new) ?_
  refine x_bmn.cons (xm_dup) ?_
  refine x_bmn.cons (xm_invI ym_C_init) ?_
  refine x_bmn.cons (xm_astore) ?_
  refine x_bmn.cons (xm_new) ?_
  refine x_bmn.cons (xm_dup) ?_
  refine x_bmn.cons (xm_invI ym_R_init) ?_
  refine x_bmn.cons (xm_astore) ?_
  refine x_bmn.cons (xm_push) ?_
  refine x_bmn.cons (xm_newa) ?_
  refine x_bmn.cons (xm_astore) ?_
  refine x_bmn.cons (xm_push) ?_
  refine x_bmn.cons (xm_istore) ?_
  refine x_bmn.cons (xm_iload) ?_
  refine x_bmn.cons (xm_aload) ?_
  refine x_bmn.cons (xm_alen) ?_
  refine x_bmn.cons (xm_push) ?_
  refine x_bmn.cons (xm_bin) ?_
  refine x_bmn.cons (xm_icmp) ?_
  refine x_bmn.cons (xm_aload) ?_
  refine x_bmn.cons (xm_iload) ?_
  refine x_bmn.cons (xm_ald) ?_
  refine x_bmn.cons (xm_push) ?_
  refine x_bmn.cons (xm_bin) ?_
  refine x_bmn.cons (xm_sw) ?_
  refine x_bmn.cons (xm_aload) ?_
  refine x_bmn.cons (xm_aload) ?_
  refine x_bmn.cons (xm_iload) ?_
  refine x_bmn.cons (xm_push) ?_
  refine x_bmn.cons (xm_bin) ?_
  refine x_bmn.cons (xm_ald) ?_
  refine x_bmn.cons (xm_aload) ?_
  refine x_bmn.cons (xm_iload) ?_
  refine x_bmn.cons (xm_push) ?_
  refine x_bmn.cons (xm_bin) ?_
  refine x_bmn.cons (xm_ald) ?_
  refine x_bmn.cons (xm_invS ym_L_card) ?_
  refine x_bmn.cons (xm_istore) ?_
  refine x_bmn.cons (xm_aload) ?_
  refine x_bmn.cons (xm_aload) ?_
  refine x_bmn.cons (xm_iload) ?_
  refine x_bmn.cons (xm_push) ?_
  refine x_bmn.cons (xm_bin) ?_
  refine x_bmn.cons (xm_ald) ?_
  refine x_bmn.cons (xm_aload) ?_
  refine x_bmn.cons (xm_iload) ?_
  refine x_bmn.cons (xm_push) ?_
  refine x_bmn.cons (xm_bin) ?_
  refine x_bmn.cons (xm_ald) ?_
  refine x_bmn.cons (xm_invV ym_R_card) ?_
  refine x_bmn.cons (xm_aload) ?_
  refine x_bmn.cons (xm_invV ym_R_thrown) ?_
  refine x_bmn.cons (xm_iload) ?_
  refine x_bmn.cons (xm_icmp) ?_
  refine x_bmn.cons (xm_push) ?_
  refine x_bmn.cons (xm_zret) ?_
  refine x_bmn.cons (xm_goto) ?_
  refine x_bmn.cons (xm_aload) ?_
  refine x_bmn.cons (xm_aload) ?_
  refine x_bmn.cons (xm_iload) ?_
  refine x_bmn.cons (xm_push) ?_
  refine x_bmn.cons (xm_bin) ?_
  refine x_bmn.cons (xm_ald) ?_
  refine x_bmn.cons (xm_aload) ?_
  refine x_bmn.cons (xm_iload) ?_
  refine x_bmn.cons (xm_push) ?_
  refine x_bmn.cons (xm_bin) ?_
  refine x_bmn.cons (xm_ald) ?_
  refine x_bmn.cons (xm_aload) ?_
  refine x_bmn.cons (xm_invS ym_L_pin) ?_
  refine x_bmn.cons (xm_istore) ?_
  refine x_bmn.cons (xm_aload) ?_
  refine x_bmn.cons (xm_aload) ?_
  refine x_bmn.cons (xm_iload) ?_
  refine x_bmn.cons (xm_push) ?_
  refine x_bmn.cons (xm_bin) ?_
  refine x_bmn.cons (xm_ald) ?_
  refine x_bmn.cons (xm_aload) ?_
  refine x_bmn.cons (xm_iload) ?_
  refine x_bmn.cons (xm_push) ?_
  refine x_bmn.cons (xm_bin) ?_
  refine x_bmn.cons (xm_ald) ?_
  refine x_bmn.cons (xm_invV ym_R_pin) ?_
  refine x_bmn.cons (xm_istore) ?_
  refine x_bmn.cons (xm_aload) ?_
  refine x_bmn.cons (xm_invV ym_R_thrown) ?_
  refine x_bmn.cons (xm_iload) ?_
  refine x_bmn.cons (xm_icmp) ?_
  refine x_bmn.cons (xm_push) ?_
  refine x_bmn.cons (xm_zret) ?_
  refine x_bmn.cons (xm_iload) ?_
  refine x_bmn.cons (xm_if) ?_
  refine x_bmn.cons (xm_aload) ?_
  refine x_bmn.cons (xm_push) ?_
  refine x_bmn.cons (xm_lald) ?_
  refine x_bmn.cons (xm_iload) ?_
  refine x_bmn.cons (xm_if) ?_
  refine x_bmn.cons (xm_push) ?_
  refine x_bmn.cons (xm_goto) ?_
  refine x_bmn.cons (xm_push) ?_
  refine x_bmn.cons (xm_lcmp) ?_
  refine x_bmn.cons (xm_if) ?_
  refine x_bmn.cons (xm_push) ?_
  refine x_bmn.cons (xm_zret) ?_
  refine x_bmn.cons (xm_goto) ?_
  refine x_bmn.cons (xm_aload) ?_
  refine x_bmn.cons (xm_aload) ?_
  refine x_bmn.cons (xm_iload) ?_
  refine x_bmn.cons (xm_push) ?_
  refine x_bmn.cons (xm_bin) ?_
  refine x_bmn.cons (xm_ald) ?_
  refine x_bmn.cons (xm_aload) ?_
  refine x_bmn.cons (xm_iload) ?_
  refine x_bmn.cons (xm_push) ?_
  refine x_bmn.cons (xm_bin) ?_
  refine x_bmn.cons (xm_ald) ?_
  refine x_bmn.cons (xm_aload) ?_
  refine x_bmn.cons (xm_invS ym_L_ask) ?_
  refine x_bmn.cons (xm_istore) ?_
  refine x_bmn.cons (xm_aload) ?_
  refine x_bmn.cons (xm_aload) ?_
  refine x_bmn.cons (xm_iload) ?_
  refine x_bmn.cons (xm_push) ?_
  refine x_bmn.cons (xm_bin) ?_
  refine x_bmn.cons (xm_ald) ?_
  refine x_bmn.cons (xm_aload) ?_
  refine x_bmn.cons (xm_iload) ?_
  refine x_bmn.cons (xm_push) ?_
  refine x_bmn.cons (xm_bin) ?_
  refine x_bmn.cons (xm_ald) ?_
  refine x_bmn.cons (xm_invV ym_R_ask) ?_
  refine x_bmn.cons (xm_istore) ?_
  refine x_bmn.cons (xm_aload) ?_
  refine x_bmn.cons (xm_invV ym_R_thrown) ?_
  refine x_bmn.cons (xm_iload) ?_
  refine x_bmn.cons (xm_icmp) ?_
  refine x_bmn.cons (xm_push) ?_
  refine x_bmn.cons (xm_zret) ?_
  refine x_bmn.cons (xm_iload) ?_
  refine x_bmn.cons (xm_if) ?_
  refine x_bmn.cons (xm_aload) ?_
  refine x_bmn.cons (xm_push) ?_
  refine x_bmn.cons (xm_lald) ?_
  refine x_bmn.cons (xm_iload) ?_
  refine x_bmn.cons (xm_i2l) ?_
  refine x_bmn.cons (xm_lcmp) ?_
  refine x_bmn.cons (xm_if) ?_
  refine x_bmn.cons (xm_push) ?_
  refine x_bmn.cons (xm_zret) ?_
  refine x_bmn.cons (xm_goto) ?_
  refine x_bmn.cons (xm_aload) ?_
  refine x_bmn.cons (xm_aload) ?_
  refine x_bmn.cons (xm_iload) ?_
  refine x_bmn.cons (xm_push) ?_
  refine x_bmn.cons (xm_bin) ?_
  refine x_bmn.cons (xm_ald) ?_
  refine x_bmn.cons (xm_invS ym_L_cancel) ?_
  refine x_bmn.cons (xm_istore) ?_
  refine x_bmn.cons (xm_aload) ?_
  refine x_bmn.cons (xm_aload) ?_
  refine x_bmn.cons (xm_iload) ?_
  refine x_bmn.cons (xm_push) ?_
  refine x_bmn.cons (xm_bin) ?_
  refine x_bmn.cons (xm_ald) ?_
  refine x_bmn.cons (xm_invV ym_R_cancel) ?_
  refine x_bmn.cons (xm_aload) ?_
  refine x_bmn.cons (xm_invV ym_R_thrown) ?_
  refine x_bmn.cons (xm_iload) ?_
  refine x_bmn.cons (xm_icmp) ?_
  refine x_bmn.cons (xm_push) ?_
  refine x_bmn.cons (xm_zret) ?_
  refine x_bmn.cons (xm_goto) ?_
  refine x_bmn.cons (xm_aload) ?_
  refine x_bmn.cons (xm_aload) ?_
  refine x_bmn.cons (xm_iload) ?_
  refine x_bmn.cons (xm_push) ?_
  refine x_bmn.cons (xm_bin) ?_
  refine x_bmn.cons (xm_ald) ?_
  refine x_bmn.cons (xm_aload) ?_
  refine x_bmn.cons (xm_invS ym_L_again) ?_
  refine x_bmn.cons (xm_istore) ?_
  refine x_bmn.cons (xm_aload) ?_
  refine x_bmn.cons (xm_aload) ?_
  refine x_bmn.cons (xm_iload) ?_
  refine x_bmn.cons (xm_push) ?_
  refine x_bmn.cons (xm_bin) ?_
  refine x_bmn.cons (xm_ald) ?_
  refine x_bmn.cons (xm_invV ym_R_again) ?_
  refine x_bmn.cons (xm_istore) ?_
  refine x_bmn.cons (xm_aload) ?_
  refine x_bmn.cons (xm_invV ym_R_thrown) ?_
  refine x_bmn.cons (xm_iload) ?_
  refine x_bmn.cons (xm_icmp) ?_
  refine x_bmn.cons (xm_push) ?_
  refine x_bmn.cons (xm_zret) ?_
  refine x_bmn.cons (xm_iload) ?_
  refine x_bmn.cons (xm_if) ?_
  refine x_bmn.cons (xm_aload) ?_
  refine x_bmn.cons (xm_push) ?_
  refine x_bmn.cons (xm_lald) ?_
  refine x_bmn.cons (xm_iload) ?_
  refine x_bmn.cons (xm_i2l) ?_
  refine x_bmn.cons (xm_lcmp) ?_
  refine x_bmn.cons (xm_if) ?_
  refine x_bmn.cons (xm_push) ?_
  refine x_bmn.cons (xm_zret) ?_
  refine x_bmn.cons (xm_goto) ?_
  refine x_bmn.cons (xm_aload) ?_
  refine x_bmn.cons (xm_aload) ?_
  refine x_bmn.cons (xm_iload) ?_
  refine x_bmn.cons (xm_push) ?_
  refine x_bmn.cons (xm_bin) ?_
  refine x_bmn.cons (xm_ald) ?_
  refine x_bmn.cons (xm_aload) ?_
  refine x_bmn.cons (xm_invS ym_L_settle) ?_
  refine x_bmn.cons (xm_istore) ?_
  refine x_bmn.cons (xm_aload) ?_
  refine x_bmn.cons (xm_aload) ?_
  refine x_bmn.cons (xm_iload) ?_
  refine x_bmn.cons (xm_push) ?_
  refine x_bmn.cons (xm_bin) ?_
  refine x_bmn.cons (xm_ald) ?_
  refine x_bmn.cons (xm_invV ym_R_settle) ?_
  refine x_bmn.cons (xm_istore) ?_
  refine x_bmn.cons (xm_aload) ?_
  refine x_bmn.cons (xm_invV ym_R_thrown) ?_
  refine x_bmn.cons (xm_iload) ?_
  refine x_bmn.cons (xm_icmp) ?_
  refine x_bmn.cons (xm_push) ?_
  refine x_bmn.cons (xm_zret) ?_
  refine x_bmn.cons (xm_iload) ?_
  refine x_bmn.cons (xm_if) ?_
  refine x_bmn.cons (xm_aload) ?_
  refine x_bmn.cons (xm_push) ?_
  refine x_bmn.cons (xm_lald) ?_
  refine x_bmn.cons (xm_iload) ?_
  refine x_bmn.cons (xm_i2l) ?_
  refine x_bmn.cons (xm_lcmp) ?_
  refine x_bmn.cons (xm_if) ?_
  refine x_bmn.cons (xm_push) ?_
  refine x_bmn.cons (xm_zret) ?_
  refine x_bmn.cons (xm_goto) ?_
  refine x_bmn.cons (xm_aload) ?_
  refine x_bmn.cons (xm_aload) ?_
  refine x_bmn.cons (xm_iload) ?_
  refine x_bmn.cons (xm_push) ?_
  refine x_bmn.cons (xm_bin) ?_
  refine x_bmn.cons (xm_ald) ?_
  refine x_bmn.cons (xm_aload) ?_
  refine x_bmn.cons (xm_invS ym_L_deliver) ?_
  refine x_bmn.cons (xm_istore) ?_
  refine x_bmn.cons (xm_aload) ?_
  refine x_bmn.cons (xm_aload) ?_
  refine x_bmn.cons (xm_iload) ?_
  refine x_bmn.cons (xm_push) ?_
  refine x_bmn.cons (xm_bin) ?_
  refine x_bmn.cons (xm_ald) ?_
  refine x_bmn.cons (xm_invV ym_R_deliver) ?_
  refine x_bmn.cons (xm_istore) ?_
  refine x_bmn.cons (xm_aload) ?_
  refine x_bmn.cons (xm_invV ym_R_thrown) ?_
  refine x_bmn.cons (xm_iload) ?_
  refine x_bmn.cons (xm_icmp) ?_
  refine x_bmn.cons (xm_push) ?_
  refine x_bmn.cons (xm_zret) ?_
  refine x_bmn.cons (xm_iload) ?_
  refine x_bmn.cons (xm_if) ?_
  refine x_bmn.cons (xm_aload) ?_
  refine x_bmn.cons (xm_push) ?_
  refine x_bmn.cons (xm_lald) ?_
  refine x_bmn.cons (xm_iload) ?_
  refine x_bmn.cons (xm_i2l) ?_
  refine x_bmn.cons (xm_lcmp) ?_
  refine x_bmn.cons (xm_if) ?_
  refine x_bmn.cons (xm_push) ?_
  refine x_bmn.cons (xm_zret) ?_
  refine x_bmn.cons (xm_goto) ?_
  refine x_bmn.cons (xm_aload) ?_
  refine x_bmn.cons (xm_aload) ?_
  refine x_bmn.cons (xm_iload) ?_
  refine x_bmn.cons (xm_push) ?_
  refine x_bmn.cons (xm_bin) ?_
  refine x_bmn.cons (xm_ald) ?_
  refine x_bmn.cons (xm_aload) ?_
  refine x_bmn.cons (xm_iload) ?_
  refine x_bmn.cons (xm_push) ?_
  refine x_bmn.cons (xm_bin) ?_
  refine x_bmn.cons (xm_ald) ?_
  refine x_bmn.cons (xm_invS ym_L_jam) ?_
  refine x_bmn.cons (xm_istore) ?_
  refine x_bmn.cons (xm_aload) ?_
  refine x_bmn.cons (xm_aload) ?_
  refine x_bmn.cons (xm_iload) ?_
  refine x_bmn.cons (xm_push) ?_
  refine x_bmn.cons (xm_bin) ?_
  refine x_bmn.cons (xm_ald) ?_
  refine x_bmn.cons (xm_aload) ?_
  refine x_bmn.cons (xm_iload) ?_
  refine x_bmn.cons (xm_push) ?_
  refine x_bmn.cons (xm_bin) ?_
  refine x_bmn.cons (xm_ald) ?_
  refine x_bmn.cons (xm_invV ym_R_jam) ?_
  refine x_bmn.cons (xm_aload) ?_
  refine x_bmn.cons (xm_invV ym_R_thrown) ?_
  refine x_bmn.cons (xm_iload) ?_
  refine x_bmn.cons (xm_icmp) ?_
  refine x_bmn.cons (xm_push) ?_
  refine x_bmn.cons (xm_zret) ?_
  refine x_bmn.cons (xm_goto) ?_
  refine x_bmn.cons (xm_aload) ?_
  refine x_bmn.cons (xm_aload) ?_
  refine x_bmn.cons (xm_iload) ?_
  refine x_bmn.cons (xm_push) ?_
  refine x_bmn.cons (xm_bin) ?_
  refine x_bmn.cons (xm_ald) ?_
  refine x_bmn.cons (xm_aload) ?_
  refine x_bmn.cons (xm_iload) ?_
  refine x_bmn.cons (xm_push) ?_
  refine x_bmn.cons (xm_bin) ?_
  refine x_bmn.cons (xm_ald) ?_
  refine x_bmn.cons (xm_aload) ?_
  refine x_bmn.cons (xm_iload) ?_
  refine x_bmn.cons (xm_push) ?_
  refine x_bmn.cons (xm_bin) ?_
  refine x_bmn.cons (xm_ald) ?_
  refine x_bmn.cons (xm_aload) ?_
  refine x_bmn.cons (xm_invS ym_L_load) ?_
  refine x_bmn.cons (xm_istore) ?_
  refine x_bmn.cons (xm_aload) ?_
  refine x_bmn.cons (xm_aload) ?_
  refine x_bmn.cons (xm_iload) ?_
  refine x_bmn.cons (xm_push) ?_
  refine x_bmn.cons (xm_bin) ?_
  refine x_bmn.cons (xm_ald) ?_
  refine x_bmn.cons (xm_aload) ?_
  refine x_bmn.cons (xm_iload) ?_
  refine x_bmn.cons (xm_push) ?_
  refine x_bmn.cons (xm_bin) ?_
  refine x_bmn.cons (xm_ald) ?_
  refine x_bmn.cons (xm_aload) ?_
  refine x_bmn.cons (xm_iload) ?_
  refine x_bmn.cons (xm_push) ?_
  refine x_bmn.cons (xm_bin) ?_
  refine x_bmn.cons (xm_ald) ?_
  refine x_bmn.cons (xm_invV ym_R_load) ?_
  refine x_bmn.cons (xm_istore) ?_
  refine x_bmn.cons (xm_aload) ?_
  refine x_bmn.cons (xm_invV ym_R_thrown) ?_
  refine x_bmn.cons (xm_iload) ?_
  refine x_bmn.cons (xm_icmp) ?_
  refine x_bmn.cons (xm_push) ?_
  refine x_bmn.cons (xm_zret) ?_
  refine x_bmn.cons (xm_iload) ?_
  refine x_bmn.cons (xm_if) ?_
  refine x_bmn.cons (xm_aload) ?_
  refine x_bmn.cons (xm_push) ?_
  refine x_bmn.cons (xm_lald) ?_
  refine x_bmn.cons (xm_iload) ?_
  refine x_bmn.cons (xm_i2l) ?_
  refine x_bmn.cons (xm_lcmp) ?_
  refine x_bmn.cons (xm_if) ?_
  refine x_bmn.cons (xm_push) ?_
  refine x_bmn.cons (xm_zret) ?_
  refine x_bmn.cons (xm_goto) ?_
  refine x_bmn.cons (xm_aload) ?_
  refine x_bmn.cons (xm_aload) ?_
  refine x_bmn.cons (xm_iload) ?_
  refine x_bmn.cons (xm_push) ?_
  refine x_bmn.cons (xm_bin) ?_
  refine x_bmn.cons (xm_ald) ?_
  refine x_bmn.cons (xm_aload) ?_
  refine x_bmn.cons (xm_iload) ?_
  refine x_bmn.cons (xm_push) ?_
  refine x_bmn.cons (xm_bin) ?_
  refine x_bmn.cons (xm_ald) ?_
  refine x_bmn.cons (xm_aload) ?_
  refine x_bmn.cons (xm_iload) ?_
  refine x_bmn.cons (xm_push) ?_
  refine x_bmn.cons (xm_bin) ?_
  refine x_bmn.cons (xm_ald) ?_
  refine x_bmn.cons (xm_invS ym_L_power) ?_
  refine x_bmn.cons (xm_istore) ?_
  refine x_bmn.cons (xm_aload) ?_
  refine x_bmn.cons (xm_aload) ?_
  refine x_bmn.cons (xm_iload) ?_
  refine x_bmn.cons (xm_push) ?_
  refine x_bmn.cons (xm_bin) ?_
  refine x_bmn.cons (xm_ald) ?_
  refine x_bmn.cons (xm_aload) ?_
  refine x_bmn.cons (xm_iload) ?_
  refine x_bmn.cons (xm_push) ?_
  refine x_bmn.cons (xm_bin) ?_
  refine x_bmn.cons (xm_ald) ?_
  refine x_bmn.cons (xm_aload) ?_
  refine x_bmn.cons (xm_iload) ?_
  refine x_bmn.cons (xm_push) ?_
  refine x_bmn.cons (xm_bin) ?_
  refine x_bmn.cons (xm_ald) ?_
  refine x_bmn.cons (xm_invV ym_R_power) ?_
  refine x_bmn.cons (xm_aload) ?_
  refine x_bmn.cons (xm_invV ym_R_thrown) ?_
  refine x_bmn.cons (xm_iload) ?_
  refine x_bmn.cons (xm_icmp) ?_
  refine x_bmn.cons (xm_push) ?_
  refine x_bmn.cons (xm_zret) ?_
  refine x_bmn.cons (xm_goto) ?_
  refine x_bmn.cons (xm_aload) ?_
  refine x_bmn.cons (xm_aload) ?_
  refine x_bmn.cons (xm_iload) ?_
  refine x_bmn.cons (xm_push) ?_
  refine x_bmn.cons (xm_bin) ?_
  refine x_bmn.cons (xm_ald) ?_
  refine x_bmn.cons (xm_aload) ?_
  refine x_bmn.cons (xm_invS ym_L_on) ?_
  refine x_bmn.cons (xm_istore) ?_
  refine x_bmn.cons (xm_aload) ?_
  refine x_bmn.cons (xm_aload) ?_
  refine x_bmn.cons (xm_iload) ?_
  refine x_bmn.cons (xm_push) ?_
  refine x_bmn.cons (xm_bin) ?_
  refine x_bmn.cons (xm_ald) ?_
  refine x_bmn.cons (xm_invV ym_R_on) ?_
  refine x_bmn.cons (xm_istore) ?_
  refine x_bmn.cons (xm_aload) ?_
  refine x_bmn.cons (xm_invV ym_R_thrown) ?_
  refine x_bmn.cons (xm_iload) ?_
  refine x_bmn.cons (xm_icmp) ?_
  refine x_bmn.cons (xm_push) ?_
  refine x_bmn.cons (xm_zret) ?_
  refine x_bmn.cons (xm_iload) ?_
  refine x_bmn.cons (xm_if) ?_
  refine x_bmn.cons (xm_aload) ?_
  refine x_bmn.cons (xm_push) ?_
  refine x_bmn.cons (xm_lald) ?_
  refine x_bmn.cons (xm_iload) ?_
  refine x_bmn.cons (xm_i2l) ?_
  refine x_bmn.cons (xm_lcmp) ?_
  refine x_bmn.cons (xm_if) ?_
  refine x_bmn.cons (xm_push) ?_
  refine x_bmn.cons (xm_zret) ?_
  refine x_bmn.cons (xm_goto) ?_
  refine x_bmn.cons (xm_aload) ?_
  refine x_bmn.cons (xm_aload) ?_
  refine x_bmn.cons (xm_iload) ?_
  refine x_bmn.cons (xm_push) ?_
  refine x_bmn.cons (xm_bin) ?_
  refine x_bmn.cons (xm_ald) ?_
  refine x_bmn.cons (xm_aload) ?_
  refine x_bmn.cons (xm_iload) ?_
  refine x_bmn.cons (xm_push) ?_
  refine x_bmn.cons (xm_bin) ?_
  refine x_bmn.cons (xm_ald) ?_
  refine x_bmn.cons (xm_aload) ?_
  refine x_bmn.cons (xm_invS ym_L_told) ?_
  refine x_bmn.cons (xm_istore) ?_
  refine x_bmn.cons (xm_aload) ?_
  refine x_bmn.cons (xm_aload) ?_
  refine x_bmn.cons (xm_iload) ?_
  refine x_bmn.cons (xm_push) ?_
  refine x_bmn.cons (xm_bin) ?_
  refine x_bmn.cons (xm_ald) ?_
  refine x_bmn.cons (xm_aload) ?_
  refine x_bmn.cons (xm_iload) ?_
  refine x_bmn.cons (xm_push) ?_
  refine x_bmn.cons (xm_bin) ?_
  refine x_bmn.cons (xm_ald) ?_
  refine x_bmn.cons (xm_invV ym_R_told) ?_
  refine x_bmn.cons (xm_istore) ?_
  refine x_bmn.cons (xm_aload) ?_
  refine x_bmn.cons (xm_invV ym_R_thrown) ?_
  refine x_bmn.cons (xm_iload) ?_
  refine x_bmn.cons (xm_icmp) ?_
  refine x_bmn.cons (xm_push) ?_
  refine x_bmn.cons (xm_zret) ?_
  refine x_bmn.cons (xm_iload) ?_
  refine x_bmn.cons (xm_if) ?_
  refine x_bmn.cons (xm_aload) ?_
  refine x_bmn.cons (xm_push) ?_
  refine x_bmn.cons (xm_lald) ?_
  refine x_bmn.cons (xm_iload) ?_
  refine x_bmn.cons (xm_i2l) ?_
  refine x_bmn.cons (xm_lcmp) ?_
  refine x_bmn.cons (xm_if) ?_
  refine x_bmn.cons (xm_push) ?_
  refine x_bmn.cons (xm_zret) ?_
  refine x_bmn.cons (xm_goto) ?_
  refine x_bmn.cons (xm_aload) ?_
  refine x_bmn.cons (xm_aload) ?_
  refine x_bmn.cons (xm_iload) ?_
  refine x_bmn.cons (xm_push) ?_
  refine x_bmn.cons (xm_bin) ?_
  refine x_bmn.cons (xm_ald) ?_
  refine x_bmn.cons (xm_aload) ?_
  refine x_bmn.cons (xm_invS ym_L_balance) ?_
  refine x_bmn.cons (xm_istore) ?_
  refine x_bmn.cons (xm_aload) ?_
  refine x_bmn.cons (xm_aload) ?_
  refine x_bmn.cons (xm_iload) ?_
  refine x_bmn.cons (xm_push) ?_
  refine x_bmn.cons (xm_bin) ?_
  refine x_bmn.cons (xm_ald) ?_
  refine x_bmn.cons (xm_invV ym_R_balance) ?_
  refine x_bmn.cons (xm_istore) ?_
  refine x_bmn.cons (xm_aload) ?_
  refine x_bmn.cons (xm_invV ym_R_thrown) ?_
  refine x_bmn.cons (xm_iload) ?_
  refine x_bmn.cons (xm_icmp) ?_
  refine x_bmn.cons (xm_push) ?_
  refine x_bmn.cons (xm_zret) ?_
  refine x_bmn.cons (xm_iload) ?_
  refine x_bmn.cons (xm_if) ?_
  refine x_bmn.cons (xm_aload) ?_
  refine x_bmn.cons (xm_push) ?_
  refine x_bmn.cons (xm_lald) ?_
  refine x_bmn.cons (xm_iload) ?_
  refine x_bmn.cons (xm_i2l) ?_
  refine x_bmn.cons (xm_lcmp) ?_
  refine x_bmn.cons (xm_if) ?_
  refine x_bmn.cons (xm_push) ?_
  refine x_bmn.cons (xm_zret) ?_
  refine x_bmn.cons (xm_goto) ?_
  refine x_bmn.cons (xm_aload) ?_
  refine x_bmn.cons (xm_aload) ?_
  refine x_bmn.cons (xm_iload) ?_
  refine x_bmn.cons (xm_push) ?_
  refine x_bmn.cons (xm_bin) ?_
  refine x_bmn.cons (xm_ald) ?_
  refine x_bmn.cons (xm_aload) ?_
  refine x_bmn.cons (xm_invS ym_L_taken) ?_
  refine x_bmn.cons (xm_istore) ?_
  refine x_bmn.cons (xm_aload) ?_
  refine x_bmn.cons (xm_aload) ?_
  refine x_bmn.cons (xm_iload) ?_
  refine x_bmn.cons (xm_push) ?_
  refine x_bmn.cons (xm_bin) ?_
  refine x_bmn.cons (xm_ald) ?_
  refine x_bmn.cons (xm_invV ym_R_taken) ?_
  refine x_bmn.cons (xm_istore) ?_
  refine x_bmn.cons (xm_aload) ?_
  refine x_bmn.cons (xm_invV ym_R_thrown) ?_
  refine x_bmn.cons (xm_iload) ?_
  refine x_bmn.cons (xm_icmp) ?_
  refine x_bmn.cons (xm_push) ?_
  refine x_bmn.cons (xm_zret) ?_
  refine x_bmn.cons (xm_iload) ?_
  refine x_bmn.cons (xm_if) ?_
  refine x_bmn.cons (xm_aload) ?_
  refine x_bmn.cons (xm_push) ?_
  refine x_bmn.cons (xm_lald) ?_
  refine x_bmn.cons (xm_iload) ?_
  refine x_bmn.cons (xm_i2l) ?_
  refine x_bmn.cons (xm_lcmp) ?_
  refine x_bmn.cons (xm_if) ?_
  refine x_bmn.cons (xm_push) ?_
  refine x_bmn.cons (xm_zret) ?_
  refine x_bmn.cons (xm_goto) ?_
  refine x_bmn.cons (xm_aload) ?_
  refine x_bmn.cons (xm_aload) ?_
  refine x_bmn.cons (xm_iload) ?_
  refine x_bmn.cons (xm_push) ?_
  refine x_bmn.cons (xm_bin) ?_
  refine x_bmn.cons (xm_ald) ?_
  refine x_bmn.cons (xm_aload) ?_
  refine x_bmn.cons (xm_iload) ?_
  refine x_bmn.cons (xm_push) ?_
  refine x_bmn.cons (xm_bin) ?_
  refine x_bmn.cons (xm_ald) ?_
  refine x_bmn.cons (xm_aload) ?_
  refine x_bmn.cons (xm_invS ym_L_byteAt) ?_
  refine x_bmn.cons (xm_istore) ?_
  refine x_bmn.cons (xm_aload) ?_
  refine x_bmn.cons (xm_aload) ?_
  refine x_bmn.cons (xm_iload) ?_
  refine x_bmn.cons (xm_push) ?_
  refine x_bmn.cons (xm_bin) ?_
  refine x_bmn.cons (xm_ald) ?_
  refine x_bmn.cons (xm_aload) ?_
  refine x_bmn.cons (xm_iload) ?_
  refine x_bmn.cons (xm_push) ?_
  refine x_bmn.cons (xm_bin) ?_
  refine x_bmn.cons (xm_ald) ?_
  refine x_bmn.cons (xm_invV ym_R_byteAt) ?_
  refine x_bmn.cons (xm_istore) ?_
  refine x_bmn.cons (xm_aload) ?_
  refine x_bmn.cons (xm_invV ym_R_thrown) ?_
  refine x_bmn.cons (xm_iload) ?_
  refine x_bmn.cons (xm_icmp) ?_
  refine x_bmn.cons (xm_push) ?_
  refine x_bmn.cons (xm_zret) ?_
  refine x_bmn.cons (xm_iload) ?_
  refine x_bmn.cons (xm_if) ?_
  refine x_bmn.cons (xm_aload) ?_
  refine x_bmn.cons (xm_push) ?_
  refine x_bmn.cons (xm_lald) ?_
  refine x_bmn.cons (xm_iload) ?_
  refine x_bmn.cons (xm_i2l) ?_
  refine x_bmn.cons (xm_lcmp) ?_
  refine x_bmn.cons (xm_if) ?_
  refine x_bmn.cons (xm_push) ?_
  refine x_bmn.cons (xm_zret) ?_
  refine x_bmn.cons (xm_goto) ?_
  refine x_bmn.cons (xm_aload) ?_
  refine x_bmn.cons (xm_aload) ?_
  refine x_bmn.cons (xm_iload) ?_
  refine x_bmn.cons (xm_push) ?_
  refine x_bmn.cons (xm_bin) ?_
  refine x_bmn.cons (xm_ald) ?_
  refine x_bmn.cons (xm_aload) ?_
  refine x_bmn.cons (xm_iload) ?_
  refine x_bmn.cons (xm_push) ?_
  refine x_bmn.cons (xm_bin) ?_
  refine x_bmn.cons (xm_ald) ?_
  refine x_bmn.cons (xm_aload) ?_
  refine x_bmn.cons (xm_iload) ?_
  refine x_bmn.cons (xm_push) ?_
  refine x_bmn.cons (xm_bin) ?_
  refine x_bmn.cons (xm_ald) ?_
  refine x_bmn.cons (xm_aload) ?_
  refine x_bmn.cons (xm_invS ym_L_mix) ?_
  refine x_bmn.cons (xm_istore) ?_
  refine x_bmn.cons (xm_aload) ?_
  refine x_bmn.cons (xm_aload) ?_
  refine x_bmn.cons (xm_iload) ?_
  refine x_bmn.cons (xm_push) ?_
  refine x_bmn.cons (xm_bin) ?_
  refine x_bmn.cons (xm_ald) ?_
  refine x_bmn.cons (xm_aload) ?_
  refine x_bmn.cons (xm_iload) ?_
  refine x_bmn.cons (xm_push) ?_
  refine x_bmn.cons (xm_bin) ?_
  refine x_bmn.cons (xm_ald) ?_
  refine x_bmn.cons (xm_aload) ?_
  refine x_bmn.cons (xm_iload) ?_
  refine x_bmn.cons (xm_push) ?_
  refine x_bmn.cons (xm_bin) ?_
  refine x_bmn.cons (xm_ald) ?_
  refine x_bmn.cons (xm_invV ym_R_mix) ?_
  refine x_bmn.cons (xm_istore) ?_
  refine x_bmn.cons (xm_aload) ?_
  refine x_bmn.cons (xm_invV ym_R_thrown) ?_
  refine x_bmn.cons (xm_iload) ?_
  refine x_bmn.cons (xm_icmp) ?_
  refine x_bmn.cons (xm_push) ?_
  refine x_bmn.cons (xm_zret) ?_
  refine x_bmn.cons (xm_iload) ?_
  refine x_bmn.cons (xm_if) ?_
  refine x_bmn.cons (xm_aload) ?_
  refine x_bmn.cons (xm_push) ?_
  refine x_bmn.cons (xm_lald) ?_
  refine x_bmn.cons (xm_iload) ?_
  refine x_bmn.cons (xm_i2l) ?_
  refine x_bmn.cons (xm_lcmp) ?_
  refine x_bmn.cons (xm_if) ?_
  refine x_bmn.cons (xm_push) ?_
  refine x_bmn.cons (xm_zret) ?_
  refine x_bmn.cons (xm_goto) ?_
  refine x_bmn.cons (xm_aload) ?_
  refine x_bmn.cons (xm_aload) ?_
  refine x_bmn.cons (xm_iload) ?_
  refine x_bmn.cons (xm_push) ?_
  refine x_bmn.cons (xm_bin) ?_
  refine x_bmn.cons (xm_ald) ?_
  refine x_bmn.cons (xm_aload) ?_
  refine x_bmn.cons (xm_invS ym_L_count) ?_
  refine x_bmn.cons (xm_istore) ?_
  refine x_bmn.cons (xm_aload) ?_
  refine x_bmn.cons (xm_aload) ?_
  refine x_bmn.cons (xm_iload) ?_
  refine x_bmn.cons (xm_push) ?_
  refine x_bmn.cons (xm_bin) ?_
  refine x_bmn.cons (xm_ald) ?_
  refine x_bmn.cons (xm_invV ym_R_count) ?_
  refine x_bmn.cons (xm_istore) ?_
  refine x_bmn.cons (xm_aload) ?_
  refine x_bmn.cons (xm_invV ym_R_thrown) ?_
  refine x_bmn.cons (xm_iload) ?_
  refine x_bmn.cons (xm_icmp) ?_
  refine x_bmn.cons (xm_push) ?_
  refine x_bmn.cons (xm_zret) ?_
  refine x_bmn.cons (xm_iload) ?_
  refine x_bmn.cons (xm_if) ?_
  refine x_bmn.cons (xm_aload) ?_
  refine x_bmn.cons (xm_push) ?_
  refine x_bmn.cons (xm_lald) ?_
  refine x_bmn.cons (xm_iload) ?_
  refine x_bmn.cons (xm_i2l) ?_
  refine x_bmn.cons (xm_lcmp) ?_
  refine x_bmn.cons (xm_if) ?_
  refine x_bmn.cons (xm_push) ?_
  refine x_bmn.cons (xm_zret) ?_
  refine x_bmn.cons (xm_goto) ?_
  refine x_bmn.cons (xm_iinc) ?_
  refine x_bmn.cons (xm_goto) ?_
  refine x_bmn.cons (xm_push) ?_
  refine x_bmn.cons (xm_zret) ?_
  exact x_bmn.nil
