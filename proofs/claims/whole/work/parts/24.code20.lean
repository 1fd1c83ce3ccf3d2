/- CashLinkModel.bank(I)V -/
abbrev c_R_bank : ByteArray := prog_12_method_24_code
def y_R_bank : MethodName := ⟨"CashLinkModel", "bank", "(I)V"⟩
theorem d_R_bank_0 : decode c_R_bank 0 = .ok (.aload_n 0, 1) := by decide +kernel
theorem d_R_bank_1 : decode c_R_bank 1 = .ok (.getfield 83, 3) := by decide +kernel
theorem d_R_bank_4 : decode c_R_bank 4 = .ok (.iload_n 1, 1) := by decide +kernel
theorem d_R_bank_5 : decode c_R_bank 5 = .ok (.iaload, 1) := by decide +kernel
theorem d_R_bank_6 : decode c_R_bank 6 = .ok (.istore_n 2, 1) := by decide +kernel
theorem d_R_bank_7 : decode c_R_bank 7 = .ok (.aload_n 0, 1) := by decide +kernel
theorem d_R_bank_8 : decode c_R_bank 8 = .ok (.getfield 77, 3) := by decide +kernel
theorem d_R_bank_11 : decode c_R_bank 11 = .ok (.iload_n 1, 1) := by decide +kernel
theorem d_R_bank_12 : decode c_R_bank 12 = .ok (.iaload, 1) := by decide +kernel
theorem d_R_bank_13 : decode c_R_bank 13 = .ok (.istore_n 3, 1) := by decide +kernel
theorem d_R_bank_14 : decode c_R_bank 14 = .ok (.aload_n 0, 1) := by decide +kernel
theorem d_R_bank_15 : decode c_R_bank 15 = .ok (.iconst 4, 1) := by decide +kernel
theorem d_R_bank_16 : decode c_R_bank 16 = .ok (.bipush 6, 2) := by decide +kernel
theorem d_R_bank_18 : decode c_R_bank 18 = .ok (.iload_n 2, 1) := by decide +kernel
theorem d_R_bank_19 : decode c_R_bank 19 = .ok (.iload_n 3, 1) := by decide +kernel
theorem d_R_bank_20 : decode c_R_bank 20 = .ok (.invokevirtual 107, 3) := by decide +kernel
theorem d_R_bank_23 : decode c_R_bank 23 = .ok (.istore 4, 2) := by decide +kernel
theorem d_R_bank_25 : decode c_R_bank 25 = .ok (.aload_n 0, 1) := by decide +kernel
theorem d_R_bank_26 : decode c_R_bank 26 = .ok (.iconst 4, 1) := by decide +kernel
theorem d_R_bank_27 : decode c_R_bank 27 = .ok (.bipush 7, 2) := by decide +kernel
theorem d_R_bank_29 : decode c_R_bank 29 = .ok (.iload_n 2, 1) := by decide +kernel
theorem d_R_bank_30 : decode c_R_bank 30 = .ok (.iload_n 3, 1) := by decide +kernel
theorem d_R_bank_31 : decode c_R_bank 31 = .ok (.invokevirtual 107, 3) := by decide +kernel
theorem d_R_bank_34 : decode c_R_bank 34 = .ok (.istore 5, 2) := by decide +kernel
theorem d_R_bank_36 : decode c_R_bank 36 = .ok (.aload_n 0, 1) := by decide +kernel
theorem d_R_bank_37 : decode c_R_bank 37 = .ok (.getfield 28, 3) := by decide +kernel
theorem d_R_bank_40 : decode c_R_bank 40 = .ok (.iconst 4, 1) := by decide +kernel
theorem d_R_bank_41 : decode c_R_bank 41 = .ok (.iaload, 1) := by decide +kernel
theorem d_R_bank_42 : decode c_R_bank 42 = .ok (.sipush 4000, 3) := by decide +kernel
theorem d_R_bank_45 : decode c_R_bank 45 = .ok (.if_icmp .ne 7, 3) := by decide +kernel
theorem d_R_bank_48 : decode c_R_bank 48 = .ok (.iconst 1, 1) := by decide +kernel
theorem d_R_bank_49 : decode c_R_bank 49 = .ok (.goto 4, 3) := by decide +kernel
theorem d_R_bank_52 : decode c_R_bank 52 = .ok (.iconst 0, 1) := by decide +kernel
theorem d_R_bank_53 : decode c_R_bank 53 = .ok (.istore 6, 2) := by decide +kernel
theorem d_R_bank_55 : decode c_R_bank 55 = .ok (.aload_n 0, 1) := by decide +kernel
theorem d_R_bank_56 : decode c_R_bank 56 = .ok (.getfield 68, 3) := by decide +kernel
theorem d_R_bank_59 : decode c_R_bank 59 = .ok (.iload_n 1, 1) := by decide +kernel
theorem d_R_bank_60 : decode c_R_bank 60 = .ok (.iaload, 1) := by decide +kernel
theorem d_R_bank_61 : decode c_R_bank 61 = .ok (.sipush 200, 3) := by decide +kernel
theorem d_R_bank_64 : decode c_R_bank 64 = .ok (.if_icmp .ne 103, 3) := by decide +kernel
theorem d_R_bank_67 : decode c_R_bank 67 = .ok (.iload 4, 2) := by decide +kernel
theorem d_R_bank_69 : decode c_R_bank 69 = .ok (.ifCond .lt 13, 3) := by decide +kernel
theorem d_R_bank_72 : decode c_R_bank 72 = .ok (.aload_n 0, 1) := by decide +kernel
theorem d_R_bank_73 : decode c_R_bank 73 = .ok (.getfield 25, 3) := by decide +kernel
theorem d_R_bank_76 : decode c_R_bank 76 = .ok (.iload 4, 2) := by decide +kernel
theorem d_R_bank_78 : decode c_R_bank 78 = .ok (.iaload, 1) := by decide +kernel
theorem d_R_bank_79 : decode c_R_bank 79 = .ok (.goto 36, 3) := by decide +kernel
theorem d_R_bank_82 : decode c_R_bank 82 = .ok (.iload 5, 2) := by decide +kernel
theorem d_R_bank_84 : decode c_R_bank 84 = .ok (.ifCond .lt 7, 3) := by decide +kernel
theorem d_R_bank_87 : decode c_R_bank 87 = .ok (.iconst 3, 1) := by decide +kernel
theorem d_R_bank_88 : decode c_R_bank 88 = .ok (.goto 27, 3) := by decide +kernel
theorem d_R_bank_91 : decode c_R_bank 91 = .ok (.aload_n 0, 1) := by decide +kernel
theorem d_R_bank_92 : decode c_R_bank 92 = .ok (.aload_n 0, 1) := by decide +kernel
theorem d_R_bank_93 : decode c_R_bank 93 = .ok (.getfield 71, 3) := by decide +kernel
theorem d_R_bank_96 : decode c_R_bank 96 = .ok (.iload_n 1, 1) := by decide +kernel
theorem d_R_bank_97 : decode c_R_bank 97 = .ok (.iaload, 1) := by decide +kernel
theorem d_R_bank_98 : decode c_R_bank 98 = .ok (.invokevirtual 172, 3) := by decide +kernel
theorem d_R_bank_101 : decode c_R_bank 101 = .ok (.aload_n 0, 1) := by decide +kernel
theorem d_R_bank_102 : decode c_R_bank 102 = .ok (.getfield 74, 3) := by decide +kernel
theorem d_R_bank_105 : decode c_R_bank 105 = .ok (.iload_n 1, 1) := by decide +kernel
theorem d_R_bank_106 : decode c_R_bank 106 = .ok (.iaload, 1) := by decide +kernel
theorem d_R_bank_107 : decode c_R_bank 107 = .ok (.if_icmp .ge 7, 3) := by decide +kernel
theorem d_R_bank_110 : decode c_R_bank 110 = .ok (.iconst 1, 1) := by decide +kernel
theorem d_R_bank_111 : decode c_R_bank 111 = .ok (.goto 4, 3) := by decide +kernel
theorem d_R_bank_114 : decode c_R_bank 114 = .ok (.iconst 0, 1) := by decide +kernel
theorem d_R_bank_115 : decode c_R_bank 115 = .ok (.istore 7, 2) := by decide +kernel
theorem d_R_bank_117 : decode c_R_bank 117 = .ok (.iload 4, 2) := by decide +kernel
theorem d_R_bank_119 : decode c_R_bank 119 = .ok (.ifCond .ge 32, 3) := by decide +kernel
theorem d_R_bank_122 : decode c_R_bank 122 = .ok (.iload 6, 2) := by decide +kernel
theorem d_R_bank_124 : decode c_R_bank 124 = .ok (.ifCond .eq 4, 3) := by decide +kernel
theorem d_R_bank_127 : decode c_R_bank 127 = .ok (.return_, 1) := by decide +kernel
theorem d_R_bank_128 : decode c_R_bank 128 = .ok (.aload_n 0, 1) := by decide +kernel
theorem d_R_bank_129 : decode c_R_bank 129 = .ok (.iconst 4, 1) := by decide +kernel
theorem d_R_bank_130 : decode c_R_bank 130 = .ok (.bipush 6, 2) := by decide +kernel
theorem d_R_bank_132 : decode c_R_bank 132 = .ok (.iload_n 2, 1) := by decide +kernel
theorem d_R_bank_133 : decode c_R_bank 133 = .ok (.iload_n 3, 1) := by decide +kernel
theorem d_R_bank_134 : decode c_R_bank 134 = .ok (.aload_n 0, 1) := by decide +kernel
theorem d_R_bank_135 : decode c_R_bank 135 = .ok (.getfield 71, 3) := by decide +kernel
theorem d_R_bank_138 : decode c_R_bank 138 = .ok (.iload_n 1, 1) := by decide +kernel
theorem d_R_bank_139 : decode c_R_bank 139 = .ok (.iaload, 1) := by decide +kernel
theorem d_R_bank_140 : decode c_R_bank 140 = .ok (.aload_n 0, 1) := by decide +kernel
theorem d_R_bank_141 : decode c_R_bank 141 = .ok (.getfield 74, 3) := by decide +kernel
theorem d_R_bank_144 : decode c_R_bank 144 = .ok (.iload_n 1, 1) := by decide +kernel
theorem d_R_bank_145 : decode c_R_bank 145 = .ok (.iaload, 1) := by decide +kernel
theorem d_R_bank_146 : decode c_R_bank 146 = .ok (.iload 7, 2) := by decide +kernel
theorem d_R_bank_148 : decode c_R_bank 148 = .ok (.invokevirtual 138, 3) := by decide +kernel
theorem d_R_bank_151 : decode c_R_bank 151 = .ok (.aload_n 0, 1) := by decide +kernel
theorem d_R_bank_152 : decode c_R_bank 152 = .ok (.sipush 210, 3) := by decide +kernel
theorem d_R_bank_155 : decode c_R_bank 155 = .ok (.iconst 0, 1) := by decide +kernel
theorem d_R_bank_156 : decode c_R_bank 156 = .ok (.iconst 0, 1) := by decide +kernel
theorem d_R_bank_157 : decode c_R_bank 157 = .ok (.iload_n 3, 1) := by decide +kernel
theorem d_R_bank_158 : decode c_R_bank 158 = .ok (.iload 7, 2) := by decide +kernel
theorem d_R_bank_160 : decode c_R_bank 160 = .ok (.iload_n 2, 1) := by decide +kernel
theorem d_R_bank_161 : decode c_R_bank 161 = .ok (.invokevirtual 142, 3) := by decide +kernel
theorem d_R_bank_164 : decode c_R_bank 164 = .ok (.goto 218, 3) := by decide +kernel
theorem d_R_bank_167 : decode c_R_bank 167 = .ok (.aload_n 0, 1) := by decide +kernel
theorem d_R_bank_168 : decode c_R_bank 168 = .ok (.getfield 68, 3) := by decide +kernel
theorem d_R_bank_171 : decode c_R_bank 171 = .ok (.iload_n 1, 1) := by decide +kernel
theorem d_R_bank_172 : decode c_R_bank 172 = .ok (.iaload, 1) := by decide +kernel
theorem d_R_bank_173 : decode c_R_bank 173 = .ok (.sipush 420, 3) := by decide +kernel
theorem d_R_bank_176 : decode c_R_bank 176 = .ok (.if_icmp .ne 65, 3) := by decide +kernel
theorem d_R_bank_179 : decode c_R_bank 179 = .ok (.iload 5, 2) := by decide +kernel
theorem d_R_bank_181 : decode c_R_bank 181 = .ok (.ifCond .ge 45, 3) := by decide +kernel
theorem d_R_bank_184 : decode c_R_bank 184 = .ok (.iload 6, 2) := by decide +kernel
theorem d_R_bank_186 : decode c_R_bank 186 = .ok (.ifCond .eq 4, 3) := by decide +kernel
theorem d_R_bank_189 : decode c_R_bank 189 = .ok (.return_, 1) := by decide +kernel
theorem d_R_bank_190 : decode c_R_bank 190 = .ok (.aload_n 0, 1) := by decide +kernel
theorem d_R_bank_191 : decode c_R_bank 191 = .ok (.iconst 4, 1) := by decide +kernel
theorem d_R_bank_192 : decode c_R_bank 192 = .ok (.bipush 7, 2) := by decide +kernel
theorem d_R_bank_194 : decode c_R_bank 194 = .ok (.iload_n 2, 1) := by decide +kernel
theorem d_R_bank_195 : decode c_R_bank 195 = .ok (.iload_n 3, 1) := by decide +kernel
theorem d_R_bank_196 : decode c_R_bank 196 = .ok (.iload 4, 2) := by decide +kernel
theorem d_R_bank_198 : decode c_R_bank 198 = .ok (.ifCond .lt 22, 3) := by decide +kernel
theorem d_R_bank_201 : decode c_R_bank 201 = .ok (.aload_n 0, 1) := by decide +kernel
theorem d_R_bank_202 : decode c_R_bank 202 = .ok (.getfield 25, 3) := by decide +kernel
theorem d_R_bank_205 : decode c_R_bank 205 = .ok (.iload 4, 2) := by decide +kernel
theorem d_R_bank_207 : decode c_R_bank 207 = .ok (.iaload, 1) := by decide +kernel
theorem d_R_bank_208 : decode c_R_bank 208 = .ok (.ifCond .ne 12, 3) := by decide +kernel
theorem d_R_bank_211 : decode c_R_bank 211 = .ok (.aload_n 0, 1) := by decide +kernel
theorem d_R_bank_212 : decode c_R_bank 212 = .ok (.getfield 74, 3) := by decide +kernel
theorem d_R_bank_215 : decode c_R_bank 215 = .ok (.iload_n 1, 1) := by decide +kernel
theorem d_R_bank_216 : decode c_R_bank 216 = .ok (.iaload, 1) := by decide +kernel
theorem d_R_bank_217 : decode c_R_bank 217 = .ok (.goto 4, 3) := by decide +kernel
theorem d_R_bank_220 : decode c_R_bank 220 = .ok (.iconst 0, 1) := by decide +kernel
theorem d_R_bank_221 : decode c_R_bank 221 = .ok (.iconst 0, 1) := by decide +kernel
theorem d_R_bank_222 : decode c_R_bank 222 = .ok (.iconst 0, 1) := by decide +kernel
theorem d_R_bank_223 : decode c_R_bank 223 = .ok (.invokevirtual 138, 3) := by decide +kernel
theorem d_R_bank_226 : decode c_R_bank 226 = .ok (.aload_n 0, 1) := by decide +kernel
theorem d_R_bank_227 : decode c_R_bank 227 = .ok (.sipush 430, 3) := by decide +kernel
theorem d_R_bank_230 : decode c_R_bank 230 = .ok (.iconst 0, 1) := by decide +kernel
theorem d_R_bank_231 : decode c_R_bank 231 = .ok (.iconst 0, 1) := by decide +kernel
theorem d_R_bank_232 : decode c_R_bank 232 = .ok (.iload_n 3, 1) := by decide +kernel
theorem d_R_bank_233 : decode c_R_bank 233 = .ok (.iconst 0, 1) := by decide +kernel
theorem d_R_bank_234 : decode c_R_bank 234 = .ok (.iload_n 2, 1) := by decide +kernel
theorem d_R_bank_235 : decode c_R_bank 235 = .ok (.invokevirtual 142, 3) := by decide +kernel
theorem d_R_bank_238 : decode c_R_bank 238 = .ok (.goto 144, 3) := by decide +kernel
theorem d_R_bank_241 : decode c_R_bank 241 = .ok (.iconst 0, 1) := by decide +kernel
theorem d_R_bank_242 : decode c_R_bank 242 = .ok (.istore 7, 2) := by decide +kernel
theorem d_R_bank_244 : decode c_R_bank 244 = .ok (.iconst 4, 1) := by decide +kernel
theorem d_R_bank_245 : decode c_R_bank 245 = .ok (.invokestatic 100, 3) := by decide +kernel
theorem d_R_bank_248 : decode c_R_bank 248 = .ok (.istore 8, 2) := by decide +kernel
theorem d_R_bank_250 : decode c_R_bank 250 = .ok (.iload 8, 2) := by decide +kernel
theorem d_R_bank_252 : decode c_R_bank 252 = .ok (.iconst 4, 1) := by decide +kernel
theorem d_R_bank_253 : decode c_R_bank 253 = .ok (.invokestatic 100, 3) := by decide +kernel
theorem d_R_bank_256 : decode c_R_bank 256 = .ok (.aload_n 0, 1) := by decide +kernel
theorem d_R_bank_257 : decode c_R_bank 257 = .ok (.getfield 28, 3) := by decide +kernel
theorem d_R_bank_260 : decode c_R_bank 260 = .ok (.iconst 4, 1) := by decide +kernel
theorem d_R_bank_261 : decode c_R_bank 261 = .ok (.iaload, 1) := by decide +kernel
theorem d_R_bank_262 : decode c_R_bank 262 = .ok (.iadd, 1) := by decide +kernel
theorem d_R_bank_263 : decode c_R_bank 263 = .ok (.if_icmp .ge 92, 3) := by decide +kernel
theorem d_R_bank_266 : decode c_R_bank 266 = .ok (.aload_n 0, 1) := by decide +kernel
theorem d_R_bank_267 : decode c_R_bank 267 = .ok (.getfield 13, 3) := by decide +kernel
theorem d_R_bank_270 : decode c_R_bank 270 = .ok (.iload 8, 2) := by decide +kernel
theorem d_R_bank_272 : decode c_R_bank 272 = .ok (.iaload, 1) := by decide +kernel
theorem d_R_bank_273 : decode c_R_bank 273 = .ok (.iload_n 2, 1) := by decide +kernel
theorem d_R_bank_274 : decode c_R_bank 274 = .ok (.if_icmp .ne 75, 3) := by decide +kernel
theorem d_R_bank_277 : decode c_R_bank 277 = .ok (.aload_n 0, 1) := by decide +kernel
theorem d_R_bank_278 : decode c_R_bank 278 = .ok (.getfield 16, 3) := by decide +kernel
theorem d_R_bank_281 : decode c_R_bank 281 = .ok (.iload 8, 2) := by decide +kernel
theorem d_R_bank_283 : decode c_R_bank 283 = .ok (.iaload, 1) := by decide +kernel
theorem d_R_bank_284 : decode c_R_bank 284 = .ok (.iload_n 3, 1) := by decide +kernel
theorem d_R_bank_285 : decode c_R_bank 285 = .ok (.if_icmp .le 6, 3) := by decide +kernel
theorem d_R_bank_288 : decode c_R_bank 288 = .ok (.goto 61, 3) := by decide +kernel
theorem d_R_bank_291 : decode c_R_bank 291 = .ok (.aload_n 0, 1) := by decide +kernel
theorem d_R_bank_292 : decode c_R_bank 292 = .ok (.getfield 7, 3) := by decide +kernel
theorem d_R_bank_295 : decode c_R_bank 295 = .ok (.iload 8, 2) := by decide +kernel
theorem d_R_bank_297 : decode c_R_bank 297 = .ok (.iaload, 1) := by decide +kernel
theorem d_R_bank_298 : decode c_R_bank 298 = .ok (.bipush 6, 2) := by decide +kernel
theorem d_R_bank_300 : decode c_R_bank 300 = .ok (.if_icmp .ne 25, 3) := by decide +kernel
theorem d_R_bank_303 : decode c_R_bank 303 = .ok (.aload_n 0, 1) := by decide +kernel
theorem d_R_bank_304 : decode c_R_bank 304 = .ok (.getfield 25, 3) := by decide +kernel
theorem d_R_bank_307 : decode c_R_bank 307 = .ok (.iload 8, 2) := by decide +kernel
theorem d_R_bank_309 : decode c_R_bank 309 = .ok (.iaload, 1) := by decide +kernel
theorem d_R_bank_310 : decode c_R_bank 310 = .ok (.ifCond .ne 15, 3) := by decide +kernel
theorem d_R_bank_313 : decode c_R_bank 313 = .ok (.iload 7, 2) := by decide +kernel
theorem d_R_bank_315 : decode c_R_bank 315 = .ok (.aload_n 0, 1) := by decide +kernel
theorem d_R_bank_316 : decode c_R_bank 316 = .ok (.getfield 22, 3) := by decide +kernel
theorem d_R_bank_319 : decode c_R_bank 319 = .ok (.iload 8, 2) := by decide +kernel
theorem d_R_bank_321 : decode c_R_bank 321 = .ok (.iaload, 1) := by decide +kernel
theorem d_R_bank_322 : decode c_R_bank 322 = .ok (.iadd, 1) := by decide +kernel
theorem d_R_bank_323 : decode c_R_bank 323 = .ok (.istore 7, 2) := by decide +kernel
theorem d_R_bank_325 : decode c_R_bank 325 = .ok (.aload_n 0, 1) := by decide +kernel
theorem d_R_bank_326 : decode c_R_bank 326 = .ok (.getfield 7, 3) := by decide +kernel
theorem d_R_bank_329 : decode c_R_bank 329 = .ok (.iload 8, 2) := by decide +kernel
theorem d_R_bank_331 : decode c_R_bank 331 = .ok (.iaload, 1) := by decide +kernel
theorem d_R_bank_332 : decode c_R_bank 332 = .ok (.bipush 7, 2) := by decide +kernel
theorem d_R_bank_334 : decode c_R_bank 334 = .ok (.if_icmp .ne 15, 3) := by decide +kernel
theorem d_R_bank_337 : decode c_R_bank 337 = .ok (.iload 7, 2) := by decide +kernel
theorem d_R_bank_339 : decode c_R_bank 339 = .ok (.aload_n 0, 1) := by decide +kernel
theorem d_R_bank_340 : decode c_R_bank 340 = .ok (.getfield 19, 3) := by decide +kernel
theorem d_R_bank_343 : decode c_R_bank 343 = .ok (.iload 8, 2) := by decide +kernel
theorem d_R_bank_345 : decode c_R_bank 345 = .ok (.iaload, 1) := by decide +kernel
theorem d_R_bank_346 : decode c_R_bank 346 = .ok (.isub, 1) := by decide +kernel
theorem d_R_bank_347 : decode c_R_bank 347 = .ok (.istore 7, 2) := by decide +kernel
theorem d_R_bank_349 : decode c_R_bank 349 = .ok (.iinc 8 1, 3) := by decide +kernel
theorem d_R_bank_352 : decode c_R_bank 352 = .ok (.goto (-102), 3) := by decide +kernel
theorem d_R_bank_355 : decode c_R_bank 355 = .ok (.aload_n 0, 1) := by decide +kernel
theorem d_R_bank_356 : decode c_R_bank 356 = .ok (.sipush 510, 3) := by decide +kernel
theorem d_R_bank_359 : decode c_R_bank 359 = .ok (.iconst 0, 1) := by decide +kernel
theorem d_R_bank_360 : decode c_R_bank 360 = .ok (.iconst 0, 1) := by decide +kernel
theorem d_R_bank_361 : decode c_R_bank 361 = .ok (.iload_n 3, 1) := by decide +kernel
theorem d_R_bank_362 : decode c_R_bank 362 = .ok (.iload 7, 2) := by decide +kernel
theorem d_R_bank_364 : decode c_R_bank 364 = .ok (.aload_n 0, 1) := by decide +kernel
theorem d_R_bank_365 : decode c_R_bank 365 = .ok (.getfield 74, 3) := by decide +kernel
theorem d_R_bank_368 : decode c_R_bank 368 = .ok (.iload_n 1, 1) := by decide +kernel
theorem d_R_bank_369 : decode c_R_bank 369 = .ok (.iaload, 1) := by decide +kernel
theorem d_R_bank_370 : decode c_R_bank 370 = .ok (.if_icmp .ne 7, 3) := by decide +kernel
theorem d_R_bank_373 : decode c_R_bank 373 = .ok (.iconst 0, 1) := by decide +kernel
theorem d_R_bank_374 : decode c_R_bank 374 = .ok (.goto 4, 3) := by decide +kernel
theorem d_R_bank_377 : decode c_R_bank 377 = .ok (.iconst 4, 1) := by decide +kernel
theorem d_R_bank_378 : decode c_R_bank 378 = .ok (.iload_n 2, 1) := by decide +kernel
theorem d_R_bank_379 : decode c_R_bank 379 = .ok (.invokevirtual 142, 3) := by decide +kernel
theorem d_R_bank_382 : decode c_R_bank 382 = .ok (.return_, 1) := by decide +kernel
def m_R_bank : XM := ("CashLinkModel", c_R_bank, 9, none, "bank", [], 7, 119)
def b_R_bank : XB := [(0, X_aload 0 1),
  (1, X_get 10 24),
  (4, X_iload 1 1),
  (5, X_ald 0),
  (6, X_istore 2 1),
  (7, X_aload 0 1),
  (8, X_get 10 22),
  (11, X_iload 1 1),
  (12, X_ald 0),
  (13, X_istore 3 1),
  (14, X_aload 0 1),
  (15, X_push (xv_i 4) 1),
  (16, X_push (xv_i 6) 2),
  (18, X_iload 2 1),
  (19, X_iload 3 1),
  (20, X_invV 10 Y_R_find 4 []),
  (23, X_istore 4 2),
  (25, X_aload 0 1),
  (26, X_push (xv_i 4) 1),
  (27, X_push (xv_i 7) 2),
  (29, X_iload 2 1),
  (30, X_iload 3 1),
  (31, X_invV 10 Y_R_find 4 []),
  (34, X_istore 5 2),
  (36, X_aload 0 1),
  (37, X_get 10 6),
  (40, X_push (xv_i 4) 1),
  (41, X_ald 0),
  (42, X_push (xv_i 4000) 3),
  (45, X_icmp (fun x y => ¬ x = y) 52),
  (48, X_push (xv_i 1) 1),
  (49, X_goto 53),
  (52, X_push (xv_i 0) 1),
  (53, X_istore 6 2),
  (55, X_aload 0 1),
  (56, X_get 10 19),
  (59, X_iload 1 1),
  (60, X_ald 0),
  (61, X_push (xv_i 200) 3),
  (64, X_icmp (fun x y => ¬ x = y) 167),
  (67, X_iload 4 2),
  (69, X_if (fun x => x < 0) 82),
  (72, X_aload 0 1),
  (73, X_get 10 5),
  (76, X_iload 4 2),
  (78, X_ald 0),
  (79, X_goto 115),
  (82, X_iload 5 2),
  (84, X_if (fun x => x < 0) 91),
  (87, X_push (xv_i 3) 1),
  (88, X_goto 115),
  (91, X_aload 0 1),
  (92, X_aload 0 1),
  (93, X_get 10 20),
  (96, X_iload 1 1),
  (97, X_ald 0),
  (98, X_invV 10 Y_R_worth 1 []),
  (101, X_aload 0 1),
  (102, X_get 10 21),
  (105, X_iload 1 1),
  (106, X_ald 0),
  (107, X_icmp (fun x y => y ≤ x) 114),
  (110, X_push (xv_i 1) 1),
  (111, X_goto 115),
  (114, X_push (xv_i 0) 1),
  (115, X_istore 7 2),
  (117, X_iload 4 2),
  (119, X_if (fun x => 0 ≤ x) 151),
  (122, X_iload 6 2),
  (124, X_if (fun x => x = 0) 128),
  (127, X_vret),
  (128, X_aload 0 1),
  (129, X_push (xv_i 4) 1),
  (130, X_push (xv_i 6) 2),
  (132, X_iload 2 1),
  (133, X_iload 3 1),
  (134, X_aload 0 1),
  (135, X_get 10 20),
  (138, X_iload 1 1),
  (139, X_ald 0),
  (140, X_aload 0 1),
  (141, X_get 10 21),
  (144, X_iload 1 1),
  (145, X_ald 0),
  (146, X_iload 7 2),
  (148, X_invV 10 Y_R_record 7 []),
  (151, X_aload 0 1),
  (152, X_push (xv_i 210) 3),
  (155, X_push (xv_i 0) 1),
  (156, X_push (xv_i 0) 1),
  (157, X_iload 3 1),
  (158, X_iload 7 2),
  (160, X_iload 2 1),
  (161, X_invV 10 Y_R_sent 6 []),
  (164, X_goto 382),
  (167, X_aload 0 1),
  (168, X_get 10 19),
  (171, X_iload 1 1),
  (172, X_ald 0),
  (173, X_push (xv_i 420) 3),
  (176, X_icmp (fun x y => ¬ x = y) 241),
  (179, X_iload 5 2),
  (181, X_if (fun x => 0 ≤ x) 226),
  (184, X_iload 6 2),
  (186, X_if (fun x => x = 0) 190),
  (189, X_vret),
  (190, X_aload 0 1),
  (191, X_push (xv_i 4) 1),
  (192, X_push (xv_i 7) 2),
  (194, X_iload 2 1),
  (195, X_iload 3 1),
  (196, X_iload 4 2),
  (198, X_if (fun x => x < 0) 220),
  (201, X_aload 0 1),
  (202, X_get 10 5),
  (205, X_iload 4 2),
  (207, X_ald 0),
  (208, X_if (fun x => ¬ x = 0) 220),
  (211, X_aload 0 1),
  (212, X_get 10 21),
  (215, X_iload 1 1),
  (216, X_ald 0),
  (217, X_goto 221),
  (220, X_push (xv_i 0) 1),
  (221, X_push (xv_i 0) 1),
  (222, X_push (xv_i 0) 1),
  (223, X_invV 10 Y_R_record 7 []),
  (226, X_aload 0 1),
  (227, X_push (xv_i 430) 3),
  (230, X_push (xv_i 0) 1),
  (231, X_push (xv_i 0) 1),
  (232, X_iload 3 1),
  (233, X_push (xv_i 0) 1),
  (234, X_iload 2 1),
  (235, X_invV 10 Y_R_sent 6 []),
  (238, X_goto 382),
  (241, X_push (xv_i 0) 1),
  (242, X_istore 7 2),
  (244, X_push (xv_i 4) 1),
  (245, X_invS Y_R_at 1 []),
  (248, X_istore 8 2),
  (250, X_iload 8 2),
  (252, X_push (xv_i 4) 1),
  (253, X_invS Y_R_at 1 []),
  (256, X_aload 0 1),
  (257, X_get 10 6),
  (260, X_push (xv_i 4) 1),
  (261, X_ald 0),
  (262, X_bin (fun x y => x + y)),
  (263, X_icmp (fun x y => y ≤ x) 355),
  (266, X_aload 0 1),
  (267, X_get 10 1),
  (270, X_iload 8 2),
  (272, X_ald 0),
  (273, X_iload 2 1),
  (274, X_icmp (fun x y => ¬ x = y) 349),
  (277, X_aload 0 1),
  (278, X_get 10 2),
  (281, X_iload 8 2),
  (283, X_ald 0),
  (284, X_iload 3 1),
  (285, X_icmp (fun x y => x ≤ y) 291),
  (288, X_goto 349),
  (291, X_aload 0 1),
  (292, X_get 10 0),
  (295, X_iload 8 2),
  (297, X_ald 0),
  (298, X_push (xv_i 6) 2),
  (300, X_icmp (fun x y => ¬ x = y) 325),
  (303, X_aload 0 1),
  (304, X_get 10 5),
  (307, X_iload 8 2),
  (309, X_ald 0),
  (310, X_if (fun x => ¬ x = 0) 325),
  (313, X_iload 7 2),
  (315, X_aload 0 1),
  (316, X_get 10 4),
  (319, X_iload 8 2),
  (321, X_ald 0),
  (322, X_bin (fun x y => x + y)),
  (323, X_istore 7 2),
  (325, X_aload 0 1),
  (326, X_get 10 0),
  (329, X_iload 8 2),
  (331, X_ald 0),
  (332, X_push (xv_i 7) 2),
  (334, X_icmp (fun x y => ¬ x = y) 349),
  (337, X_iload 7 2),
  (339, X_aload 0 1),
  (340, X_get 10 3),
  (343, X_iload 8 2),
  (345, X_ald 0),
  (346, X_bin (fun x y => x - y)),
  (347, X_istore 7 2),
  (349, X_iinc 8 1),
  (352, X_goto 250),
  (355, X_aload 0 1),
  (356, X_push (xv_i 510) 3),
  (359, X_push (xv_i 0) 1),
  (360, X_push (xv_i 0) 1),
  (361, X_iload 3 1),
  (362, X_iload 7 2),
  (364, X_aload 0 1),
  (365, X_get 10 21),
  (368, X_iload 1 1),
  (369, X_ald 0),
  (370, X_icmp (fun x y => ¬ x = y) 377),
  (373, X_push (xv_i 0) 1),
  (374, X_goto 378),
  (377, X_push (xv_i 4) 1),
  (378, X_iload 2 1),
  (379, X_invV 10 Y_R_sent 6 []),
  (382, X_vret)]
set_option maxRecDepth 100000 in
theorem k_R_bank : x_bok m_R_bank b_R_bank := by
  unfold b_R_bank
  refine x_bok.cons (xs_aload_n d_R_bank_0 rfl) ?_
  refine x_bok.cons (xs_get d_R_bank_1 xc10 xw10 (by decide) q5_229 (Or.inl rfl)) ?_
  refine x_bok.cons (xs_iload_n d_R_bank_4 rfl) ?_
  refine x_bok.cons (xs_iald d_R_bank_5 rfl) ?_
  refine x_bok.cons (xs_istore_n d_R_bank_6 rfl (by decide)) ?_
  refine x_bok.cons (xs_aload_n d_R_bank_7 rfl) ?_
  refine x_bok.cons (xs_get d_R_bank_8 xc10 xw10 (by decide) q5_227 (Or.inl rfl)) ?_
  refine x_bok.cons (xs_iload_n d_R_bank_11 rfl) ?_
  refine x_bok.cons (xs_iald d_R_bank_12 rfl) ?_
  refine x_bok.cons (xs_istore_n d_R_bank_13 rfl (by decide)) ?_
  refine x_bok.cons (xs_aload_n d_R_bank_14 rfl) ?_
  refine x_bok.cons (xs_iconst d_R_bank_15 (by decide)) ?_
  refine x_bok.cons (xs_bipush d_R_bank_16 (by decide)) ?_
  refine x_bok.cons (xs_iload_n d_R_bank_18 rfl) ?_
  refine x_bok.cons (xs_iload_n d_R_bank_19 rfl) ?_
  refine x_bok.cons (xs_invV d_R_bank_20 xc10 sn_R_find is_R_find ⟨q6_99, q6_101, (x_sel (x_p3 (List.mem_of_getElem? (i := 1) rfl))), q1_12⟩ (by decide) (by decide) rfl) ?_
  refine x_bok.cons (xs_istore d_R_bank_23 (by decide)) ?_
  refine x_bok.cons (xs_aload_n d_R_bank_25 rfl) ?_
  refine x_bok.cons (xs_iconst d_R_bank_26 (by decide)) ?_
  refine x_bok.cons (xs_bipush d_R_bank_27 (by decide)) ?_
  refine x_bok.cons (xs_iload_n d_R_bank_29 rfl) ?_
  refine x_bok.cons (xs_iload_n d_R_bank_30 rfl) ?_
  refine x_bok.cons (xs_invV d_R_bank_31 xc10 sn_R_find is_R_find ⟨q6_99, q6_101, (x_sel (x_p3 (List.mem_of_getElem? (i := 1) rfl))), q1_12⟩ (by decide) (by decide) rfl) ?_
  refine x_bok.cons (xs_istore d_R_bank_34 (by decide)) ?_
  refine x_bok.cons (xs_aload_n d_R_bank_36 rfl) ?_
  refine x_bok.cons (xs_get d_R_bank_37 xc10 xw10 (by decide) q5_211 (Or.inl rfl)) ?_
  refine x_bok.cons (xs_iconst d_R_bank_40 (by decide)) ?_
  refine x_bok.cons (xs_iald d_R_bank_41 rfl) ?_
  refine x_bok.cons (xs_sipush d_R_bank_42 (by decide)) ?_
  refine x_bok.cons (xs_icmp_ne d_R_bank_45 (by decide)) ?_
  refine x_bok.cons (xs_iconst d_R_bank_48 (by decide)) ?_
  refine x_bok.cons (xs_goto d_R_bank_49 (by decide)) ?_
  refine x_bok.cons (xs_iconst d_R_bank_52 (by decide)) ?_
  refine x_bok.cons (xs_istore d_R_bank_53 (by decide)) ?_
  refine x_bok.cons (xs_aload_n d_R_bank_55 rfl) ?_
  refine x_bok.cons (xs_get d_R_bank_56 xc10 xw10 (by decide) q5_224 (Or.inl rfl)) ?_
  refine x_bok.cons (xs_iload_n d_R_bank_59 rfl) ?_
  refine x_bok.cons (xs_iald d_R_bank_60 rfl) ?_
  refine x_bok.cons (xs_sipush d_R_bank_61 (by decide)) ?_
  refine x_bok.cons (xs_icmp_ne d_R_bank_64 (by decide)) ?_
  refine x_bok.cons (xs_iload d_R_bank_67) ?_
  refine x_bok.cons (xs_if_lt d_R_bank_69 (by decide)) ?_
  refine x_bok.cons (xs_aload_n d_R_bank_72 rfl) ?_
  refine x_bok.cons (xs_get d_R_bank_73 xc10 xw10 (by decide) q5_210 (Or.inl rfl)) ?_
  refine x_bok.cons (xs_iload d_R_bank_76) ?_
  refine x_bok.cons (xs_iald d_R_bank_78 rfl) ?_
  refine x_bok.cons (xs_goto d_R_bank_79 (by decide)) ?_
  refine x_bok.cons (xs_iload d_R_bank_82) ?_
  refine x_bok.cons (xs_if_lt d_R_bank_84 (by decide)) ?_
  refine x_bok.cons (xs_iconst d_R_bank_87 (by decide)) ?_
  refine x_bok.cons (xs_goto d_R_bank_88 (by decide)) ?_
  refine x_bok.cons (xs_aload_n d_R_bank_91 rfl) ?_
  refine x_bok.cons (xs_aload_n d_R_bank_92 rfl) ?_
  refine x_bok.cons (xs_get d_R_bank_93 xc10 xw10 (by decide) q5_225 (Or.inl rfl)) ?_
  refine x_bok.cons (xs_iload_n d_R_bank_96 rfl) ?_
  refine x_bok.cons (xs_iald d_R_bank_97 rfl) ?_
  refine x_bok.cons (xs_invV d_R_bank_98 xc10 sn_R_worth is_R_worth ⟨q6_157, q6_159, (x_sel (x_p3 (List.mem_of_getElem? (i := 9) rfl))), q1_12⟩ (by decide) (by decide) rfl) ?_
  refine x_bok.cons (xs_aload_n d_R_bank_101 rfl) ?_
  refine x_bok.cons (xs_get d_R_bank_102 xc10 xw10 (by decide) q5_226 (Or.inl rfl)) ?_
  refine x_bok.cons (xs_iload_n d_R_bank_105 rfl) ?_
  refine x_bok.cons (xs_iald d_R_bank_106 rfl) ?_
  refine x_bok.cons (xs_icmp_ge d_R_bank_107 (by decide)) ?_
  refine x_bok.cons (xs_iconst d_R_bank_110 (by decide)) ?_
  refine x_bok.cons (xs_goto d_R_bank_111 (by decide)) ?_
  refine x_bok.cons (xs_iconst d_R_bank_114 (by decide)) ?_
  refine x_bok.cons (xs_istore d_R_bank_115 (by decide)) ?_
  refine x_bok.cons (xs_iload d_R_bank_117) ?_
  refine x_bok.cons (xs_if_ge d_R_bank_119 (by decide)) ?_
  refine x_bok.cons (xs_iload d_R_bank_122) ?_
  refine x_bok.cons (xs_if_eq d_R_bank_124 (by decide)) ?_
  refine x_bok.cons (xs_vret d_R_bank_127 rfl) ?_
  refine x_bok.cons (xs_aload_n d_R_bank_128 rfl) ?_
  refine x_bok.cons (xs_iconst d_R_bank_129 (by decide)) ?_
  refine x_bok.cons (xs_bipush d_R_bank_130 (by decide)) ?_
  refine x_bok.cons (xs_iload_n d_R_bank_132 rfl) ?_
  refine x_bok.cons (xs_iload_n d_R_bank_133 rfl) ?_
  refine x_bok.cons (xs_aload_n d_R_bank_134 rfl) ?_
  refine x_bok.cons (xs_get d_R_bank_135 xc10 xw10 (by decide) q5_225 (Or.inl rfl)) ?_
  refine x_bok.cons (xs_iload_n d_R_bank_138 rfl) ?_
  refine x_bok.cons (xs_iald d_R_bank_139 rfl) ?_
  refine x_bok.cons (xs_aload_n d_R_bank_140 rfl) ?_
  refine x_bok.cons (xs_get d_R_bank_141 xc10 xw10 (by decide) q5_226 (Or.inl rfl)) ?_
  refine x_bok.cons (xs_iload_n d_R_bank_144 rfl) ?_
  refine x_bok.cons (xs_iald d_R_bank_145 rfl) ?_
  refine x_bok.cons (xs_iload d_R_bank_146) ?_
  refine x_bok.cons (xs_invV d_R_bank_148 xc10 sn_R_record is_R_record ⟨q6_107, q6_109, (x_sel (x_p3 (List.mem_of_getElem? (i := 3) rfl))), q1_12⟩ (by decide) (by decide) rfl) ?_
  refine x_bok.cons (xs_aload_n d_R_bank_151 rfl) ?_
  refine x_bok.cons (xs_sipush d_R_bank_152 (by decide)) ?_
  refine x_bok.cons (xs_iconst d_R_bank_155 (by decide)) ?_
  refine x_bok.cons (xs_iconst d_R_bank_156 (by decide)) ?_
  refine x_bok.cons (xs_iload_n d_R_bank_157 rfl) ?_
  refine x_bok.cons (xs_iload d_R_bank_158) ?_
  refine x_bok.cons (xs_iload_n d_R_bank_160 rfl) ?_
  refine x_bok.cons (xs_invV d_R_bank_161 xc10 sn_R_sent is_R_sent ⟨q6_121, q6_123, (x_sel (x_p3 (List.mem_of_getElem? (i := 4) rfl))), q1_12⟩ (by decide) (by decide) rfl) ?_
  refine x_bok.cons (xs_goto d_R_bank_164 (by decide)) ?_
  refine x_bok.cons (xs_aload_n d_R_bank_167 rfl) ?_
  refine x_bok.cons (xs_get d_R_bank_168 xc10 xw10 (by decide) q5_224 (Or.inl rfl)) ?_
  refine x_bok.cons (xs_iload_n d_R_bank_171 rfl) ?_
  refine x_bok.cons (xs_iald d_R_bank_172 rfl) ?_
  refine x_bok.cons (xs_sipush d_R_bank_173 (by decide)) ?_
  refine x_bok.cons (xs_icmp_ne d_R_bank_176 (by decide)) ?_
  refine x_bok.cons (xs_iload d_R_bank_179) ?_
  refine x_bok.cons (xs_if_ge d_R_bank_181 (by decide)) ?_
  refine x_bok.cons (xs_iload d_R_bank_184) ?_
  refine x_bok.cons (xs_if_eq d_R_bank_186 (by decide)) ?_
  refine x_bok.cons (xs_vret d_R_bank_189 rfl) ?_
  refine x_bok.cons (xs_aload_n d_R_bank_190 rfl) ?_
  refine x_bok.cons (xs_iconst d_R_bank_191 (by decide)) ?_
  refine x_bok.cons (xs_bipush d_R_bank_192 (by decide)) ?_
  refine x_bok.cons (xs_iload_n d_R_bank_194 rfl) ?_
  refine x_bok.cons (xs_iload_n d_R_bank_195 rfl) ?_
  refine x_bok.cons (xs_iload d_R_bank_196) ?_
  refine x_bok.cons (xs_if_lt d_R_bank_198 (by decide)) ?_
  refine x_bok.cons (xs_aload_n d_R_bank_201 rfl) ?_
  refine x_bok.cons (xs_get d_R_bank_202 xc10 xw10 (by decide) q5_210 (Or.inl rfl)) ?_
  refine x_bok.cons (xs_iload d_R_bank_205) ?_
  refine x_bok.cons (xs_iald d_R_bank_207 rfl) ?_
  refine x_bok.cons (xs_if_ne d_R_bank_208 (by decide)) ?_
  refine x_bok.cons (xs_aload_n d_R_bank_211 rfl) ?_
  refine x_bok.cons (xs_get d_R_bank_212 xc10 xw10 (by decide) q5_226 (Or.inl rfl)) ?_
  refine x_bok.cons (xs_iload_n d_R_bank_215 rfl) ?_
  refine x_bok.cons (xs_iald d_R_bank_216 rfl) ?_
  refine x_bok.cons (xs_goto d_R_bank_217 (by decide)) ?_
  refine x_bok.cons (xs_iconst d_R_bank_220 (by decide)) ?_
  refine x_bok.cons (xs_iconst d_R_bank_221 (by decide)) ?_
  refine x_bok.cons (xs_iconst d_R_bank_222 (by decide)) ?_
  refine x_bok.cons (xs_invV d_R_bank_223 xc10 sn_R_record is_R_record ⟨q6_107, q6_109, (x_sel (x_p3 (List.mem_of_getElem? (i := 3) rfl))), q1_12⟩ (by decide) (by decide) rfl) ?_
  refine x_bok.cons (xs_aload_n d_R_bank_226 rfl) ?_
  refine x_bok.cons (xs_sipush d_R_bank_227 (by decide)) ?_
  refine x_bok.cons (xs_iconst d_R_bank_230 (by decide)) ?_
  refine x_bok.cons (xs_iconst d_R_bank_231 (by decide)) ?_
  refine x_bok.cons (xs_iload_n d_R_bank_232 rfl) ?_
  refine x_bok.cons (xs_iconst d_R_bank_233 (by decide)) ?_
  refine x_bok.cons (xs_iload_n d_R_bank_234 rfl) ?_
  refine x_bok.cons (xs_invV d_R_bank_235 xc10 sn_R_sent is_R_sent ⟨q6_121, q6_123, (x_sel (x_p3 (List.mem_of_getElem? (i := 4) rfl))), q1_12⟩ (by decide) (by decide) rfl) ?_
  refine x_bok.cons (xs_goto d_R_bank_238 (by decide)) ?_
  refine x_bok.cons (xs_iconst d_R_bank_241 (by decide)) ?_
  refine x_bok.cons (xs_istore d_R_bank_242 (by decide)) ?_
  refine x_bok.cons (xs_iconst d_R_bank_244 (by decide)) ?_
  refine x_bok.cons (xs_invS d_R_bank_245 sn_R_at is_R_at ⟨q6_88, q6_89, q1_12⟩ (by decide) (by decide) rfl) ?_
  refine x_bok.cons (xs_istore d_R_bank_248 (by decide)) ?_
  refine x_bok.cons (xs_iload d_R_bank_250) ?_
  refine x_bok.cons (xs_iconst d_R_bank_252 (by decide)) ?_
  refine x_bok.cons (xs_invS d_R_bank_253 sn_R_at is_R_at ⟨q6_88, q6_89, q1_12⟩ (by decide) (by decide) rfl) ?_
  refine x_bok.cons (xs_aload_n d_R_bank_256 rfl) ?_
  refine x_bok.cons (xs_get d_R_bank_257 xc10 xw10 (by decide) q5_211 (Or.inl rfl)) ?_
  refine x_bok.cons (xs_iconst d_R_bank_260 (by decide)) ?_
  refine x_bok.cons (xs_iald d_R_bank_261 rfl) ?_
  refine x_bok.cons (xs_iadd d_R_bank_262) ?_
  refine x_bok.cons (xs_icmp_ge d_R_bank_263 (by decide)) ?_
  refine x_bok.cons (xs_aload_n d_R_bank_266 rfl) ?_
  refine x_bok.cons (xs_get d_R_bank_267 xc10 xw10 (by decide) q5_206 (Or.inl rfl)) ?_
  refine x_bok.cons (xs_iload d_R_bank_270) ?_
  refine x_bok.cons (xs_iald d_R_bank_272 rfl) ?_
  refine x_bok.cons (xs_iload_n d_R_bank_273 rfl) ?_
  refine x_bok.cons (xs_icmp_ne d_R_bank_274 (by decide)) ?_
  refine x_bok.cons (xs_aload_n d_R_bank_277 rfl) ?_
  refine x_bok.cons (xs_get d_R_bank_278 xc10 xw10 (by decide) q5_207 (Or.inl rfl)) ?_
  refine x_bok.cons (xs_iload d_R_bank_281) ?_
  refine x_bok.cons (xs_iald d_R_bank_283 rfl) ?_
  refine x_bok.cons (xs_iload_n d_R_bank_284 rfl) ?_
  refine x_bok.cons (xs_icmp_le d_R_bank_285 (by decide)) ?_
  refine x_bok.cons (xs_goto d_R_bank_288 (by decide)) ?_
  refine x_bok.cons (xs_aload_n d_R_bank_291 rfl) ?_
  refine x_bok.cons (xs_get d_R_bank_292 xc10 xw10 (by decide) q5_205 (Or.inl rfl)) ?_
  refine x_bok.cons (xs_iload d_R_bank_295) ?_
  refine x_bok.cons (xs_iald d_R_bank_297 rfl) ?_
  refine x_bok.cons (xs_bipush d_R_bank_298 (by decide)) ?_
  refine x_bok.cons (xs_icmp_ne d_R_bank_300 (by decide)) ?_
  refine x_bok.cons (xs_aload_n d_R_bank_303 rfl) ?_
  refine x_bok.cons (xs_get d_R_bank_304 xc10 xw10 (by decide) q5_210 (Or.inl rfl)) ?_
  refine x_bok.cons (xs_iload d_R_bank_307) ?_
  refine x_bok.cons (xs_iald d_R_bank_309 rfl) ?_
  refine x_bok.cons (xs_if_ne d_R_bank_310 (by decide)) ?_
  refine x_bok.cons (xs_iload d_R_bank_313) ?_
  refine x_bok.cons (xs_aload_n d_R_bank_315 rfl) ?_
  refine x_bok.cons (xs_get d_R_bank_316 xc10 xw10 (by decide) q5_209 (Or.inl rfl)) ?_
  refine x_bok.cons (xs_iload d_R_bank_319) ?_
  refine x_bok.cons (xs_iald d_R_bank_321 rfl) ?_
  refine x_bok.cons (xs_iadd d_R_bank_322) ?_
  refine x_bok.cons (xs_istore d_R_bank_323 (by decide)) ?_
  refine x_bok.cons (xs_aload_n d_R_bank_325 rfl) ?_
  refine x_bok.cons (xs_get d_R_bank_326 xc10 xw10 (by decide) q5_205 (Or.inl rfl)) ?_
  refine x_bok.cons (xs_iload d_R_bank_329) ?_
  refine x_bok.cons (xs_iald d_R_bank_331 rfl) ?_
  refine x_bok.cons (xs_bipush d_R_bank_332 (by decide)) ?_
  refine x_bok.cons (xs_icmp_ne d_R_bank_334 (by decide)) ?_
  refine x_bok.cons (xs_iload d_R_bank_337) ?_
  refine x_bok.cons (xs_aload_n d_R_bank_339 rfl) ?_
  refine x_bok.cons (xs_get d_R_bank_340 xc10 xw10 (by decide) q5_208 (Or.inl rfl)) ?_
  refine x_bok.cons (xs_iload d_R_bank_343) ?_
  refine x_bok.cons (xs_iald d_R_bank_345 rfl) ?_
  refine x_bok.cons (xs_isub d_R_bank_346) ?_
  refine x_bok.cons (xs_istore d_R_bank_347 (by decide)) ?_
  refine x_bok.cons (xs_iinc d_R_bank_349 (by decide) (by decide)) ?_
  refine x_bok.cons (xs_goto d_R_bank_352 (by decide)) ?_
  refine x_bok.cons (xs_aload_n d_R_bank_355 rfl) ?_
  refine x_bok.cons (xs_sipush d_R_bank_356 (by decide)) ?_
  refine x_bok.cons (xs_iconst d_R_bank_359 (by decide)) ?_
  refine x_bok.cons (xs_iconst d_R_bank_360 (by decide)) ?_
  refine x_bok.cons (xs_iload_n d_R_bank_361 rfl) ?_
  refine x_bok.cons (xs_iload d_R_bank_362) ?_
  refine x_bok.cons (xs_aload_n d_R_bank_364 rfl) ?_
  refine x_bok.cons (xs_get d_R_bank_365 xc10 xw10 (by decide) q5_226 (Or.inl rfl)) ?_
  refine x_bok.cons (xs_iload_n d_R_bank_368 rfl) ?_
  refine x_bok.cons (xs_iald d_R_bank_369 rfl) ?_
  refine x_bok.cons (xs_icmp_ne d_R_bank_370 (by decide)) ?_
  refine x_bok.cons (xs_iconst d_R_bank_373 (by decide)) ?_
  refine x_bok.cons (xs_goto d_R_bank_374 (by decide)) ?_
  refine x_bok.cons (xs_iconst d_R_bank_377 (by decide)) ?_
  refine x_bok.cons (xs_iload_n d_R_bank_378 rfl) ?_
  refine x_bok.cons (xs_invV d_R_bank_379 xc10 sn_R_sent is_R_sent ⟨q6_121, q6_123, (x_sel (x_p3 (List.mem_of_getElem? (i := 4) rfl))), q1_12⟩ (by decide) (by decide) rfl) ?_
  refine x_bok.cons (xs_vret d_R_bank_382 rfl) ?_
  exact x_bok.nil
set_option maxRecDepth 100000 in
theorem mn_R_bank : x_bmn b_R_bank := by
  unfold b_R_bank
  refine x_bmn.cons (xm_aload) ?_
  refine x_bmn.cons (xm_get) ?_
  refine x_bmn.cons (xm_iload) ?_
  refine x_bmn.cons (xm_ald) ?_
  refine x_bmn.cons (xm_istore) ?_
  refine x_bmn.cons (xm_aload) ?_
  refine x_bmn.cons (xm_get) ?_
  refine x_bmn.cons (xm_iload) ?_
  refine x_bmn.cons (xm_ald) ?_
  refine x_bmn.cons (xm_istore) ?_
  refine x_bmn.cons (xm_aload) ?_
  refine x_bmn.cons (xm_push) ?_
  refine x_bmn.cons (xm_push) ?_
  refine x_bmn.cons (xm_iload) ?_
  refine x_bmn.cons (xm_iload) ?_
  refine x_bmn.cons (xm_invV ym_R_find) ?_
  refine x_bmn.cons (xm_istore) ?_
  refine x_bmn.cons (xm_aload) ?_
  refine x_bmn.cons (xm_push) ?_
  refine x_bmn.cons (xm_push) ?_
  refine x_bmn.cons (xm_iload) ?_
  refine x_bmn.cons (xm_iload) ?_
  refine x_bmn.cons (xm_invV ym_R_find) ?_
  refine x_bmn.cons (xm_istore) ?_
  refine x_bmn.cons (xm_aload) ?_
  refine x_bmn.cons (xm_get) ?_
  refine x_bmn.cons (xm_push) ?_
  refine x_bmn.cons (xm_ald) ?_
  refine x_bmn.cons (xm_push) ?_
  refine x_bmn.cons (xm_icmp) ?_
  refine x_bmn.cons (xm_push) ?_
  refine x_bmn.cons (xm_goto) ?_
  refine x_bmn.cons (xm_push) ?_
  refine x_bmn.cons (xm_istore) ?_
  refine x_bmn.cons (xm_aload) ?_
  refine x_bmn.cons (xm_get) ?_
  refine x_bmn.cons (xm_iload) ?_
  refine x_bmn.cons (xm_ald) ?_
  refine x_bmn.cons (xm_push) ?_
  refine x_bmn.cons (xm_icmp) ?_
  refine x_bmn.cons (xm_iload) ?_
  refine x_bmn.cons (xm_if) ?_
  refine x_bmn.cons (xm_aload) ?_
  refine x_bmn.cons (xm_get) ?_
  refine x_bmn.cons (xm_iload) ?_
  refine x_bmn.cons (xm_ald) ?_
  refine x_bmn.cons (xm_goto) ?_
  refine x_bmn.cons (xm_iload) ?_
  refine x_bmn.cons (xm_if) ?_
  refine x_bmn.cons (xm_push) ?_
  refine x_bmn.cons (xm_goto) ?_
  refine x_bmn.cons (xm_aload) ?_
  refine x_bmn.cons (xm_aload) ?_
  refine x_bmn.cons (xm_get) ?_
  refine x_bmn.cons (xm_iload) ?_
  refine x_bmn.cons (xm_ald) ?_
  refine x_bmn.cons (xm_invV ym_R_worth) ?_
  refine x_bmn.cons (xm_aload) ?_
  refine x_bmn.cons (xm_get) ?_
  refine x_bmn.cons (xm_iload) ?_
  refine x_bmn.cons (xm_ald) ?_
  refine x_bmn.cons (xm_icmp) ?_
  refine x_bmn.cons (xm_push) ?_
  refine x_bmn.cons (xm_goto) ?_
  refine x_bmn.cons (xm_push) ?_
  refine x_bmn.cons (xm_istore) ?_
  refine x_bmn.cons (xm_iload) ?_
  refine x_bmn.cons (xm_if) ?_
  refine x_bmn.cons (xm_iload) ?_
  refine x_bmn.cons (xm_if) ?_
  refine x_bmn.cons (xm_vret) ?_
  refine x_bmn.cons (xm_aload) ?_
  refine x_bmn.cons (xm_push) ?_
  refine x_bmn.cons (xm_push) ?_
  refine x_bmn.cons (xm_iload) ?_
  refine x_bmn.cons (xm_iload) ?_
  refine x_bmn.cons (xm_aload) ?_
  refine x_bmn.cons (xm_get) ?_
  refine x_bmn.cons (xm_iload) ?_
  refine x_bmn.cons (xm_ald) ?_
  refine x_bmn.cons (xm_aload) ?_
  refine x_bmn.cons (xm_get) ?_
  refine x_bmn.cons (xm_iload) ?_
  refine x_bmn.cons (xm_ald) ?_
  refine x_bmn.cons (xm_iload) ?_
  refine x_bmn.cons (xm_invV ym_R_record) ?_
  refine x_bmn.cons (xm_aload) ?_
  refine x_bmn.cons (xm_push) ?_
  refine x_bmn.cons (xm_push) ?_
  refine x_bmn.cons (xm_push) ?_
  refine x_bmn.cons (xm_iload) ?_
  refine x_bmn.cons (xm_iload) ?_
  refine x_bmn.cons (xm_iload) ?_
  refine x_bmn.cons (xm_invV ym_R_sent) ?_
  refine x_bmn.cons (xm_goto) ?_
  refine x_bmn.cons (xm_aload) ?_
  refine x_bmn.cons (xm_get) ?_
  refine x_bmn.cons (xm_iload) ?_
  refine x_bmn.cons (xm_ald) ?_
  refine x_bmn.cons (xm_push) ?_
  refine x_bmn.cons (xm_icmp) ?_
  refine x_bmn.cons (xm_iload) ?_
  refine x_bmn.cons (xm_if) ?_
  refine x_bmn.cons (xm_iload) ?_
  refine x_bmn.cons (xm_if) ?_
  refine x_bmn.cons (xm_vret) ?_
  refine x_bmn.cons (xm_aload) ?_
  refine x_bmn.cons (xm_push) ?_
  refine x_bmn.cons (xm_push) ?_
  refine x_bmn.cons (xm_iload) ?_
  refine x_bmn.cons (xm_iload) ?_
  refine x_bmn.cons (xm_iload) ?_
  refine x_bmn.cons (xm_if) ?_
  refine x_bmn.cons (xm_aload) ?_
  refine x_bmn.cons (xm_get) ?_
  refine x_bmn.cons (xm_iload) ?_
  refine x_bmn.cons (xm_ald) ?_
  refine x_bmn.cons (xm_if) ?_
  refine x_bmn.cons (xm_aload) ?_
  refine x_bmn.cons (xm_get) ?_
  refine x_bmn.cons (xm_iload) ?_
  refine x_bmn.cons (xm_ald) ?_
  refine x_bmn.cons (xm_goto) ?_
  refine x_bmn.cons (xm_push) ?_
  refine x_bmn.cons (xm_push) ?_
  refine x_bmn.cons (xm_push) ?_
  refine x_bmn.cons (xm_invV ym_R_record) ?_
  refine x_bmn.cons (xm_aload) ?_
  refine x_bmn.cons (xm_push) ?_
  refine x_bmn.cons (xm_push) ?_
  refine x_bmn.cons (xm_push) ?_
  refine x_bmn.cons (xm_iload) ?_
  refine x_bmn.cons (xm_push) ?_
  refine x_bmn.cons (xm_iload) ?_
  refine x_bmn.cons (xm_invV ym_R_sent) ?_
  refine x_bmn.cons (xm_goto) ?_
  refine x_bmn.cons (xm_push) ?_
  refine x_bmn.cons (xm_istore) ?_
  refine x_bmn.cons (xm_push) ?_
  refine x_bmn.cons (xm_invS ym_R_at) ?_
  refine x_bmn.cons (xm_istore) ?_
  refine x_bmn.cons (xm_iload) ?_
  refine x_bmn.cons (xm_push) ?_
  refine x_bmn.cons (xm_invS ym_R_at) ?_
  refine x_bmn.cons (xm_aload) ?_
  refine x_bmn.cons (xm_get) ?_
  refine x_bmn.cons (xm_push) ?_
  refine x_bmn.cons (xm_ald) ?_
  refine x_bmn.cons (xm_bin) ?_
  refine x_bmn.cons (xm_icmp) ?_
  refine x_bmn.cons (xm_aload) ?_
  refine x_bmn.cons (xm_get) ?_
  refine x_bmn.cons (xm_iload) ?_
  refine x_bmn.cons (xm_ald) ?_
  refine x_bmn.cons (xm_iload) ?_
  refine x_bmn.cons (xm_icmp) ?_
  refine x_bmn.cons (xm_aload) ?_
  refine x_bmn.cons (xm_get) ?_
  refine x_bmn.cons (xm_iload) ?_
  refine x_bmn.cons (xm_ald) ?_
  refine x_bmn.cons (xm_iload) ?_
  refine x_bmn.cons (xm_icmp) ?_
  refine x_bmn.cons (xm_goto) ?_
  refine x_bmn.cons (xm_aload) ?_
  refine x_bmn.cons (xm_get) ?_
  refine x_bmn.cons (xm_iload) ?_
  refine x_bmn.cons (xm_ald) ?_
  refine x_bmn.cons (xm_push) ?_
  refine x_bmn.cons (xm_icmp) ?_
  refine x_bmn.cons (xm_aload) ?_
  refine x_bmn.cons (xm_get) ?_
  refine x_bmn.cons (xm_iload) ?_
  refine x_bmn.cons (xm_ald) ?_
  refine x_bmn.cons (xm_if) ?_
  refine x_bmn.cons (xm_iload) ?_
  refine x_bmn.cons (xm_aload) ?_
  refine x_bmn.cons (xm_get) ?_
  refine x_bmn.cons (xm_iload) ?_
  refine x_bmn.cons (xm_ald) ?_
  refine x_bmn.cons (xm_bin) ?_
  refine x_bmn.cons (xm_istore) ?_
  refine x_bmn.cons (xm_aload) ?_
  refine x_bmn.cons (xm_get) ?_
  refine x_bmn.cons (xm_iload) ?_
  refine x_bmn.cons (xm_ald) ?_
  refine x_bmn.cons (xm_push) ?_
  refine x_bmn.cons (xm_icmp) ?_
  refine x_bmn.cons (xm_iload) ?_
  refine x_bmn.cons (xm_aload) ?_
  refine x_bmn.cons (xm_get) ?_
  refine x_bmn.cons (xm_iload) ?_
  refine x_bmn.cons (xm_ald) ?_
  refine x_bmn.cons (xm_bin) ?_
  refine x_bmn.cons (xm_istore) ?_
  refine x_bmn.cons (xm_iinc) ?_
  refine x_bmn.cons (xm_goto) ?_
  refine x_bmn.cons (xm_aload) ?_
  refine x_bmn.cons (xm_push) ?_
  refine x_bmn.cons (xm_push) ?_
  refine x_bmn.cons (xm_push) ?_
  refine x_bmn.cons (xm_iload) ?_
  refine x_bmn.cons (xm_iload) ?_
  refine x_bmn.cons (xm_aload) ?_
  refine x_bmn.cons (xm_get) ?_
  refine x_bmn.cons (xm_iload) ?_
  refine x_bmn.cons (xm_ald) ?_
  refine x_bmn.cons (xm_icmp) ?_
  refine x_bmn.cons (xm_push) ?_
  refine x_bmn.cons (xm_goto) ?_
  refine x_bmn.cons (xm_push) ?_
  refine x_bmn.cons (xm_iload) ?_
  refine x_bmn.cons (xm_invV ym_R_sent) ?_
  refine x_bmn.cons (xm_vret) ?_
  exact x_bmn.nil
theorem is_R_bank : x_Is y_R_bank m_R_bank := x_is_code q6_156
def Y_R_bank : XMeth := x_do 9 b_R_bank
theorem sn_R_bank : x_Snd y_R_bank m_R_bank Y_R_bank := x_snd_of (by decide) rfl rfl is_R_bank k_R_bank
theorem ym_R_bank : x_Ymn Y_R_bank := x_ymn_of mn_R_bank
