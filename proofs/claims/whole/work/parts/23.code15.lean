/- CashLinkModel.<init>()V -/
abbrev c_R_init : ByteArray := prog_12_method_1_code
def y_R_init : MethodName := ⟨"CashLinkModel", "<init>", "()V"⟩
theorem d_R_init_0 : decode c_R_init 0 = .ok (.aload_n 0, 1) := by decide +kernel
theorem d_R_init_1 : decode c_R_init 1 = .ok (.invokespecial 1, 3) := by decide +kernel
theorem d_R_init_4 : decode c_R_init 4 = .ok (.aload_n 0, 1) := by decide +kernel
theorem d_R_init_5 : decode c_R_init 5 = .ok (.sipush 8800, 3) := by decide +kernel
theorem d_R_init_8 : decode c_R_init 8 = .ok (.newarray .int, 2) := by decide +kernel
theorem d_R_init_10 : decode c_R_init 10 = .ok (.putfield 7, 3) := by decide +kernel
theorem d_R_init_13 : decode c_R_init 13 = .ok (.aload_n 0, 1) := by decide +kernel
theorem d_R_init_14 : decode c_R_init 14 = .ok (.sipush 8800, 3) := by decide +kernel
theorem d_R_init_17 : decode c_R_init 17 = .ok (.newarray .int, 2) := by decide +kernel
theorem d_R_init_19 : decode c_R_init 19 = .ok (.putfield 13, 3) := by decide +kernel
theorem d_R_init_22 : decode c_R_init 22 = .ok (.aload_n 0, 1) := by decide +kernel
theorem d_R_init_23 : decode c_R_init 23 = .ok (.sipush 8800, 3) := by decide +kernel
theorem d_R_init_26 : decode c_R_init 26 = .ok (.newarray .int, 2) := by decide +kernel
theorem d_R_init_28 : decode c_R_init 28 = .ok (.putfield 16, 3) := by decide +kernel
theorem d_R_init_31 : decode c_R_init 31 = .ok (.aload_n 0, 1) := by decide +kernel
theorem d_R_init_32 : decode c_R_init 32 = .ok (.sipush 8800, 3) := by decide +kernel
theorem d_R_init_35 : decode c_R_init 35 = .ok (.newarray .int, 2) := by decide +kernel
theorem d_R_init_37 : decode c_R_init 37 = .ok (.putfield 19, 3) := by decide +kernel
theorem d_R_init_40 : decode c_R_init 40 = .ok (.aload_n 0, 1) := by decide +kernel
theorem d_R_init_41 : decode c_R_init 41 = .ok (.sipush 8800, 3) := by decide +kernel
theorem d_R_init_44 : decode c_R_init 44 = .ok (.newarray .int, 2) := by decide +kernel
theorem d_R_init_46 : decode c_R_init 46 = .ok (.putfield 22, 3) := by decide +kernel
theorem d_R_init_49 : decode c_R_init 49 = .ok (.aload_n 0, 1) := by decide +kernel
theorem d_R_init_50 : decode c_R_init 50 = .ok (.sipush 8800, 3) := by decide +kernel
theorem d_R_init_53 : decode c_R_init 53 = .ok (.newarray .int, 2) := by decide +kernel
theorem d_R_init_55 : decode c_R_init 55 = .ok (.putfield 25, 3) := by decide +kernel
theorem d_R_init_58 : decode c_R_init 58 = .ok (.aload_n 0, 1) := by decide +kernel
theorem d_R_init_59 : decode c_R_init 59 = .ok (.iconst 5, 1) := by decide +kernel
theorem d_R_init_60 : decode c_R_init 60 = .ok (.newarray .int, 2) := by decide +kernel
theorem d_R_init_62 : decode c_R_init 62 = .ok (.putfield 28, 3) := by decide +kernel
theorem d_R_init_65 : decode c_R_init 65 = .ok (.aload_n 0, 1) := by decide +kernel
theorem d_R_init_66 : decode c_R_init 66 = .ok (.iconst 5, 1) := by decide +kernel
theorem d_R_init_67 : decode c_R_init 67 = .ok (.newarray .int, 2) := by decide +kernel
theorem d_R_init_69 : decode c_R_init 69 = .ok (.putfield 31, 3) := by decide +kernel
theorem d_R_init_72 : decode c_R_init 72 = .ok (.aload_n 0, 1) := by decide +kernel
theorem d_R_init_73 : decode c_R_init 73 = .ok (.iconst 5, 1) := by decide +kernel
theorem d_R_init_74 : decode c_R_init 74 = .ok (.newarray .int, 2) := by decide +kernel
theorem d_R_init_76 : decode c_R_init 76 = .ok (.putfield 34, 3) := by decide +kernel
theorem d_R_init_79 : decode c_R_init 79 = .ok (.aload_n 0, 1) := by decide +kernel
theorem d_R_init_80 : decode c_R_init 80 = .ok (.iconst 1, 1) := by decide +kernel
theorem d_R_init_81 : decode c_R_init 81 = .ok (.putfield 37, 3) := by decide +kernel
theorem d_R_init_84 : decode c_R_init 84 = .ok (.aload_n 0, 1) := by decide +kernel
theorem d_R_init_85 : decode c_R_init 85 = .ok (.iconst 4, 1) := by decide +kernel
theorem d_R_init_86 : decode c_R_init 86 = .ok (.newarray .int, 2) := by decide +kernel
theorem d_R_init_88 : decode c_R_init 88 = .ok (.putfield 41, 3) := by decide +kernel
theorem d_R_init_91 : decode c_R_init 91 = .ok (.aload_n 0, 1) := by decide +kernel
theorem d_R_init_92 : decode c_R_init 92 = .ok (.iconst 4, 1) := by decide +kernel
theorem d_R_init_93 : decode c_R_init 93 = .ok (.newarray .int, 2) := by decide +kernel
theorem d_R_init_95 : decode c_R_init 95 = .ok (.putfield 44, 3) := by decide +kernel
theorem d_R_init_98 : decode c_R_init 98 = .ok (.aload_n 0, 1) := by decide +kernel
theorem d_R_init_99 : decode c_R_init 99 = .ok (.iconst 4, 1) := by decide +kernel
theorem d_R_init_100 : decode c_R_init 100 = .ok (.newarray .int, 2) := by decide +kernel
theorem d_R_init_102 : decode c_R_init 102 = .ok (.putfield 47, 3) := by decide +kernel
theorem d_R_init_105 : decode c_R_init 105 = .ok (.aload_n 0, 1) := by decide +kernel
theorem d_R_init_106 : decode c_R_init 106 = .ok (.bipush 16, 2) := by decide +kernel
theorem d_R_init_108 : decode c_R_init 108 = .ok (.newarray .int, 2) := by decide +kernel
theorem d_R_init_110 : decode c_R_init 110 = .ok (.putfield 50, 3) := by decide +kernel
theorem d_R_init_113 : decode c_R_init 113 = .ok (.aload_n 0, 1) := by decide +kernel
theorem d_R_init_114 : decode c_R_init 114 = .ok (.iconst 4, 1) := by decide +kernel
theorem d_R_init_115 : decode c_R_init 115 = .ok (.newarray .int, 2) := by decide +kernel
theorem d_R_init_117 : decode c_R_init 117 = .ok (.putfield 53, 3) := by decide +kernel
theorem d_R_init_120 : decode c_R_init 120 = .ok (.aload_n 0, 1) := by decide +kernel
theorem d_R_init_121 : decode c_R_init 121 = .ok (.iconst 4, 1) := by decide +kernel
theorem d_R_init_122 : decode c_R_init 122 = .ok (.newarray .int, 2) := by decide +kernel
theorem d_R_init_124 : decode c_R_init 124 = .ok (.putfield 56, 3) := by decide +kernel
theorem d_R_init_127 : decode c_R_init 127 = .ok (.aload_n 0, 1) := by decide +kernel
theorem d_R_init_128 : decode c_R_init 128 = .ok (.iconst 4, 1) := by decide +kernel
theorem d_R_init_129 : decode c_R_init 129 = .ok (.newarray .int, 2) := by decide +kernel
theorem d_R_init_131 : decode c_R_init 131 = .ok (.putfield 59, 3) := by decide +kernel
theorem d_R_init_134 : decode c_R_init 134 = .ok (.aload_n 0, 1) := by decide +kernel
theorem d_R_init_135 : decode c_R_init 135 = .ok (.iconst 4, 1) := by decide +kernel
theorem d_R_init_136 : decode c_R_init 136 = .ok (.newarray .int, 2) := by decide +kernel
theorem d_R_init_138 : decode c_R_init 138 = .ok (.putfield 62, 3) := by decide +kernel
theorem d_R_init_141 : decode c_R_init 141 = .ok (.aload_n 0, 1) := by decide +kernel
theorem d_R_init_142 : decode c_R_init 142 = .ok (.sipush 200, 3) := by decide +kernel
theorem d_R_init_145 : decode c_R_init 145 = .ok (.newarray .int, 2) := by decide +kernel
theorem d_R_init_147 : decode c_R_init 147 = .ok (.putfield 65, 3) := by decide +kernel
theorem d_R_init_150 : decode c_R_init 150 = .ok (.aload_n 0, 1) := by decide +kernel
theorem d_R_init_151 : decode c_R_init 151 = .ok (.sipush 3000, 3) := by decide +kernel
theorem d_R_init_154 : decode c_R_init 154 = .ok (.newarray .int, 2) := by decide +kernel
theorem d_R_init_156 : decode c_R_init 156 = .ok (.putfield 68, 3) := by decide +kernel
theorem d_R_init_159 : decode c_R_init 159 = .ok (.aload_n 0, 1) := by decide +kernel
theorem d_R_init_160 : decode c_R_init 160 = .ok (.sipush 3000, 3) := by decide +kernel
theorem d_R_init_163 : decode c_R_init 163 = .ok (.newarray .int, 2) := by decide +kernel
theorem d_R_init_165 : decode c_R_init 165 = .ok (.putfield 71, 3) := by decide +kernel
theorem d_R_init_168 : decode c_R_init 168 = .ok (.aload_n 0, 1) := by decide +kernel
theorem d_R_init_169 : decode c_R_init 169 = .ok (.sipush 3000, 3) := by decide +kernel
theorem d_R_init_172 : decode c_R_init 172 = .ok (.newarray .int, 2) := by decide +kernel
theorem d_R_init_174 : decode c_R_init 174 = .ok (.putfield 74, 3) := by decide +kernel
theorem d_R_init_177 : decode c_R_init 177 = .ok (.aload_n 0, 1) := by decide +kernel
theorem d_R_init_178 : decode c_R_init 178 = .ok (.sipush 3000, 3) := by decide +kernel
theorem d_R_init_181 : decode c_R_init 181 = .ok (.newarray .int, 2) := by decide +kernel
theorem d_R_init_183 : decode c_R_init 183 = .ok (.putfield 77, 3) := by decide +kernel
theorem d_R_init_186 : decode c_R_init 186 = .ok (.aload_n 0, 1) := by decide +kernel
theorem d_R_init_187 : decode c_R_init 187 = .ok (.sipush 3000, 3) := by decide +kernel
theorem d_R_init_190 : decode c_R_init 190 = .ok (.newarray .int, 2) := by decide +kernel
theorem d_R_init_192 : decode c_R_init 192 = .ok (.putfield 80, 3) := by decide +kernel
theorem d_R_init_195 : decode c_R_init 195 = .ok (.aload_n 0, 1) := by decide +kernel
theorem d_R_init_196 : decode c_R_init 196 = .ok (.sipush 3000, 3) := by decide +kernel
theorem d_R_init_199 : decode c_R_init 199 = .ok (.newarray .int, 2) := by decide +kernel
theorem d_R_init_201 : decode c_R_init 201 = .ok (.putfield 83, 3) := by decide +kernel
theorem d_R_init_204 : decode c_R_init 204 = .ok (.aload_n 0, 1) := by decide +kernel
theorem d_R_init_205 : decode c_R_init 205 = .ok (.iconst 4, 1) := by decide +kernel
theorem d_R_init_206 : decode c_R_init 206 = .ok (.newarray .int, 2) := by decide +kernel
theorem d_R_init_208 : decode c_R_init 208 = .ok (.putfield 86, 3) := by decide +kernel
theorem d_R_init_211 : decode c_R_init 211 = .ok (.aload_n 0, 1) := by decide +kernel
theorem d_R_init_212 : decode c_R_init 212 = .ok (.iconst 4, 1) := by decide +kernel
theorem d_R_init_213 : decode c_R_init 213 = .ok (.newarray .int, 2) := by decide +kernel
theorem d_R_init_215 : decode c_R_init 215 = .ok (.putfield 89, 3) := by decide +kernel
theorem d_R_init_218 : decode c_R_init 218 = .ok (.aload_n 0, 1) := by decide +kernel
theorem d_R_init_219 : decode c_R_init 219 = .ok (.bipush 64, 2) := by decide +kernel
theorem d_R_init_221 : decode c_R_init 221 = .ok (.newarray .byte, 2) := by decide +kernel
theorem d_R_init_223 : decode c_R_init 223 = .ok (.putfield 92, 3) := by decide +kernel
theorem d_R_init_226 : decode c_R_init 226 = .ok (.iconst 0, 1) := by decide +kernel
theorem d_R_init_227 : decode c_R_init 227 = .ok (.istore_n 1, 1) := by decide +kernel
theorem d_R_init_228 : decode c_R_init 228 = .ok (.iload_n 1, 1) := by decide +kernel
theorem d_R_init_229 : decode c_R_init 229 = .ok (.iconst 5, 1) := by decide +kernel
theorem d_R_init_230 : decode c_R_init 230 = .ok (.if_icmp .ge 17, 3) := by decide +kernel
theorem d_R_init_233 : decode c_R_init 233 = .ok (.aload_n 0, 1) := by decide +kernel
theorem d_R_init_234 : decode c_R_init 234 = .ok (.getfield 34, 3) := by decide +kernel
theorem d_R_init_237 : decode c_R_init 237 = .ok (.iload_n 1, 1) := by decide +kernel
theorem d_R_init_238 : decode c_R_init 238 = .ok (.bipush 17, 2) := by decide +kernel
theorem d_R_init_240 : decode c_R_init 240 = .ok (.iastore, 1) := by decide +kernel
theorem d_R_init_241 : decode c_R_init 241 = .ok (.iinc 1 1, 3) := by decide +kernel
theorem d_R_init_244 : decode c_R_init 244 = .ok (.goto (-16), 3) := by decide +kernel
theorem d_R_init_247 : decode c_R_init 247 = .ok (.iconst 0, 1) := by decide +kernel
theorem d_R_init_248 : decode c_R_init 248 = .ok (.istore_n 1, 1) := by decide +kernel
theorem d_R_init_249 : decode c_R_init 249 = .ok (.iload_n 1, 1) := by decide +kernel
theorem d_R_init_250 : decode c_R_init 250 = .ok (.iconst 4, 1) := by decide +kernel
theorem d_R_init_251 : decode c_R_init 251 = .ok (.if_icmp .ge 24, 3) := by decide +kernel
theorem d_R_init_254 : decode c_R_init 254 = .ok (.aload_n 0, 1) := by decide +kernel
theorem d_R_init_255 : decode c_R_init 255 = .ok (.getfield 41, 3) := by decide +kernel
theorem d_R_init_258 : decode c_R_init 258 = .ok (.iload_n 1, 1) := by decide +kernel
theorem d_R_init_259 : decode c_R_init 259 = .ok (.iconst 1, 1) := by decide +kernel
theorem d_R_init_260 : decode c_R_init 260 = .ok (.iastore, 1) := by decide +kernel
theorem d_R_init_261 : decode c_R_init 261 = .ok (.aload_n 0, 1) := by decide +kernel
theorem d_R_init_262 : decode c_R_init 262 = .ok (.getfield 62, 3) := by decide +kernel
theorem d_R_init_265 : decode c_R_init 265 = .ok (.iload_n 1, 1) := by decide +kernel
theorem d_R_init_266 : decode c_R_init 266 = .ok (.bipush 41, 2) := by decide +kernel
theorem d_R_init_268 : decode c_R_init 268 = .ok (.iastore, 1) := by decide +kernel
theorem d_R_init_269 : decode c_R_init 269 = .ok (.iinc 1 1, 3) := by decide +kernel
theorem d_R_init_272 : decode c_R_init 272 = .ok (.goto (-23), 3) := by decide +kernel
theorem d_R_init_275 : decode c_R_init 275 = .ok (.iconst 0, 1) := by decide +kernel
theorem d_R_init_276 : decode c_R_init 276 = .ok (.istore_n 1, 1) := by decide +kernel
theorem d_R_init_277 : decode c_R_init 277 = .ok (.iload_n 1, 1) := by decide +kernel
theorem d_R_init_278 : decode c_R_init 278 = .ok (.bipush 16, 2) := by decide +kernel
theorem d_R_init_280 : decode c_R_init 280 = .ok (.if_icmp .ge 17, 3) := by decide +kernel
theorem d_R_init_283 : decode c_R_init 283 = .ok (.aload_n 0, 1) := by decide +kernel
theorem d_R_init_284 : decode c_R_init 284 = .ok (.getfield 50, 3) := by decide +kernel
theorem d_R_init_287 : decode c_R_init 287 = .ok (.iload_n 1, 1) := by decide +kernel
theorem d_R_init_288 : decode c_R_init 288 = .ok (.bipush 30, 2) := by decide +kernel
theorem d_R_init_290 : decode c_R_init 290 = .ok (.iastore, 1) := by decide +kernel
theorem d_R_init_291 : decode c_R_init 291 = .ok (.iinc 1 1, 3) := by decide +kernel
theorem d_R_init_294 : decode c_R_init 294 = .ok (.goto (-17), 3) := by decide +kernel
theorem d_R_init_297 : decode c_R_init 297 = .ok (.return_, 1) := by decide +kernel
def m_R_init : XM := ("CashLinkModel", c_R_init, 2, none, "<init>", [], 1, 20)
def b_R_init : XB := [(0, X_aload 0 1),
  (1, X_obj),
  (4, X_aload 0 1),
  (5, X_push (xv_i 8800) 3),
  (8, X_newa 0 4 (.inl (fun _ => 0)) 2),
  (10, X_put x_tR 10 0),
  (13, X_aload 0 1),
  (14, X_push (xv_i 8800) 3),
  (17, X_newa 0 4 (.inl (fun _ => 0)) 2),
  (19, X_put x_tR 10 1),
  (22, X_aload 0 1),
  (23, X_push (xv_i 8800) 3),
  (26, X_newa 0 4 (.inl (fun _ => 0)) 2),
  (28, X_put x_tR 10 2),
  (31, X_aload 0 1),
  (32, X_push (xv_i 8800) 3),
  (35, X_newa 0 4 (.inl (fun _ => 0)) 2),
  (37, X_put x_tR 10 3),
  (40, X_aload 0 1),
  (41, X_push (xv_i 8800) 3),
  (44, X_newa 0 4 (.inl (fun _ => 0)) 2),
  (46, X_put x_tR 10 4),
  (49, X_aload 0 1),
  (50, X_push (xv_i 8800) 3),
  (53, X_newa 0 4 (.inl (fun _ => 0)) 2),
  (55, X_put x_tR 10 5),
  (58, X_aload 0 1),
  (59, X_push (xv_i 5) 1),
  (60, X_newa 0 4 (.inl (fun _ => 0)) 2),
  (62, X_put x_tR 10 6),
  (65, X_aload 0 1),
  (66, X_push (xv_i 5) 1),
  (67, X_newa 0 4 (.inl (fun _ => 0)) 2),
  (69, X_put x_tR 10 7),
  (72, X_aload 0 1),
  (73, X_push (xv_i 5) 1),
  (74, X_newa 0 4 (.inl (fun _ => 0)) 2),
  (76, X_put x_tR 10 8),
  (79, X_aload 0 1),
  (80, X_push (xv_i 1) 1),
  (81, X_put x_tZ 10 9),
  (84, X_aload 0 1),
  (85, X_push (xv_i 4) 1),
  (86, X_newa 0 4 (.inl (fun _ => 0)) 2),
  (88, X_put x_tR 10 10),
  (91, X_aload 0 1),
  (92, X_push (xv_i 4) 1),
  (93, X_newa 0 4 (.inl (fun _ => 0)) 2),
  (95, X_put x_tR 10 11),
  (98, X_aload 0 1),
  (99, X_push (xv_i 4) 1),
  (100, X_newa 0 4 (.inl (fun _ => 0)) 2),
  (102, X_put x_tR 10 12),
  (105, X_aload 0 1),
  (106, X_push (xv_i 16) 2),
  (108, X_newa 0 4 (.inl (fun _ => 0)) 2),
  (110, X_put x_tR 10 13),
  (113, X_aload 0 1),
  (114, X_push (xv_i 4) 1),
  (115, X_newa 0 4 (.inl (fun _ => 0)) 2),
  (117, X_put x_tR 10 14),
  (120, X_aload 0 1),
  (121, X_push (xv_i 4) 1),
  (122, X_newa 0 4 (.inl (fun _ => 0)) 2),
  (124, X_put x_tR 10 15),
  (127, X_aload 0 1),
  (128, X_push (xv_i 4) 1),
  (129, X_newa 0 4 (.inl (fun _ => 0)) 2),
  (131, X_put x_tR 10 16),
  (134, X_aload 0 1),
  (135, X_push (xv_i 4) 1),
  (136, X_newa 0 4 (.inl (fun _ => 0)) 2),
  (138, X_put x_tR 10 17),
  (141, X_aload 0 1),
  (142, X_push (xv_i 200) 3),
  (145, X_newa 0 4 (.inl (fun _ => 0)) 2),
  (147, X_put x_tR 10 18),
  (150, X_aload 0 1),
  (151, X_push (xv_i 3000) 3),
  (154, X_newa 0 4 (.inl (fun _ => 0)) 2),
  (156, X_put x_tR 10 19),
  (159, X_aload 0 1),
  (160, X_push (xv_i 3000) 3),
  (163, X_newa 0 4 (.inl (fun _ => 0)) 2),
  (165, X_put x_tR 10 20),
  (168, X_aload 0 1),
  (169, X_push (xv_i 3000) 3),
  (172, X_newa 0 4 (.inl (fun _ => 0)) 2),
  (174, X_put x_tR 10 21),
  (177, X_aload 0 1),
  (178, X_push (xv_i 3000) 3),
  (181, X_newa 0 4 (.inl (fun _ => 0)) 2),
  (183, X_put x_tR 10 22),
  (186, X_aload 0 1),
  (187, X_push (xv_i 3000) 3),
  (190, X_newa 0 4 (.inl (fun _ => 0)) 2),
  (192, X_put x_tR 10 23),
  (195, X_aload 0 1),
  (196, X_push (xv_i 3000) 3),
  (199, X_newa 0 4 (.inl (fun _ => 0)) 2),
  (201, X_put x_tR 10 24),
  (204, X_aload 0 1),
  (205, X_push (xv_i 4) 1),
  (206, X_newa 0 4 (.inl (fun _ => 0)) 2),
  (208, X_put x_tR 10 27),
  (211, X_aload 0 1),
  (212, X_push (xv_i 4) 1),
  (213, X_newa 0 4 (.inl (fun _ => 0)) 2),
  (215, X_put x_tR 10 28),
  (218, X_aload 0 1),
  (219, X_push (xv_i 64) 2),
  (221, X_newa 2 1 (.inl (fun _ => 0)) 2),
  (223, X_put x_tR 10 29),
  (226, X_push (xv_i 0) 1),
  (227, X_istore 1 1),
  (228, X_iload 1 1),
  (229, X_push (xv_i 5) 1),
  (230, X_icmp (fun x y => y ≤ x) 247),
  (233, X_aload 0 1),
  (234, X_get 10 8),
  (237, X_iload 1 1),
  (238, X_push (xv_i 17) 2),
  (240, X_ast 0 (fun x => x)),
  (241, X_iinc 1 1),
  (244, X_goto 228),
  (247, X_push (xv_i 0) 1),
  (248, X_istore 1 1),
  (249, X_iload 1 1),
  (250, X_push (xv_i 4) 1),
  (251, X_icmp (fun x y => y ≤ x) 275),
  (254, X_aload 0 1),
  (255, X_get 10 10),
  (258, X_iload 1 1),
  (259, X_push (xv_i 1) 1),
  (260, X_ast 0 (fun x => x)),
  (261, X_aload 0 1),
  (262, X_get 10 17),
  (265, X_iload 1 1),
  (266, X_push (xv_i 41) 2),
  (268, X_ast 0 (fun x => x)),
  (269, X_iinc 1 1),
  (272, X_goto 249),
  (275, X_push (xv_i 0) 1),
  (276, X_istore 1 1),
  (277, X_iload 1 1),
  (278, X_push (xv_i 16) 2),
  (280, X_icmp (fun x y => y ≤ x) 297),
  (283, X_aload 0 1),
  (284, X_get 10 13),
  (287, X_iload 1 1),
  (288, X_push (xv_i 30) 2),
  (290, X_ast 0 (fun x => x)),
  (291, X_iinc 1 1),
  (294, X_goto 277),
  (297, X_vret)]
set_option maxRecDepth 100000 in
theorem k_R_init : x_bok m_R_init b_R_init := by
  unfold b_R_init
  refine x_bok.cons (xs_aload_n d_R_init_0 rfl) ?_
  refine x_bok.cons (xs_obj d_R_init_1 ⟨q5_204, q1_42, q1_43⟩ (by decide)) ?_
  refine x_bok.cons (xs_aload_n d_R_init_4 rfl) ?_
  refine x_bok.cons (xs_sipush d_R_init_5 (by decide)) ?_
  refine x_bok.cons (xs_newa (ty := .int) d_R_init_8 rfl rfl q1_112 (fun _ _ _ => rfl) x_zint) ?_
  refine x_bok.cons (xs_putF d_R_init_10 xc10 xw10 xt10 xn10 (by decide) q5_205 (Or.inl rfl) rfl rfl rfl rfl x_fitA) ?_
  refine x_bok.cons (xs_aload_n d_R_init_13 rfl) ?_
  refine x_bok.cons (xs_sipush d_R_init_14 (by decide)) ?_
  refine x_bok.cons (xs_newa (ty := .int) d_R_init_17 rfl rfl q1_112 (fun _ _ _ => rfl) x_zint) ?_
  refine x_bok.cons (xs_putF d_R_init_19 xc10 xw10 xt10 xn10 (by decide) q5_206 (Or.inl rfl) rfl rfl rfl rfl x_fitA) ?_
  refine x_bok.cons (xs_aload_n d_R_init_22 rfl) ?_
  refine x_bok.cons (xs_sipush d_R_init_23 (by decide)) ?_
  refine x_bok.cons (xs_newa (ty := .int) d_R_init_26 rfl rfl q1_112 (fun _ _ _ => rfl) x_zint) ?_
  refine x_bok.cons (xs_putF d_R_init_28 xc10 xw10 xt10 xn10 (by decide) q5_207 (Or.inl rfl) rfl rfl rfl rfl x_fitA) ?_
  refine x_bok.cons (xs_aload_n d_R_init_31 rfl) ?_
  refine x_bok.cons (xs_sipush d_R_init_32 (by decide)) ?_
  refine x_bok.cons (xs_newa (ty := .int) d_R_init_35 rfl rfl q1_112 (fun _ _ _ => rfl) x_zint) ?_
  refine x_bok.cons (xs_putF d_R_init_37 xc10 xw10 xt10 xn10 (by decide) q5_208 (Or.inl rfl) rfl rfl rfl rfl x_fitA) ?_
  refine x_bok.cons (xs_aload_n d_R_init_40 rfl) ?_
  refine x_bok.cons (xs_sipush d_R_init_41 (by decide)) ?_
  refine x_bok.cons (xs_newa (ty := .int) d_R_init_44 rfl rfl q1_112 (fun _ _ _ => rfl) x_zint) ?_
  refine x_bok.cons (xs_putF d_R_init_46 xc10 xw10 xt10 xn10 (by decide) q5_209 (Or.inl rfl) rfl rfl rfl rfl x_fitA) ?_
  refine x_bok.cons (xs_aload_n d_R_init_49 rfl) ?_
  refine x_bok.cons (xs_sipush d_R_init_50 (by decide)) ?_
  refine x_bok.cons (xs_newa (ty := .int) d_R_init_53 rfl rfl q1_112 (fun _ _ _ => rfl) x_zint) ?_
  refine x_bok.cons (xs_putF d_R_init_55 xc10 xw10 xt10 xn10 (by decide) q5_210 (Or.inl rfl) rfl rfl rfl rfl x_fitA) ?_
  refine x_bok.cons (xs_aload_n d_R_init_58 rfl) ?_
  refine x_bok.cons (xs_iconst d_R_init_59 (by decide)) ?_
  refine x_bok.cons (xs_newa (ty := .int) d_R_init_60 rfl rfl q1_112 (fun _ _ _ => rfl) x_zint) ?_
  refine x_bok.cons (xs_putF d_R_init_62 xc10 xw10 xt10 xn10 (by decide) q5_211 (Or.inl rfl) rfl rfl rfl rfl x_fitA) ?_
  refine x_bok.cons (xs_aload_n d_R_init_65 rfl) ?_
  refine x_bok.cons (xs_iconst d_R_init_66 (by decide)) ?_
  refine x_bok.cons (xs_newa (ty := .int) d_R_init_67 rfl rfl q1_112 (fun _ _ _ => rfl) x_zint) ?_
  refine x_bok.cons (xs_putF d_R_init_69 xc10 xw10 xt10 xn10 (by decide) q5_212 (Or.inl rfl) rfl rfl rfl rfl x_fitA) ?_
  refine x_bok.cons (xs_aload_n d_R_init_72 rfl) ?_
  refine x_bok.cons (xs_iconst d_R_init_73 (by decide)) ?_
  refine x_bok.cons (xs_newa (ty := .int) d_R_init_74 rfl rfl q1_112 (fun _ _ _ => rfl) x_zint) ?_
  refine x_bok.cons (xs_putF d_R_init_76 xc10 xw10 xt10 xn10 (by decide) q5_213 (Or.inl rfl) rfl rfl rfl rfl x_fitA) ?_
  refine x_bok.cons (xs_aload_n d_R_init_79 rfl) ?_
  refine x_bok.cons (xs_iconst d_R_init_80 (by decide)) ?_
  refine x_bok.cons (xs_put d_R_init_81 xc10 xw10 xt10 xn10 (by decide) q5_214 (Or.inl rfl) rfl rfl x_fitZ) ?_
  refine x_bok.cons (xs_aload_n d_R_init_84 rfl) ?_
  refine x_bok.cons (xs_iconst d_R_init_85 (by decide)) ?_
  refine x_bok.cons (xs_newa (ty := .int) d_R_init_86 rfl rfl q1_112 (fun _ _ _ => rfl) x_zint) ?_
  refine x_bok.cons (xs_putF d_R_init_88 xc10 xw10 xt10 xn10 (by decide) q5_215 (Or.inl rfl) rfl rfl rfl rfl x_fitA) ?_
  refine x_bok.cons (xs_aload_n d_R_init_91 rfl) ?_
  refine x_bok.cons (xs_iconst d_R_init_92 (by decide)) ?_
  refine x_bok.cons (xs_newa (ty := .int) d_R_init_93 rfl rfl q1_112 (fun _ _ _ => rfl) x_zint) ?_
  refine x_bok.cons (xs_putF d_R_init_95 xc10 xw10 xt10 xn10 (by decide) q5_216 (Or.inl rfl) rfl rfl rfl rfl x_fitA) ?_
  refine x_bok.cons (xs_aload_n d_R_init_98 rfl) ?_
  refine x_bok.cons (xs_iconst d_R_init_99 (by decide)) ?_
  refine x_bok.cons (xs_newa (ty := .int) d_R_init_100 rfl rfl q1_112 (fun _ _ _ => rfl) x_zint) ?_
  refine x_bok.cons (xs_putF d_R_init_102 xc10 xw10 xt10 xn10 (by decide) q5_217 (Or.inl rfl) rfl rfl rfl rfl x_fitA) ?_
  refine x_bok.cons (xs_aload_n d_R_init_105 rfl) ?_
  refine x_bok.cons (xs_bipush d_R_init_106 (by decide)) ?_
  refine x_bok.cons (xs_newa (ty := .int) d_R_init_108 rfl rfl q1_112 (fun _ _ _ => rfl) x_zint) ?_
  refine x_bok.cons (xs_putF d_R_init_110 xc10 xw10 xt10 xn10 (by decide) q5_218 (Or.inl rfl) rfl rfl rfl rfl x_fitA) ?_
  refine x_bok.cons (xs_aload_n d_R_init_113 rfl) ?_
  refine x_bok.cons (xs_iconst d_R_init_114 (by decide)) ?_
  refine x_bok.cons (xs_newa (ty := .int) d_R_init_115 rfl rfl q1_112 (fun _ _ _ => rfl) x_zint) ?_
  refine x_bok.cons (xs_putF d_R_init_117 xc10 xw10 xt10 xn10 (by decide) q5_219 (Or.inl rfl) rfl rfl rfl rfl x_fitA) ?_
  refine x_bok.cons (xs_aload_n d_R_init_120 rfl) ?_
  refine x_bok.cons (xs_iconst d_R_init_121 (by decide)) ?_
  refine x_bok.cons (xs_newa (ty := .int) d_R_init_122 rfl rfl q1_112 (fun _ _ _ => rfl) x_zint) ?_
  refine x_bok.cons (xs_putF d_R_init_124 xc10 xw10 xt10 xn10 (by decide) q5_220 (Or.inl rfl) rfl rfl rfl rfl x_fitA) ?_
  refine x_bok.cons (xs_aload_n d_R_init_127 rfl) ?_
  refine x_bok.cons (xs_iconst d_R_init_128 (by decide)) ?_
  refine x_bok.cons (xs_newa (ty := .int) d_R_init_129 rfl rfl q1_112 (fun _ _ _ => rfl) x_zint) ?_
  refine x_bok.cons (xs_putF d_R_init_131 xc10 xw10 xt10 xn10 (by decide) q5_221 (Or.inl rfl) rfl rfl rfl rfl x_fitA) ?_
  refine x_bok.cons (xs_aload_n d_R_init_134 rfl) ?_
  refine x_bok.cons (xs_iconst d_R_init_135 (by decide)) ?_
  refine x_bok.cons (xs_newa (ty := .int) d_R_init_136 rfl rfl q1_112 (fun _ _ _ => rfl) x_zint) ?_
  refine x_bok.cons (xs_putF d_R_init_138 xc10 xw10 xt10 xn10 (by decide) q5_222 (Or.inl rfl) rfl rfl rfl rfl x_fitA) ?_
  refine x_bok.cons (xs_aload_n d_R_init_141 rfl) ?_
  refine x_bok.cons (xs_sipush d_R_init_142 (by decide)) ?_
  refine x_bok.cons (xs_newa (ty := .int) d_R_init_145 rfl rfl q1_112 (fun _ _ _ => rfl) x_zint) ?_
  refine x_bok.cons (xs_putF d_R_init_147 xc10 xw10 xt10 xn10 (by decide) q5_223 (Or.inl rfl) rfl rfl rfl rfl x_fitA) ?_
  refine x_bok.cons (xs_aload_n d_R_init_150 rfl) ?_
  refine x_bok.cons (xs_sipush d_R_init_151 (by decide)) ?_
  refine x_bok.cons (xs_newa (ty := .int) d_R_init_154 rfl rfl q1_112 (fun _ _ _ => rfl) x_zint) ?_
  refine x_bok.cons (xs_putF d_R_init_156 xc10 xw10 xt10 xn10 (by decide) q5_224 (Or.inl rfl) rfl rfl rfl rfl x_fitA) ?_
  refine x_bok.cons (xs_aload_n d_R_init_159 rfl) ?_
  refine x_bok.cons (xs_sipush d_R_init_160 (by decide)) ?_
  refine x_bok.cons (xs_newa (ty := .int) d_R_init_163 rfl rfl q1_112 (fun _ _ _ => rfl) x_zint) ?_
  refine x_bok.cons (xs_putF d_R_init_165 xc10 xw10 xt10 xn10 (by decide) q5_225 (Or.inl rfl) rfl rfl rfl rfl x_fitA) ?_
  refine x_bok.cons (xs_aload_n d_R_init_168 rfl) ?_
  refine x_bok.cons (xs_sipush d_R_init_169 (by decide)) ?_
  refine x_bok.cons (xs_newa (ty := .int) d_R_init_172 rfl rfl q1_112 (fun _ _ _ => rfl) x_zint) ?_
  refine x_bok.cons (xs_putF d_R_init_174 xc10 xw10 xt10 xn10 (by decide) q5_226 (Or.inl rfl) rfl rfl rfl rfl x_fitA) ?_
  refine x_bok.cons (xs_aload_n d_R_init_177 rfl) ?_
  refine x_bok.cons (xs_sipush d_R_init_178 (by decide)) ?_
  refine x_bok.cons (xs_newa (ty := .int) d_R_init_181 rfl rfl q1_112 (fun _ _ _ => rfl) x_zint) ?_
  refine x_bok.cons (xs_putF d_R_init_183 xc10 xw10 xt10 xn10 (by decide) q5_227 (Or.inl rfl) rfl rfl rfl rfl x_fitA) ?_
  refine x_bok.cons (xs_aload_n d_R_init_186 rfl) ?_
  refine x_bok.cons (xs_sipush d_R_init_187 (by decide)) ?_
  refine x_bok.cons (xs_newa (ty := .int) d_R_init_190 rfl rfl q1_112 (fun _ _ _ => rfl) x_zint) ?_
  refine x_bok.cons (xs_putF d_R_init_192 xc10 xw10 xt10 xn10 (by decide) q5_228 (Or.inl rfl) rfl rfl rfl rfl x_fitA) ?_
  refine x_bok.cons (xs_aload_n d_R_init_195 rfl) ?_
  refine x_bok.cons (xs_sipush d_R_init_196 (by decide)) ?_
  refine x_bok.cons (xs_newa (ty := .int) d_R_init_199 rfl rfl q1_112 (fun _ _ _ => rfl) x_zint) ?_
  refine x_bok.cons (xs_putF d_R_init_201 xc10 xw10 xt10 xn10 (by decide) q5_229 (Or.inl rfl) rfl rfl rfl rfl x_fitA) ?_
  refine x_bok.cons (xs_aload_n d_R_init_204 rfl) ?_
  refine x_bok.cons (xs_iconst d_R_init_205 (by decide)) ?_
  refine x_bok.cons (xs_newa (ty := .int) d_R_init_206 rfl rfl q1_112 (fun _ _ _ => rfl) x_zint) ?_
  refine x_bok.cons (xs_putF d_R_init_208 xc10 xw10 xt10 xn10 (by decide) q5_232 (Or.inl rfl) rfl rfl rfl rfl x_fitA) ?_
  refine x_bok.cons (xs_aload_n d_R_init_211 rfl) ?_
  refine x_bok.cons (xs_iconst d_R_init_212 (by decide)) ?_
  refine x_bok.cons (xs_newa (ty := .int) d_R_init_213 rfl rfl q1_112 (fun _ _ _ => rfl) x_zint) ?_
  refine x_bok.cons (xs_putF d_R_init_215 xc10 xw10 xt10 xn10 (by decide) q5_233 (Or.inl rfl) rfl rfl rfl rfl x_fitA) ?_
  refine x_bok.cons (xs_aload_n d_R_init_218 rfl) ?_
  refine x_bok.cons (xs_bipush d_R_init_219 (by decide)) ?_
  refine x_bok.cons (xs_newa (ty := .byte) d_R_init_221 rfl rfl q2_59 (fun _ _ _ => rfl) x_zbyte) ?_
  refine x_bok.cons (xs_putF d_R_init_223 xc10 xw10 xt10 xn10 (by decide) q5_234 (Or.inl rfl) rfl rfl rfl rfl x_fitA) ?_
  refine x_bok.cons (xs_iconst d_R_init_226 (by decide)) ?_
  refine x_bok.cons (xs_istore_n d_R_init_227 rfl (by decide)) ?_
  refine x_bok.cons (xs_iload_n d_R_init_228 rfl) ?_
  refine x_bok.cons (xs_iconst d_R_init_229 (by decide)) ?_
  refine x_bok.cons (xs_icmp_ge d_R_init_230 (by decide)) ?_
  refine x_bok.cons (xs_aload_n d_R_init_233 rfl) ?_
  refine x_bok.cons (xs_get d_R_init_234 xc10 xw10 (by decide) q5_213 (Or.inl rfl)) ?_
  refine x_bok.cons (xs_iload_n d_R_init_237 rfl) ?_
  refine x_bok.cons (xs_bipush d_R_init_238 (by decide)) ?_
  refine x_bok.cons (xs_iast d_R_init_240 rfl) ?_
  refine x_bok.cons (xs_iinc d_R_init_241 (by decide) (by decide)) ?_
  refine x_bok.cons (xs_goto d_R_init_244 (by decide)) ?_
  refine x_bok.cons (xs_iconst d_R_init_247 (by decide)) ?_
  refine x_bok.cons (xs_istore_n d_R_init_248 rfl (by decide)) ?_
  refine x_bok.cons (xs_iload_n d_R_init_249 rfl) ?_
  refine x_bok.cons (xs_iconst d_R_init_250 (by decide)) ?_
  refine x_bok.cons (xs_icmp_ge d_R_init_251 (by decide)) ?_
  refine x_bok.cons (xs_aload_n d_R_init_254 rfl) ?_
  refine x_bok.cons (xs_get d_R_init_255 xc10 xw10 (by decide) q5_215 (Or.inl rfl)) ?_
  refine x_bok.cons (xs_iload_n d_R_init_258 rfl) ?_
  refine x_bok.cons (xs_iconst d_R_init_259 (by decide)) ?_
  refine x_bok.cons (xs_iast d_R_init_260 rfl) ?_
  refine x_bok.cons (xs_aload_n d_R_init_261 rfl) ?_
  refine x_bok.cons (xs_get d_R_init_262 xc10 xw10 (by decide) q5_222 (Or.inl rfl)) ?_
  refine x_bok.cons (xs_iload_n d_R_init_265 rfl) ?_
  refine x_bok.cons (xs_bipush d_R_init_266 (by decide)) ?_
  refine x_bok.cons (xs_iast d_R_init_268 rfl) ?_
  refine x_bok.cons (xs_iinc d_R_init_269 (by decide) (by decide)) ?_
  refine x_bok.cons (xs_goto d_R_init_272 (by decide)) ?_
  refine x_bok.cons (xs_iconst d_R_init_275 (by decide)) ?_
  refine x_bok.cons (xs_istore_n d_R_init_276 rfl (by decide)) ?_
  refine x_bok.cons (xs_iload_n d_R_init_277 rfl) ?_
  refine x_bok.cons (xs_bipush d_R_init_278 (by decide)) ?_
  refine x_bok.cons (xs_icmp_ge d_R_init_280 (by decide)) ?_
  refine x_bok.cons (xs_aload_n d_R_init_283 rfl) ?_
  refine x_bok.cons (xs_get d_R_init_284 xc10 xw10 (by decide) q5_218 (Or.inl rfl)) ?_
  refine x_bok.cons (xs_iload_n d_R_init_287 rfl) ?_
  refine x_bok.cons (xs_bipush d_R_init_288 (by decide)) ?_
  refine x_bok.cons (xs_iast d_R_init_290 rfl) ?_
  refine x_bok.cons (xs_iinc d_R_init_291 (by decide) (by decide)) ?_
  refine x_bok.cons (xs_goto d_R_init_294 (by decide)) ?_
  refine x_bok.cons (xs_vret d_R_init_297 rfl) ?_
  exact x_bok.nil
set_option maxRecDepth 100000 in
theorem mn_R_init : x_bmn b_R_init := by
  unfold b_R_init
  refine x_bmn.cons (xm_aload) ?_
  refine x_bmn.cons (xm_obj) ?_
  refine x_bmn.cons (xm_aload) ?_
  refine x_bmn.cons (xm_push) ?_
  refine x_bmn.cons (xm_newa) ?_
  refine x_bmn.cons (xm_put) ?_
  refine x_bmn.cons (xm_aload) ?_
  refine x_bmn.cons (xm_push) ?_
  refine x_bmn.cons (xm_newa) ?_
  refine x_bmn.cons (xm_put) ?_
  refine x_bmn.cons (xm_aload) ?_
  refine x_bmn.cons (xm_push) ?_
  refine x_bmn.cons (xm_newa) ?_
  refine x_bmn.cons (xm_put) ?_
  refine x_bmn.cons (xm_aload) ?_
  refine x_bmn.cons (xm_push) ?_
  refine x_bmn.cons (xm_newa) ?_
  refine x_bmn.cons (xm_put) ?_
  refine x_bmn.cons (xm_aload) ?_
  refine x_bmn.cons (xm_push) ?_
  refine x_bmn.cons (xm_newa) ?_
  refine x_bmn.cons (xm_put) ?_
  refine x_bmn.cons (xm_aload) ?_
  refine x_bmn.cons (xm_push) ?_
  refine x_bmn.cons (xm_newa) ?_
  refine x_bmn.cons (xm_put) ?_
  refine x_bmn.cons (xm_aload) ?_
  refine x_bmn.cons (xm_push) ?_
  refine x_bmn.cons (xm_newa) ?_
  refine x_bmn.cons (xm_put) ?_
  refine x_bmn.cons (xm_aload) ?_
  refine x_bmn.cons (xm_push) ?_
  refine x_bmn.cons (xm_newa) ?_
  refine x_bmn.cons (xm_put) ?_
  refine x_bmn.cons (xm_aload) ?_
  refine x_bmn.cons (xm_push) ?_
  refine x_bmn.cons (xm_newa) ?_
  refine x_bmn.cons (xm_put) ?_
  refine x_bmn.cons (xm_aload) ?_
  refine x_bmn.cons (xm_push) ?_
  refine x_bmn.cons (xm_put) ?_
  refine x_bmn.cons (xm_aload) ?_
  refine x_bmn.cons (xm_push) ?_
  refine x_bmn.cons (xm_newa) ?_
  refine x_bmn.cons (xm_put) ?_
  refine x_bmn.cons (xm_aload) ?_
  refine x_bmn.cons (xm_push) ?_
  refine x_bmn.cons (xm_newa) ?_
  refine x_bmn.cons (xm_put) ?_
  refine x_bmn.cons (xm_aload) ?_
  refine x_bmn.cons (xm_push) ?_
  refine x_bmn.cons (xm_newa) ?_
  refine x_bmn.cons (xm_put) ?_
  refine x_bmn.cons (xm_aload) ?_
  refine x_bmn.cons (xm_push) ?_
  refine x_bmn.cons (xm_newa) ?_
  refine x_bmn.cons (xm_put) ?_
  refine x_bmn.cons (xm_aload) ?_
  refine x_bmn.cons (xm_push) ?_
  refine x_bmn.cons (xm_newa) ?_
  refine x_bmn.cons (xm_put) ?_
  refine x_bmn.cons (xm_aload) ?_
  refine x_bmn.cons (xm_push) ?_
  refine x_bmn.cons (xm_newa) ?_
  refine x_bmn.cons (xm_put) ?_
  refine x_bmn.cons (xm_aload) ?_
  refine x_bmn.cons (xm_push) ?_
  refine x_bmn.cons (xm_newa) ?_
  refine x_bmn.cons (xm_put) ?_
  refine x_bmn.cons (xm_aload) ?_
  refine x_bmn.cons (xm_push) ?_
  refine x_bmn.cons (xm_newa) ?_
  refine x_bmn.cons (xm_put) ?_
  refine x_bmn.cons (xm_aload) ?_
  refine x_bmn.cons (xm_push) ?_
  refine x_bmn.cons (xm_newa) ?_
  refine x_bmn.cons (xm_put) ?_
  refine x_bmn.cons (xm_aload) ?_
  refine x_bmn.cons (xm_push) ?_
  refine x_bmn.cons (xm_newa) ?_
  refine x_bmn.cons (xm_put) ?_
  refine x_bmn.cons (xm_aload) ?_
  refine x_bmn.cons (xm_push) ?_
  refine x_bmn.cons (xm_newa) ?_
  refine x_bmn.cons (xm_put) ?_
  refine x_bmn.cons (xm_aload) ?_
  refine x_bmn.cons (xm_push) ?_
  refine x_bmn.cons (xm_newa) ?_
  refine x_bmn.cons (xm_put) ?_
  refine x_bmn.cons (xm_aload) ?_
  refine x_bmn.cons (xm_push) ?_
  refine x_bmn.cons (xm_newa) ?_
  refine x_bmn.cons (xm_put) ?_
  refine x_bmn.cons (xm_aload) ?_
  refine x_bmn.cons (xm_push) ?_
  refine x_bmn.cons (xm_newa) ?_
  refine x_bmn.cons (xm_put) ?_
  refine x_bmn.cons (xm_aload) ?_
  refine x_bmn.cons (xm_push) ?_
  refine x_bmn.cons (xm_newa) ?_
  refine x_bmn.cons (xm_put) ?_
  refine x_bmn.cons (xm_aload) ?_
  refine x_bmn.cons (xm_push) ?_
  refine x_bmn.cons (xm_newa) ?_
  refine x_bmn.cons (xm_put) ?_
  refine x_bmn.cons (xm_aload) ?_
  refine x_bmn.cons (xm_push) ?_
  refine x_bmn.cons (xm_newa) ?_
  refine x_bmn.cons (xm_put) ?_
  refine x_bmn.cons (xm_aload) ?_
  refine x_bmn.cons (xm_push) ?_
  refine x_bmn.cons (xm_newa) ?_
  refine x_bmn.cons (xm_put) ?_
  refine x_bmn.cons (xm_push) ?_
  refine x_bmn.cons (xm_istore) ?_
  refine x_bmn.cons (xm_iload) ?_
  refine x_bmn.cons (xm_push) ?_
  refine x_bmn.cons (xm_icmp) ?_
  refine x_bmn.cons (xm_aload) ?_
  refine x_bmn.cons (xm_get) ?_
  refine x_bmn.cons (xm_iload) ?_
  refine x_bmn.cons (xm_push) ?_
  refine x_bmn.cons (xm_ast) ?_
  refine x_bmn.cons (xm_iinc) ?_
  refine x_bmn.cons (xm_goto) ?_
  refine x_bmn.cons (xm_push) ?_
  refine x_bmn.cons (xm_istore) ?_
  refine x_bmn.cons (xm_iload) ?_
  refine x_bmn.cons (xm_push) ?_
  refine x_bmn.cons (xm_icmp) ?_
  refine x_bmn.cons (xm_aload) ?_
  refine x_bmn.cons (xm_get) ?_
  refine x_bmn.cons (xm_iload) ?_
  refine x_bmn.cons (xm_push) ?_
  refine x_bmn.cons (xm_ast) ?_
  refine x_bmn.cons (xm_aload) ?_
  refine x_bmn.cons (xm_get) ?_
  refine x_bmn.cons (xm_iload) ?_
  refine x_bmn.cons (xm_push) ?_
  refine x_bmn.cons (xm_ast) ?_
  refine x_bmn.cons (xm_iinc) ?_
  refine x_bmn.cons (xm_goto) ?_
  refine x_bmn.cons (xm_push) ?_
  refine x_bmn.cons (xm_istore) ?_
  refine x_bmn.cons (xm_iload) ?_
  refine x_bmn.cons (xm_push) ?_
  refine x_bmn.cons (xm_icmp) ?_
  refine x_bmn.cons (xm_aload) ?_
  refine x_bmn.cons (xm_get) ?_
  refine x_bmn.cons (xm_iload) ?_
  refine x_bmn.cons (xm_push) ?_
  refine x_bmn.cons (xm_ast) ?_
  refine x_bmn.cons (xm_iinc) ?_
  refine x_bmn.cons (xm_goto) ?_
  refine x_bmn.cons (xm_vret) ?_
  exact x_bmn.nil
theorem is_R_init : x_Is y_R_init m_R_init := x_is_code q5_203
def Y_R_init : XMeth := x_do 2 b_R_init
theorem sn_R_init : x_Snd y_R_init m_R_init Y_R_init := x_snd_of (by decide) rfl rfl is_R_init k_R_init
theorem ym_R_init : x_Ymn Y_R_init := x_ymn_of mn_R_init
/- CashLinkModel.thrown()I -/
abbrev c_R_thrown : ByteArray := prog_12_method_2_code
def y_R_thrown : MethodName := ⟨"CashLinkModel", "thrown", "()I"⟩
theorem d_R_thrown_0 : decode c_R_thrown 0 = .ok (.aload_n 0, 1) := by decide +kernel
theorem d_R_thrown_1 : decode c_R_thrown 1 = .ok (.getfield 96, 3) := by decide +kernel
theorem d_R_thrown_4 : decode c_R_thrown 4 = .ok (.ireturn, 1) := by decide +kernel
def m_R_thrown : XM := ("CashLinkModel", c_R_thrown, 1, (some .int), "thrown", [], 0, 0)
def b_R_thrown : XB := [(0, X_aload 0 1),
  (1, X_get 10 26),
  (4, X_iret)]
set_option maxRecDepth 100000 in
theorem k_R_thrown : x_bok m_R_thrown b_R_thrown := by
  unfold b_R_thrown
  refine x_bok.cons (xs_aload_n d_R_thrown_0 rfl) ?_
  refine x_bok.cons (xs_get d_R_thrown_1 xc10 xw10 (by decide) q5_231 (Or.inl rfl)) ?_
  refine x_bok.cons (xs_iret d_R_thrown_4 rfl) ?_
  exact x_bok.nil
set_option maxRecDepth 100000 in
theorem mn_R_thrown : x_bmn b_R_thrown := by
  unfold b_R_thrown
  refine x_bmn.cons (xm_aload) ?_
  refine x_bmn.cons (xm_get) ?_
  refine x_bmn.cons (xm_iret) ?_
  exact x_bmn.nil
theorem is_R_thrown : x_Is y_R_thrown m_R_thrown := x_is_code q6_62
def Y_R_thrown : XMeth := x_do 1 b_R_thrown
theorem sn_R_thrown : x_Snd y_R_thrown m_R_thrown Y_R_thrown := x_snd_of (by decide) rfl rfl is_R_thrown k_R_thrown
theorem ym_R_thrown : x_Ymn Y_R_thrown := x_ymn_of mn_R_thrown
/- CashLinkModel.in(III)Z -/
abbrev c_R_in : ByteArray := prog_12_method_3_code
def y_R_in : MethodName := ⟨"CashLinkModel", "in", "(III)Z"⟩
theorem d_R_in_0 : decode c_R_in 0 = .ok (.iload_n 0, 1) := by decide +kernel
theorem d_R_in_1 : decode c_R_in 1 = .ok (.iload_n 1, 1) := by decide +kernel
theorem d_R_in_2 : decode c_R_in 2 = .ok (.if_icmp .lt 12, 3) := by decide +kernel
theorem d_R_in_5 : decode c_R_in 5 = .ok (.iload_n 0, 1) := by decide +kernel
theorem d_R_in_6 : decode c_R_in 6 = .ok (.iload_n 2, 1) := by decide +kernel
theorem d_R_in_7 : decode c_R_in 7 = .ok (.if_icmp .gt 7, 3) := by decide +kernel
theorem d_R_in_10 : decode c_R_in 10 = .ok (.iconst 1, 1) := by decide +kernel
theorem d_R_in_11 : decode c_R_in 11 = .ok (.goto 4, 3) := by decide +kernel
theorem d_R_in_14 : decode c_R_in 14 = .ok (.iconst 0, 1) := by decide +kernel
theorem d_R_in_15 : decode c_R_in 15 = .ok (.ireturn, 1) := by decide +kernel
def m_R_in : XM := ("CashLinkModel", c_R_in, 3, (some .boolean), "in", [], 0, 0)
def b_R_in : XB := [(0, X_iload 0 1),
  (1, X_iload 1 1),
  (2, X_icmp (fun x y => x < y) 14),
  (5, X_iload 0 1),
  (6, X_iload 2 1),
  (7, X_icmp (fun x y => y < x) 14),
  (10, X_push (xv_i 1) 1),
  (11, X_goto 15),
  (14, X_push (xv_i 0) 1),
  (15, X_zret)]
set_option maxRecDepth 100000 in
theorem k_R_in : x_bok m_R_in b_R_in := by
  unfold b_R_in
  refine x_bok.cons (xs_iload_n d_R_in_0 rfl) ?_
  refine x_bok.cons (xs_iload_n d_R_in_1 rfl) ?_
  refine x_bok.cons (xs_icmp_lt d_R_in_2 (by decide)) ?_
  refine x_bok.cons (xs_iload_n d_R_in_5 rfl) ?_
  refine x_bok.cons (xs_iload_n d_R_in_6 rfl) ?_
  refine x_bok.cons (xs_icmp_gt d_R_in_7 (by decide)) ?_
  refine x_bok.cons (xs_iconst d_R_in_10 (by decide)) ?_
  refine x_bok.cons (xs_goto d_R_in_11 (by decide)) ?_
  refine x_bok.cons (xs_iconst d_R_in_14 (by decide)) ?_
  refine x_bok.cons (xs_zret d_R_in_15 rfl) ?_
  exact x_bok.nil
set_option maxRecDepth 100000 in
theorem mn_R_in : x_bmn b_R_in := by
  unfold b_R_in
  refine x_bmn.cons (xm_iload) ?_
  refine x_bmn.cons (xm_iload) ?_
  refine x_bmn.cons (xm_icmp) ?_
  refine x_bmn.cons (xm_iload) ?_
  refine x_bmn.cons (xm_iload) ?_
  refine x_bmn.cons (xm_icmp) ?_
  refine x_bmn.cons (xm_push) ?_
  refine x_bmn.cons (xm_goto) ?_
  refine x_bmn.cons (xm_push) ?_
  refine x_bmn.cons (xm_zret) ?_
  exact x_bmn.nil
theorem is_R_in : x_Is y_R_in m_R_in := x_is_code q6_69
def Y_R_in : XMeth := x_do 3 b_R_in
theorem sn_R_in : x_Snd y_R_in m_R_in Y_R_in := x_snd_of (by decide) rfl rfl is_R_in k_R_in
theorem ym_R_in : x_Ymn Y_R_in := x_ymn_of mn_R_in
/- CashLinkModel.card(II)V -/
abbrev c_R_card : ByteArray := prog_12_method_25_code
def y_R_card : MethodName := ⟨"CashLinkModel", "card", "(II)V"⟩
theorem d_R_card_0 : decode c_R_card 0 = .ok (.aload_n 0, 1) := by decide +kernel
theorem d_R_card_1 : decode c_R_card 1 = .ok (.iload_n 1, 1) := by decide +kernel
theorem d_R_card_2 : decode c_R_card 2 = .ok (.iconst 0, 1) := by decide +kernel
theorem d_R_card_3 : decode c_R_card 3 = .ok (.iconst 3, 1) := by decide +kernel
theorem d_R_card_4 : decode c_R_card 4 = .ok (.invokestatic 175, 3) := by decide +kernel
theorem d_R_card_7 : decode c_R_card 7 = .ok (.ifCond .eq 14, 3) := by decide +kernel
theorem d_R_card_10 : decode c_R_card 10 = .ok (.iload_n 2, 1) := by decide +kernel
theorem d_R_card_11 : decode c_R_card 11 = .ok (.iconst 0, 1) := by decide +kernel
theorem d_R_card_12 : decode c_R_card 12 = .ok (.sipush 199, 3) := by decide +kernel
theorem d_R_card_15 : decode c_R_card 15 = .ok (.invokestatic 175, 3) := by decide +kernel
theorem d_R_card_18 : decode c_R_card 18 = .ok (.ifCond .ne 7, 3) := by decide +kernel
theorem d_R_card_21 : decode c_R_card 21 = .ok (.iconst 1, 1) := by decide +kernel
theorem d_R_card_22 : decode c_R_card 22 = .ok (.goto 18, 3) := by decide +kernel
theorem d_R_card_25 : decode c_R_card 25 = .ok (.aload_n 0, 1) := by decide +kernel
theorem d_R_card_26 : decode c_R_card 26 = .ok (.getfield 41, 3) := by decide +kernel
theorem d_R_card_29 : decode c_R_card 29 = .ok (.iload_n 1, 1) := by decide +kernel
theorem d_R_card_30 : decode c_R_card 30 = .ok (.iaload, 1) := by decide +kernel
theorem d_R_card_31 : decode c_R_card 31 = .ok (.iconst 1, 1) := by decide +kernel
theorem d_R_card_32 : decode c_R_card 32 = .ok (.if_icmp .eq 7, 3) := by decide +kernel
theorem d_R_card_35 : decode c_R_card 35 = .ok (.iconst 2, 1) := by decide +kernel
theorem d_R_card_36 : decode c_R_card 36 = .ok (.goto 4, 3) := by decide +kernel
theorem d_R_card_39 : decode c_R_card 39 = .ok (.iconst 0, 1) := by decide +kernel
theorem d_R_card_40 : decode c_R_card 40 = .ok (.putfield 96, 3) := by decide +kernel
theorem d_R_card_43 : decode c_R_card 43 = .ok (.aload_n 0, 1) := by decide +kernel
theorem d_R_card_44 : decode c_R_card 44 = .ok (.getfield 96, 3) := by decide +kernel
theorem d_R_card_47 : decode c_R_card 47 = .ok (.ifCond .le 4, 3) := by decide +kernel
theorem d_R_card_50 : decode c_R_card 50 = .ok (.return_, 1) := by decide +kernel
theorem d_R_card_51 : decode c_R_card 51 = .ok (.aload_n 0, 1) := by decide +kernel
theorem d_R_card_52 : decode c_R_card 52 = .ok (.getfield 41, 3) := by decide +kernel
theorem d_R_card_55 : decode c_R_card 55 = .ok (.iload_n 1, 1) := by decide +kernel
theorem d_R_card_56 : decode c_R_card 56 = .ok (.iconst 2, 1) := by decide +kernel
theorem d_R_card_57 : decode c_R_card 57 = .ok (.iastore, 1) := by decide +kernel
theorem d_R_card_58 : decode c_R_card 58 = .ok (.aload_n 0, 1) := by decide +kernel
theorem d_R_card_59 : decode c_R_card 59 = .ok (.getfield 44, 3) := by decide +kernel
theorem d_R_card_62 : decode c_R_card 62 = .ok (.iload_n 1, 1) := by decide +kernel
theorem d_R_card_63 : decode c_R_card 63 = .ok (.iload_n 2, 1) := by decide +kernel
theorem d_R_card_64 : decode c_R_card 64 = .ok (.iastore, 1) := by decide +kernel
theorem d_R_card_65 : decode c_R_card 65 = .ok (.aload_n 0, 1) := by decide +kernel
theorem d_R_card_66 : decode c_R_card 66 = .ok (.getfield 47, 3) := by decide +kernel
theorem d_R_card_69 : decode c_R_card 69 = .ok (.iload_n 1, 1) := by decide +kernel
theorem d_R_card_70 : decode c_R_card 70 = .ok (.iconst 0, 1) := by decide +kernel
theorem d_R_card_71 : decode c_R_card 71 = .ok (.iastore, 1) := by decide +kernel
theorem d_R_card_72 : decode c_R_card 72 = .ok (.return_, 1) := by decide +kernel
def m_R_card : XM := ("CashLinkModel", c_R_card, 3, none, "card", [], 1, 22)
def b_R_card : XB := [(0, X_aload 0 1),
  (1, X_iload 1 1),
  (2, X_push (xv_i 0) 1),
  (3, X_push (xv_i 3) 1),
  (4, X_invS Y_R_in 3 []),
  (7, X_if (fun x => x = 0) 21),
  (10, X_iload 2 1),
  (11, X_push (xv_i 0) 1),
  (12, X_push (xv_i 199) 3),
  (15, X_invS Y_R_in 3 []),
  (18, X_if (fun x => ¬ x = 0) 25),
  (21, X_push (xv_i 1) 1),
  (22, X_goto 40),
  (25, X_aload 0 1),
  (26, X_get 10 10),
  (29, X_iload 1 1),
  (30, X_ald 0),
  (31, X_push (xv_i 1) 1),
  (32, X_icmp (fun x y => x = y) 39),
  (35, X_push (xv_i 2) 1),
  (36, X_goto 40),
  (39, X_push (xv_i 0) 1),
  (40, X_put x_tI 10 26),
  (43, X_aload 0 1),
  (44, X_get 10 26),
  (47, X_if (fun x => x ≤ 0) 51),
  (50, X_vret),
  (51, X_aload 0 1),
  (52, X_get 10 10),
  (55, X_iload 1 1),
  (56, X_push (xv_i 2) 1),
  (57, X_ast 0 (fun x => x)),
  (58, X_aload 0 1),
  (59, X_get 10 11),
  (62, X_iload 1 1),
  (63, X_iload 2 1),
  (64, X_ast 0 (fun x => x)),
  (65, X_aload 0 1),
  (66, X_get 10 12),
  (69, X_iload 1 1),
  (70, X_push (xv_i 0) 1),
  (71, X_ast 0 (fun x => x)),
  (72, X_vret)]
set_option maxRecDepth 100000 in
theorem k_R_card : x_bok m_R_card b_R_card := by
  unfold b_R_card
  refine x_bok.cons (xs_aload_n d_R_card_0 rfl) ?_
  refine x_bok.cons (xs_iload_n d_R_card_1 rfl) ?_
  refine x_bok.cons (xs_iconst d_R_card_2 (by decide)) ?_
  refine x_bok.cons (xs_iconst d_R_card_3 (by decide)) ?_
  refine x_bok.cons (xs_invS d_R_card_4 sn_R_in is_R_in ⟨q6_67, q6_68, q1_12⟩ (by decide) (by decide) rfl) ?_
  refine x_bok.cons (xs_if_eq d_R_card_7 (by decide)) ?_
  refine x_bok.cons (xs_iload_n d_R_card_10 rfl) ?_
  refine x_bok.cons (xs_iconst d_R_card_11 (by decide)) ?_
  refine x_bok.cons (xs_sipush d_R_card_12 (by decide)) ?_
  refine x_bok.cons (xs_invS d_R_card_15 sn_R_in is_R_in ⟨q6_67, q6_68, q1_12⟩ (by decide) (by decide) rfl) ?_
  refine x_bok.cons (xs_if_ne d_R_card_18 (by decide)) ?_
  refine x_bok.cons (xs_iconst d_R_card_21 (by decide)) ?_
  refine x_bok.cons (xs_goto d_R_card_22 (by decide)) ?_
  refine x_bok.cons (xs_aload_n d_R_card_25 rfl) ?_
  refine x_bok.cons (xs_get d_R_card_26 xc10 xw10 (by decide) q5_215 (Or.inl rfl)) ?_
  refine x_bok.cons (xs_iload_n d_R_card_29 rfl) ?_
  refine x_bok.cons (xs_iald d_R_card_30 rfl) ?_
  refine x_bok.cons (xs_iconst d_R_card_31 (by decide)) ?_
  refine x_bok.cons (xs_icmp_eq d_R_card_32 (by decide)) ?_
  refine x_bok.cons (xs_iconst d_R_card_35 (by decide)) ?_
  refine x_bok.cons (xs_goto d_R_card_36 (by decide)) ?_
  refine x_bok.cons (xs_iconst d_R_card_39 (by decide)) ?_
  refine x_bok.cons (xs_put d_R_card_40 xc10 xw10 xt10 xn10 (by decide) q5_231 (Or.inl rfl) rfl rfl x_fitI) ?_
  refine x_bok.cons (xs_aload_n d_R_card_43 rfl) ?_
  refine x_bok.cons (xs_get d_R_card_44 xc10 xw10 (by decide) q5_231 (Or.inl rfl)) ?_
  refine x_bok.cons (xs_if_le d_R_card_47 (by decide)) ?_
  refine x_bok.cons (xs_vret d_R_card_50 rfl) ?_
  refine x_bok.cons (xs_aload_n d_R_card_51 rfl) ?_
  refine x_bok.cons (xs_get d_R_card_52 xc10 xw10 (by decide) q5_215 (Or.inl rfl)) ?_
  refine x_bok.cons (xs_iload_n d_R_card_55 rfl) ?_
  refine x_bok.cons (xs_iconst d_R_card_56 (by decide)) ?_
  refine x_bok.cons (xs_iast d_R_card_57 rfl) ?_
  refine x_bok.cons (xs_aload_n d_R_card_58 rfl) ?_
  refine x_bok.cons (xs_get d_R_card_59 xc10 xw10 (by decide) q5_216 (Or.inl rfl)) ?_
  refine x_bok.cons (xs_iload_n d_R_card_62 rfl) ?_
  refine x_bok.cons (xs_iload_n d_R_card_63 rfl) ?_
  refine x_bok.cons (xs_iast d_R_card_64 rfl) ?_
  refine x_bok.cons (xs_aload_n d_R_card_65 rfl) ?_
  refine x_bok.cons (xs_get d_R_card_66 xc10 xw10 (by decide) q5_217 (Or.inl rfl)) ?_
  refine x_bok.cons (xs_iload_n d_R_card_69 rfl) ?_
  refine x_bok.cons (xs_iconst d_R_card_70 (by decide)) ?_
  refine x_bok.cons (xs_iast d_R_card_71 rfl) ?_
  refine x_bok.cons (xs_vret d_R_card_72 rfl) ?_
  exact x_bok.nil
set_option maxRecDepth 100000 in
theorem mn_R_card : x_bmn b_R_card := by
  unfold b_R_card
  refine x_bmn.cons (xm_aload) ?_
  refine x_bmn.cons (xm_iload) ?_
  refine x_bmn.cons (xm_push) ?_
  refine x_bmn.cons (xm_push) ?_
  refine x_bmn.cons (xm_invS ym_R_in) ?_
  refine x_bmn.cons (xm_if) ?_
  refine x_bmn.cons (xm_iload) ?_
  refine x_bmn.cons (xm_push) ?_
  refine x_bmn.cons (xm_push) ?_
  refine x_bmn.cons (xm_invS ym_R_in) ?_
  refine x_bmn.cons (xm_if) ?_
  refine x_bmn.cons (xm_push) ?_
  refine x_bmn.cons (xm_goto) ?_
  refine x_bmn.cons (xm_aload) ?_
  refine x_bmn.cons (xm_get) ?_
  refine x_bmn.cons (xm_iload) ?_
  refine x_bmn.cons (xm_ald) ?_
  refine x_bmn.cons (xm_push) ?_
  refine x_bmn.cons (xm_icmp) ?_
  refine x_bmn.cons (xm_push) ?_
  refine x_bmn.cons (xm_goto) ?_
  refine x_bmn.cons (xm_push) ?_
  refine x_bmn.cons (xm_put) ?_
  refine x_bmn.cons (xm_aload) ?_
  refine x_bmn.cons (xm_get) ?_
  refine x_bmn.cons (xm_if) ?_
  refine x_bmn.cons (xm_vret) ?_
  refine x_bmn.cons (xm_aload) ?_
  refine x_bmn.cons (xm_get) ?_
  refine x_bmn.cons (xm_iload) ?_
  refine x_bmn.cons (xm_push) ?_
  refine x_bmn.cons (xm_ast) ?_
  refine x_bmn.cons (xm_aload) ?_
  refine x_bmn.cons (xm_get) ?_
  refine x_bmn.cons (xm_iload) ?_
  refine x_bmn.cons (xm_iload) ?_
  refine x_bmn.cons (xm_ast) ?_
  refine x_bmn.cons (xm_aload) ?_
  refine x_bmn.cons (xm_get) ?_
  refine x_bmn.cons (xm_iload) ?_
  refine x_bmn.cons (xm_push) ?_
  refine x_bmn.cons (xm_ast) ?_
  refine x_bmn.cons (xm_vret) ?_
  exact x_bmn.nil
theorem is_R_card : x_Is y_R_card m_R_card := x_is_code q6_66
def Y_R_card : XMeth := x_do 3 b_R_card
theorem sn_R_card : x_Snd y_R_card m_R_card Y_R_card := x_snd_of (by decide) rfl rfl is_R_card k_R_card
theorem ym_R_card : x_Ymn Y_R_card := x_ymn_of mn_R_card
