/- CashLinkModel.deliver(I)I -/
abbrev c_R_deliver : ByteArray := prog_12_method_31_code
def y_R_deliver : MethodName := ⟨"CashLinkModel", "deliver", "(I)I"⟩
theorem d_R_deliver_0 : decode c_R_deliver 0 = .ok (.aload_n 0, 1) := by decide +kernel
theorem d_R_deliver_1 : decode c_R_deliver 1 = .ok (.iload_n 1, 1) := by decide +kernel
theorem d_R_deliver_2 : decode c_R_deliver 2 = .ok (.iconst 0, 1) := by decide +kernel
theorem d_R_deliver_3 : decode c_R_deliver 3 = .ok (.aload_n 0, 1) := by decide +kernel
theorem d_R_deliver_4 : decode c_R_deliver 4 = .ok (.getfield 119, 3) := by decide +kernel
theorem d_R_deliver_7 : decode c_R_deliver 7 = .ok (.iconst 1, 1) := by decide +kernel
theorem d_R_deliver_8 : decode c_R_deliver 8 = .ok (.isub, 1) := by decide +kernel
theorem d_R_deliver_9 : decode c_R_deliver 9 = .ok (.invokestatic 175, 3) := by decide +kernel
theorem d_R_deliver_12 : decode c_R_deliver 12 = .ok (.ifCond .eq 7, 3) := by decide +kernel
theorem d_R_deliver_15 : decode c_R_deliver 15 = .ok (.iconst 0, 1) := by decide +kernel
theorem d_R_deliver_16 : decode c_R_deliver 16 = .ok (.goto 4, 3) := by decide +kernel
theorem d_R_deliver_19 : decode c_R_deliver 19 = .ok (.iconst 1, 1) := by decide +kernel
theorem d_R_deliver_20 : decode c_R_deliver 20 = .ok (.putfield 96, 3) := by decide +kernel
theorem d_R_deliver_23 : decode c_R_deliver 23 = .ok (.aload_n 0, 1) := by decide +kernel
theorem d_R_deliver_24 : decode c_R_deliver 24 = .ok (.getfield 96, 3) := by decide +kernel
theorem d_R_deliver_27 : decode c_R_deliver 27 = .ok (.ifCond .le 5, 3) := by decide +kernel
theorem d_R_deliver_30 : decode c_R_deliver 30 = .ok (.iconst 0, 1) := by decide +kernel
theorem d_R_deliver_31 : decode c_R_deliver 31 = .ok (.ireturn, 1) := by decide +kernel
theorem d_R_deliver_32 : decode c_R_deliver 32 = .ok (.aload_n 0, 1) := by decide +kernel
theorem d_R_deliver_33 : decode c_R_deliver 33 = .ok (.getfield 119, 3) := by decide +kernel
theorem d_R_deliver_36 : decode c_R_deliver 36 = .ok (.istore_n 2, 1) := by decide +kernel
theorem d_R_deliver_37 : decode c_R_deliver 37 = .ok (.aload_n 0, 1) := by decide +kernel
theorem d_R_deliver_38 : decode c_R_deliver 38 = .ok (.getfield 83, 3) := by decide +kernel
theorem d_R_deliver_41 : decode c_R_deliver 41 = .ok (.iload_n 1, 1) := by decide +kernel
theorem d_R_deliver_42 : decode c_R_deliver 42 = .ok (.iaload, 1) := by decide +kernel
theorem d_R_deliver_43 : decode c_R_deliver 43 = .ok (.istore_n 3, 1) := by decide +kernel
theorem d_R_deliver_44 : decode c_R_deliver 44 = .ok (.aload_n 0, 1) := by decide +kernel
theorem d_R_deliver_45 : decode c_R_deliver 45 = .ok (.getfield 68, 3) := by decide +kernel
theorem d_R_deliver_48 : decode c_R_deliver 48 = .ok (.iload_n 1, 1) := by decide +kernel
theorem d_R_deliver_49 : decode c_R_deliver 49 = .ok (.iaload, 1) := by decide +kernel
theorem d_R_deliver_50 : decode c_R_deliver 50 = .ok (.sipush 200, 3) := by decide +kernel
theorem d_R_deliver_53 : decode c_R_deliver 53 = .ok (.if_icmp .eq 27, 3) := by decide +kernel
theorem d_R_deliver_56 : decode c_R_deliver 56 = .ok (.aload_n 0, 1) := by decide +kernel
theorem d_R_deliver_57 : decode c_R_deliver 57 = .ok (.getfield 68, 3) := by decide +kernel
theorem d_R_deliver_60 : decode c_R_deliver 60 = .ok (.iload_n 1, 1) := by decide +kernel
theorem d_R_deliver_61 : decode c_R_deliver 61 = .ok (.iaload, 1) := by decide +kernel
theorem d_R_deliver_62 : decode c_R_deliver 62 = .ok (.sipush 420, 3) := by decide +kernel
theorem d_R_deliver_65 : decode c_R_deliver 65 = .ok (.if_icmp .eq 15, 3) := by decide +kernel
theorem d_R_deliver_68 : decode c_R_deliver 68 = .ok (.aload_n 0, 1) := by decide +kernel
theorem d_R_deliver_69 : decode c_R_deliver 69 = .ok (.getfield 68, 3) := by decide +kernel
theorem d_R_deliver_72 : decode c_R_deliver 72 = .ok (.iload_n 1, 1) := by decide +kernel
theorem d_R_deliver_73 : decode c_R_deliver 73 = .ok (.iaload, 1) := by decide +kernel
theorem d_R_deliver_74 : decode c_R_deliver 74 = .ok (.sipush 500, 3) := by decide +kernel
theorem d_R_deliver_77 : decode c_R_deliver 77 = .ok (.if_icmp .ne 7, 3) := by decide +kernel
theorem d_R_deliver_80 : decode c_R_deliver 80 = .ok (.iconst 1, 1) := by decide +kernel
theorem d_R_deliver_81 : decode c_R_deliver 81 = .ok (.goto 4, 3) := by decide +kernel
theorem d_R_deliver_84 : decode c_R_deliver 84 = .ok (.iconst 0, 1) := by decide +kernel
theorem d_R_deliver_85 : decode c_R_deliver 85 = .ok (.istore 4, 2) := by decide +kernel
theorem d_R_deliver_87 : decode c_R_deliver 87 = .ok (.iload 4, 2) := by decide +kernel
theorem d_R_deliver_89 : decode c_R_deliver 89 = .ok (.ifCond .eq 13, 3) := by decide +kernel
theorem d_R_deliver_92 : decode c_R_deliver 92 = .ok (.aload_n 0, 1) := by decide +kernel
theorem d_R_deliver_93 : decode c_R_deliver 93 = .ok (.getfield 37, 3) := by decide +kernel
theorem d_R_deliver_96 : decode c_R_deliver 96 = .ok (.ifCond .ne 17, 3) := by decide +kernel
theorem d_R_deliver_99 : decode c_R_deliver 99 = .ok (.goto 12, 3) := by decide +kernel
theorem d_R_deliver_102 : decode c_R_deliver 102 = .ok (.aload_n 0, 1) := by decide +kernel
theorem d_R_deliver_103 : decode c_R_deliver 103 = .ok (.getfield 41, 3) := by decide +kernel
theorem d_R_deliver_106 : decode c_R_deliver 106 = .ok (.iload_n 3, 1) := by decide +kernel
theorem d_R_deliver_107 : decode c_R_deliver 107 = .ok (.iaload, 1) := by decide +kernel
theorem d_R_deliver_108 : decode c_R_deliver 108 = .ok (.ifCond .ne 5, 3) := by decide +kernel
theorem d_R_deliver_111 : decode c_R_deliver 111 = .ok (.iconst 0, 1) := by decide +kernel
theorem d_R_deliver_112 : decode c_R_deliver 112 = .ok (.ireturn, 1) := by decide +kernel
theorem d_R_deliver_113 : decode c_R_deliver 113 = .ok (.iload 4, 2) := by decide +kernel
theorem d_R_deliver_115 : decode c_R_deliver 115 = .ok (.ifCond .eq 11, 3) := by decide +kernel
theorem d_R_deliver_118 : decode c_R_deliver 118 = .ok (.aload_n 0, 1) := by decide +kernel
theorem d_R_deliver_119 : decode c_R_deliver 119 = .ok (.iload_n 1, 1) := by decide +kernel
theorem d_R_deliver_120 : decode c_R_deliver 120 = .ok (.invokevirtual 181, 3) := by decide +kernel
theorem d_R_deliver_123 : decode c_R_deliver 123 = .ok (.goto 82, 3) := by decide +kernel
theorem d_R_deliver_126 : decode c_R_deliver 126 = .ok (.aload_n 0, 1) := by decide +kernel
theorem d_R_deliver_127 : decode c_R_deliver 127 = .ok (.getfield 68, 3) := by decide +kernel
theorem d_R_deliver_130 : decode c_R_deliver 130 = .ok (.iload_n 1, 1) := by decide +kernel
theorem d_R_deliver_131 : decode c_R_deliver 131 = .ok (.iaload, 1) := by decide +kernel
theorem d_R_deliver_132 : decode c_R_deliver 132 = .ok (.sipush 210, 3) := by decide +kernel
theorem d_R_deliver_135 : decode c_R_deliver 135 = .ok (.if_icmp .ne 12, 3) := by decide +kernel
theorem d_R_deliver_138 : decode c_R_deliver 138 = .ok (.aload_n 0, 1) := by decide +kernel
theorem d_R_deliver_139 : decode c_R_deliver 139 = .ok (.iload_n 3, 1) := by decide +kernel
theorem d_R_deliver_140 : decode c_R_deliver 140 = .ok (.iload_n 1, 1) := by decide +kernel
theorem d_R_deliver_141 : decode c_R_deliver 141 = .ok (.invokevirtual 184, 3) := by decide +kernel
theorem d_R_deliver_144 : decode c_R_deliver 144 = .ok (.goto 61, 3) := by decide +kernel
theorem d_R_deliver_147 : decode c_R_deliver 147 = .ok (.aload_n 0, 1) := by decide +kernel
theorem d_R_deliver_148 : decode c_R_deliver 148 = .ok (.getfield 68, 3) := by decide +kernel
theorem d_R_deliver_151 : decode c_R_deliver 151 = .ok (.iload_n 1, 1) := by decide +kernel
theorem d_R_deliver_152 : decode c_R_deliver 152 = .ok (.iaload, 1) := by decide +kernel
theorem d_R_deliver_153 : decode c_R_deliver 153 = .ok (.sipush 430, 3) := by decide +kernel
theorem d_R_deliver_156 : decode c_R_deliver 156 = .ok (.if_icmp .ne 49, 3) := by decide +kernel
theorem d_R_deliver_159 : decode c_R_deliver 159 = .ok (.aload_n 0, 1) := by decide +kernel
theorem d_R_deliver_160 : decode c_R_deliver 160 = .ok (.iload_n 3, 1) := by decide +kernel
theorem d_R_deliver_161 : decode c_R_deliver 161 = .ok (.iconst 4, 1) := by decide +kernel
theorem d_R_deliver_162 : decode c_R_deliver 162 = .ok (.aload_n 0, 1) := by decide +kernel
theorem d_R_deliver_163 : decode c_R_deliver 163 = .ok (.getfield 77, 3) := by decide +kernel
theorem d_R_deliver_166 : decode c_R_deliver 166 = .ok (.iload_n 1, 1) := by decide +kernel
theorem d_R_deliver_167 : decode c_R_deliver 167 = .ok (.iaload, 1) := by decide +kernel
theorem d_R_deliver_168 : decode c_R_deliver 168 = .ok (.invokevirtual 111, 3) := by decide +kernel
theorem d_R_deliver_171 : decode c_R_deliver 171 = .ok (.ifCond .eq 34, 3) := by decide +kernel
theorem d_R_deliver_174 : decode c_R_deliver 174 = .ok (.aload_n 0, 1) := by decide +kernel
theorem d_R_deliver_175 : decode c_R_deliver 175 = .ok (.iload_n 3, 1) := by decide +kernel
theorem d_R_deliver_176 : decode c_R_deliver 176 = .ok (.iconst 5, 1) := by decide +kernel
theorem d_R_deliver_177 : decode c_R_deliver 177 = .ok (.aload_n 0, 1) := by decide +kernel
theorem d_R_deliver_178 : decode c_R_deliver 178 = .ok (.getfield 77, 3) := by decide +kernel
theorem d_R_deliver_181 : decode c_R_deliver 181 = .ok (.iload_n 1, 1) := by decide +kernel
theorem d_R_deliver_182 : decode c_R_deliver 182 = .ok (.iaload, 1) := by decide +kernel
theorem d_R_deliver_183 : decode c_R_deliver 183 = .ok (.invokevirtual 111, 3) := by decide +kernel
theorem d_R_deliver_186 : decode c_R_deliver 186 = .ok (.ifCond .ne 19, 3) := by decide +kernel
theorem d_R_deliver_189 : decode c_R_deliver 189 = .ok (.aload_n 0, 1) := by decide +kernel
theorem d_R_deliver_190 : decode c_R_deliver 190 = .ok (.iload_n 3, 1) := by decide +kernel
theorem d_R_deliver_191 : decode c_R_deliver 191 = .ok (.iconst 5, 1) := by decide +kernel
theorem d_R_deliver_192 : decode c_R_deliver 192 = .ok (.iload_n 3, 1) := by decide +kernel
theorem d_R_deliver_193 : decode c_R_deliver 193 = .ok (.aload_n 0, 1) := by decide +kernel
theorem d_R_deliver_194 : decode c_R_deliver 194 = .ok (.getfield 77, 3) := by decide +kernel
theorem d_R_deliver_197 : decode c_R_deliver 197 = .ok (.iload_n 1, 1) := by decide +kernel
theorem d_R_deliver_198 : decode c_R_deliver 198 = .ok (.iaload, 1) := by decide +kernel
theorem d_R_deliver_199 : decode c_R_deliver 199 = .ok (.iconst 0, 1) := by decide +kernel
theorem d_R_deliver_200 : decode c_R_deliver 200 = .ok (.iconst 0, 1) := by decide +kernel
theorem d_R_deliver_201 : decode c_R_deliver 201 = .ok (.iconst 0, 1) := by decide +kernel
theorem d_R_deliver_202 : decode c_R_deliver 202 = .ok (.invokevirtual 138, 3) := by decide +kernel
theorem d_R_deliver_205 : decode c_R_deliver 205 = .ok (.goto 12, 3) := by decide +kernel
theorem d_R_deliver_208 : decode c_R_deliver 208 = .ok (.astore 5, 2) := by decide +kernel
theorem d_R_deliver_210 : decode c_R_deliver 210 = .ok (.aload_n 0, 1) := by decide +kernel
theorem d_R_deliver_211 : decode c_R_deliver 211 = .ok (.iconst 2, 1) := by decide +kernel
theorem d_R_deliver_212 : decode c_R_deliver 212 = .ok (.putfield 96, 3) := by decide +kernel
theorem d_R_deliver_215 : decode c_R_deliver 215 = .ok (.iconst 0, 1) := by decide +kernel
theorem d_R_deliver_216 : decode c_R_deliver 216 = .ok (.ireturn, 1) := by decide +kernel
theorem d_R_deliver_217 : decode c_R_deliver 217 = .ok (.aload_n 0, 1) := by decide +kernel
theorem d_R_deliver_218 : decode c_R_deliver 218 = .ok (.getfield 119, 3) := by decide +kernel
theorem d_R_deliver_221 : decode c_R_deliver 221 = .ok (.iload_n 2, 1) := by decide +kernel
theorem d_R_deliver_222 : decode c_R_deliver 222 = .ok (.isub, 1) := by decide +kernel
theorem d_R_deliver_223 : decode c_R_deliver 223 = .ok (.ireturn, 1) := by decide +kernel
def m_R_deliver : XM := ("CashLinkModel", c_R_deliver, 6, (some .int), "deliver", [(113, 205, 208, 104)], 10, 190)
theorem h_R_deliver_120 : x_hok m_R_deliver 120 [(14, 208)] := by
  intro ci h hc
  by_cases e0 : ci = 14
  · subst e0
    have hh : h = 208 := (Option.some.inj (hc.symm.trans (by rfl : x_catch [(14, 208)] 14 = some 208)))
    subst hh
    refine ⟨"java/lang/ArithmeticException", xT14, 0, [], ⟨113, 205, 208, 104⟩, [], rfl, rfl, rfl, rfl, by decide, q6_78, ?_⟩
    intro z hz
    cases hz
  exfalso
  simp only [x_catch] at hc
  rw [if_neg (fun q => e0 q.symm)] at hc
  cases hc
theorem h_R_deliver_141 : x_hok m_R_deliver 141 [(14, 208)] := by
  intro ci h hc
  by_cases e0 : ci = 14
  · subst e0
    have hh : h = 208 := (Option.some.inj (hc.symm.trans (by rfl : x_catch [(14, 208)] 14 = some 208)))
    subst hh
    refine ⟨"java/lang/ArithmeticException", xT14, 0, [], ⟨113, 205, 208, 104⟩, [], rfl, rfl, rfl, rfl, by decide, q6_78, ?_⟩
    intro z hz
    cases hz
  exfalso
  simp only [x_catch] at hc
  rw [if_neg (fun q => e0 q.symm)] at hc
  cases hc
theorem h_R_deliver_168 : x_hok m_R_deliver 168 [(14, 208)] := by
  intro ci h hc
  by_cases e0 : ci = 14
  · subst e0
    have hh : h = 208 := (Option.some.inj (hc.symm.trans (by rfl : x_catch [(14, 208)] 14 = some 208)))
    subst hh
    refine ⟨"java/lang/ArithmeticException", xT14, 0, [], ⟨113, 205, 208, 104⟩, [], rfl, rfl, rfl, rfl, by decide, q6_78, ?_⟩
    intro z hz
    cases hz
  exfalso
  simp only [x_catch] at hc
  rw [if_neg (fun q => e0 q.symm)] at hc
  cases hc
theorem h_R_deliver_183 : x_hok m_R_deliver 183 [(14, 208)] := by
  intro ci h hc
  by_cases e0 : ci = 14
  · subst e0
    have hh : h = 208 := (Option.some.inj (hc.symm.trans (by rfl : x_catch [(14, 208)] 14 = some 208)))
    subst hh
    refine ⟨"java/lang/ArithmeticException", xT14, 0, [], ⟨113, 205, 208, 104⟩, [], rfl, rfl, rfl, rfl, by decide, q6_78, ?_⟩
    intro z hz
    cases hz
  exfalso
  simp only [x_catch] at hc
  rw [if_neg (fun q => e0 q.symm)] at hc
  cases hc
theorem h_R_deliver_202 : x_hok m_R_deliver 202 [(14, 208)] := by
  intro ci h hc
  by_cases e0 : ci = 14
  · subst e0
    have hh : h = 208 := (Option.some.inj (hc.symm.trans (by rfl : x_catch [(14, 208)] 14 = some 208)))
    subst hh
    refine ⟨"java/lang/ArithmeticException", xT14, 0, [], ⟨113, 205, 208, 104⟩, [], rfl, rfl, rfl, rfl, by decide, q6_78, ?_⟩
    intro z hz
    cases hz
  exfalso
  simp only [x_catch] at hc
  rw [if_neg (fun q => e0 q.symm)] at hc
  cases hc
def b_R_deliver : XB := [(0, X_aload 0 1),
  (1, X_iload 1 1),
  (2, X_push (xv_i 0) 1),
  (3, X_aload 0 1),
  (4, X_get 10 25),
  (7, X_push (xv_i 1) 1),
  (8, X_bin (fun x y => x - y)),
  (9, X_invS Y_R_in 3 []),
  (12, X_if (fun x => x = 0) 19),
  (15, X_push (xv_i 0) 1),
  (16, X_goto 20),
  (19, X_push (xv_i 1) 1),
  (20, X_put x_tI 10 26),
  (23, X_aload 0 1),
  (24, X_get 10 26),
  (27, X_if (fun x => x ≤ 0) 32),
  (30, X_push (xv_i 0) 1),
  (31, X_iret),
  (32, X_aload 0 1),
  (33, X_get 10 25),
  (36, X_istore 2 1),
  (37, X_aload 0 1),
  (38, X_get 10 24),
  (41, X_iload 1 1),
  (42, X_ald 0),
  (43, X_istore 3 1),
  (44, X_aload 0 1),
  (45, X_get 10 19),
  (48, X_iload 1 1),
  (49, X_ald 0),
  (50, X_push (xv_i 200) 3),
  (53, X_icmp (fun x y => x = y) 80),
  (56, X_aload 0 1),
  (57, X_get 10 19),
  (60, X_iload 1 1),
  (61, X_ald 0),
  (62, X_push (xv_i 420) 3),
  (65, X_icmp (fun x y => x = y) 80),
  (68, X_aload 0 1),
  (69, X_get 10 19),
  (72, X_iload 1 1),
  (73, X_ald 0),
  (74, X_push (xv_i 500) 3),
  (77, X_icmp (fun x y => ¬ x = y) 84),
  (80, X_push (xv_i 1) 1),
  (81, X_goto 85),
  (84, X_push (xv_i 0) 1),
  (85, X_istore 4 2),
  (87, X_iload 4 2),
  (89, X_if (fun x => x = 0) 102),
  (92, X_aload 0 1),
  (93, X_get 10 9),
  (96, X_if (fun x => ¬ x = 0) 113),
  (99, X_goto 111),
  (102, X_aload 0 1),
  (103, X_get 10 10),
  (106, X_iload 3 1),
  (107, X_ald 0),
  (108, X_if (fun x => ¬ x = 0) 113),
  (111, X_push (xv_i 0) 1),
  (112, X_iret),
  (113, X_iload 4 2),
  (115, X_if (fun x => x = 0) 126),
  (118, X_aload 0 1),
  (119, X_iload 1 1),
  (120, X_invV 10 Y_R_bank 1 [(14, 208)]),
  (123, X_goto 205),
  (126, X_aload 0 1),
  (127, X_get 10 19),
  (130, X_iload 1 1),
  (131, X_ald 0),
  (132, X_push (xv_i 210) 3),
  (135, X_icmp (fun x y => ¬ x = y) 147),
  (138, X_aload 0 1),
  (139, X_iload 3 1),
  (140, X_iload 1 1),
  (141, X_invV 10 Y_R_answered 2 [(14, 208)]),
  (144, X_goto 205),
  (147, X_aload 0 1),
  (148, X_get 10 19),
  (151, X_iload 1 1),
  (152, X_ald 0),
  (153, X_push (xv_i 430) 3),
  (156, X_icmp (fun x y => ¬ x = y) 205),
  (159, X_aload 0 1),
  (160, X_iload 3 1),
  (161, X_push (xv_i 4) 1),
  (162, X_aload 0 1),
  (163, X_get 10 22),
  (166, X_iload 1 1),
  (167, X_ald 0),
  (168, X_invV 10 Y_R_has 3 [(14, 208)]),
  (171, X_if (fun x => x = 0) 205),
  (174, X_aload 0 1),
  (175, X_iload 3 1),
  (176, X_push (xv_i 5) 1),
  (177, X_aload 0 1),
  (178, X_get 10 22),
  (181, X_iload 1 1),
  (182, X_ald 0),
  (183, X_invV 10 Y_R_has 3 [(14, 208)]),
  (186, X_if (fun x => ¬ x = 0) 205),
  (189, X_aload 0 1),
  (190, X_iload 3 1),
  (191, X_push (xv_i 5) 1),
  (192, X_iload 3 1),
  (193, X_aload 0 1),
  (194, X_get 10 22),
  (197, X_iload 1 1),
  (198, X_ald 0),
  (199, X_push (xv_i 0) 1),
  (200, X_push (xv_i 0) 1),
  (201, X_push (xv_i 0) 1),
  (202, X_invV 10 Y_R_record 7 [(14, 208)]),
  (205, X_goto 217),
  (208, X_astore 5 2),
  (210, X_aload 0 1),
  (211, X_push (xv_i 2) 1),
  (212, X_put x_tI 10 26),
  (215, X_push (xv_i 0) 1),
  (216, X_iret),
  (217, X_aload 0 1),
  (218, X_get 10 25),
  (221, X_iload 2 1),
  (222, X_bin (fun x y => x - y)),
  (223, X_iret)]
set_option maxRecDepth 100000 in
theorem k_R_deliver : x_bok m_R_deliver b_R_deliver := by
  unfold b_R_deliver
  refine x_bok.cons (xs_aload_n d_R_deliver_0 rfl) ?_
  refine x_bok.cons (xs_iload_n d_R_deliver_1 rfl) ?_
  refine x_bok.cons (xs_iconst d_R_deliver_2 (by decide)) ?_
  refine x_bok.cons (xs_aload_n d_R_deliver_3 rfl) ?_
  refine x_bok.cons (xs_get d_R_deliver_4 xc10 xw10 (by decide) q5_230 (Or.inl rfl)) ?_
  refine x_bok.cons (xs_iconst d_R_deliver_7 (by decide)) ?_
  refine x_bok.cons (xs_isub d_R_deliver_8) ?_
  refine x_bok.cons (xs_invS d_R_deliver_9 sn_R_in is_R_in ⟨q6_67, q6_68, q1_12⟩ (by decide) (by decide) rfl) ?_
  refine x_bok.cons (xs_if_eq d_R_deliver_12 (by decide)) ?_
  refine x_bok.cons (xs_iconst d_R_deliver_15 (by decide)) ?_
  refine x_bok.cons (xs_goto d_R_deliver_16 (by decide)) ?_
  refine x_bok.cons (xs_iconst d_R_deliver_19 (by decide)) ?_
  refine x_bok.cons (xs_put d_R_deliver_20 xc10 xw10 xt10 xn10 (by decide) q5_231 (Or.inl rfl) rfl rfl x_fitI) ?_
  refine x_bok.cons (xs_aload_n d_R_deliver_23 rfl) ?_
  refine x_bok.cons (xs_get d_R_deliver_24 xc10 xw10 (by decide) q5_231 (Or.inl rfl)) ?_
  refine x_bok.cons (xs_if_le d_R_deliver_27 (by decide)) ?_
  refine x_bok.cons (xs_iconst d_R_deliver_30 (by decide)) ?_
  refine x_bok.cons (xs_iret d_R_deliver_31 rfl) ?_
  refine x_bok.cons (xs_aload_n d_R_deliver_32 rfl) ?_
  refine x_bok.cons (xs_get d_R_deliver_33 xc10 xw10 (by decide) q5_230 (Or.inl rfl)) ?_
  refine x_bok.cons (xs_istore_n d_R_deliver_36 rfl (by decide)) ?_
  refine x_bok.cons (xs_aload_n d_R_deliver_37 rfl) ?_
  refine x_bok.cons (xs_get d_R_deliver_38 xc10 xw10 (by decide) q5_229 (Or.inl rfl)) ?_
  refine x_bok.cons (xs_iload_n d_R_deliver_41 rfl) ?_
  refine x_bok.cons (xs_iald d_R_deliver_42 rfl) ?_
  refine x_bok.cons (xs_istore_n d_R_deliver_43 rfl (by decide)) ?_
  refine x_bok.cons (xs_aload_n d_R_deliver_44 rfl) ?_
  refine x_bok.cons (xs_get d_R_deliver_45 xc10 xw10 (by decide) q5_224 (Or.inl rfl)) ?_
  refine x_bok.cons (xs_iload_n d_R_deliver_48 rfl) ?_
  refine x_bok.cons (xs_iald d_R_deliver_49 rfl) ?_
  refine x_bok.cons (xs_sipush d_R_deliver_50 (by decide)) ?_
  refine x_bok.cons (xs_icmp_eq d_R_deliver_53 (by decide)) ?_
  refine x_bok.cons (xs_aload_n d_R_deliver_56 rfl) ?_
  refine x_bok.cons (xs_get d_R_deliver_57 xc10 xw10 (by decide) q5_224 (Or.inl rfl)) ?_
  refine x_bok.cons (xs_iload_n d_R_deliver_60 rfl) ?_
  refine x_bok.cons (xs_iald d_R_deliver_61 rfl) ?_
  refine x_bok.cons (xs_sipush d_R_deliver_62 (by decide)) ?_
  refine x_bok.cons (xs_icmp_eq d_R_deliver_65 (by decide)) ?_
  refine x_bok.cons (xs_aload_n d_R_deliver_68 rfl) ?_
  refine x_bok.cons (xs_get d_R_deliver_69 xc10 xw10 (by decide) q5_224 (Or.inl rfl)) ?_
  refine x_bok.cons (xs_iload_n d_R_deliver_72 rfl) ?_
  refine x_bok.cons (xs_iald d_R_deliver_73 rfl) ?_
  refine x_bok.cons (xs_sipush d_R_deliver_74 (by decide)) ?_
  refine x_bok.cons (xs_icmp_ne d_R_deliver_77 (by decide)) ?_
  refine x_bok.cons (xs_iconst d_R_deliver_80 (by decide)) ?_
  refine x_bok.cons (xs_goto d_R_deliver_81 (by decide)) ?_
  refine x_bok.cons (xs_iconst d_R_deliver_84 (by decide)) ?_
  refine x_bok.cons (xs_istore d_R_deliver_85 (by decide)) ?_
  refine x_bok.cons (xs_iload d_R_deliver_87) ?_
  refine x_bok.cons (xs_if_eq d_R_deliver_89 (by decide)) ?_
  refine x_bok.cons (xs_aload_n d_R_deliver_92 rfl) ?_
  refine x_bok.cons (xs_get d_R_deliver_93 xc10 xw10 (by decide) q5_214 (Or.inl rfl)) ?_
  refine x_bok.cons (xs_if_ne d_R_deliver_96 (by decide)) ?_
  refine x_bok.cons (xs_goto d_R_deliver_99 (by decide)) ?_
  refine x_bok.cons (xs_aload_n d_R_deliver_102 rfl) ?_
  refine x_bok.cons (xs_get d_R_deliver_103 xc10 xw10 (by decide) q5_215 (Or.inl rfl)) ?_
  refine x_bok.cons (xs_iload_n d_R_deliver_106 rfl) ?_
  refine x_bok.cons (xs_iald d_R_deliver_107 rfl) ?_
  refine x_bok.cons (xs_if_ne d_R_deliver_108 (by decide)) ?_
  refine x_bok.cons (xs_iconst d_R_deliver_111 (by decide)) ?_
  refine x_bok.cons (xs_iret d_R_deliver_112 rfl) ?_
  refine x_bok.cons (xs_iload d_R_deliver_113) ?_
  refine x_bok.cons (xs_if_eq d_R_deliver_115 (by decide)) ?_
  refine x_bok.cons (xs_aload_n d_R_deliver_118 rfl) ?_
  refine x_bok.cons (xs_iload_n d_R_deliver_119 rfl) ?_
  refine x_bok.cons (xs_invV d_R_deliver_120 xc10 sn_R_bank is_R_bank ⟨q6_153, q6_155, (x_sel (x_p3 (List.mem_of_getElem? (i := 8) rfl))), q1_12⟩ (by decide) (by decide) h_R_deliver_120) ?_
  refine x_bok.cons (xs_goto d_R_deliver_123 (by decide)) ?_
  refine x_bok.cons (xs_aload_n d_R_deliver_126 rfl) ?_
  refine x_bok.cons (xs_get d_R_deliver_127 xc10 xw10 (by decide) q5_224 (Or.inl rfl)) ?_
  refine x_bok.cons (xs_iload_n d_R_deliver_130 rfl) ?_
  refine x_bok.cons (xs_iald d_R_deliver_131 rfl) ?_
  refine x_bok.cons (xs_sipush d_R_deliver_132 (by decide)) ?_
  refine x_bok.cons (xs_icmp_ne d_R_deliver_135 (by decide)) ?_
  refine x_bok.cons (xs_aload_n d_R_deliver_138 rfl) ?_
  refine x_bok.cons (xs_iload_n d_R_deliver_139 rfl) ?_
  refine x_bok.cons (xs_iload_n d_R_deliver_140 rfl) ?_
  refine x_bok.cons (xs_invV d_R_deliver_141 xc10 sn_R_answered is_R_answered ⟨q6_161, q6_163, (x_sel (x_p3 (List.mem_of_getElem? (i := 10) rfl))), q1_12⟩ (by decide) (by decide) h_R_deliver_141) ?_
  refine x_bok.cons (xs_goto d_R_deliver_144 (by decide)) ?_
  refine x_bok.cons (xs_aload_n d_R_deliver_147 rfl) ?_
  refine x_bok.cons (xs_get d_R_deliver_148 xc10 xw10 (by decide) q5_224 (Or.inl rfl)) ?_
  refine x_bok.cons (xs_iload_n d_R_deliver_151 rfl) ?_
  refine x_bok.cons (xs_iald d_R_deliver_152 rfl) ?_
  refine x_bok.cons (xs_sipush d_R_deliver_153 (by decide)) ?_
  refine x_bok.cons (xs_icmp_ne d_R_deliver_156 (by decide)) ?_
  refine x_bok.cons (xs_aload_n d_R_deliver_159 rfl) ?_
  refine x_bok.cons (xs_iload_n d_R_deliver_160 rfl) ?_
  refine x_bok.cons (xs_iconst d_R_deliver_161 (by decide)) ?_
  refine x_bok.cons (xs_aload_n d_R_deliver_162 rfl) ?_
  refine x_bok.cons (xs_get d_R_deliver_163 xc10 xw10 (by decide) q5_227 (Or.inl rfl)) ?_
  refine x_bok.cons (xs_iload_n d_R_deliver_166 rfl) ?_
  refine x_bok.cons (xs_iald d_R_deliver_167 rfl) ?_
  refine x_bok.cons (xs_invV d_R_deliver_168 xc10 sn_R_has is_R_has ⟨q6_95, q6_97, (x_sel (x_p3 (List.mem_of_getElem? (i := 0) rfl))), q1_12⟩ (by decide) (by decide) h_R_deliver_168) ?_
  refine x_bok.cons (xs_if_eq d_R_deliver_171 (by decide)) ?_
  refine x_bok.cons (xs_aload_n d_R_deliver_174 rfl) ?_
  refine x_bok.cons (xs_iload_n d_R_deliver_175 rfl) ?_
  refine x_bok.cons (xs_iconst d_R_deliver_176 (by decide)) ?_
  refine x_bok.cons (xs_aload_n d_R_deliver_177 rfl) ?_
  refine x_bok.cons (xs_get d_R_deliver_178 xc10 xw10 (by decide) q5_227 (Or.inl rfl)) ?_
  refine x_bok.cons (xs_iload_n d_R_deliver_181 rfl) ?_
  refine x_bok.cons (xs_iald d_R_deliver_182 rfl) ?_
  refine x_bok.cons (xs_invV d_R_deliver_183 xc10 sn_R_has is_R_has ⟨q6_95, q6_97, (x_sel (x_p3 (List.mem_of_getElem? (i := 0) rfl))), q1_12⟩ (by decide) (by decide) h_R_deliver_183) ?_
  refine x_bok.cons (xs_if_ne d_R_deliver_186 (by decide)) ?_
  refine x_bok.cons (xs_aload_n d_R_deliver_189 rfl) ?_
  refine x_bok.cons (xs_iload_n d_R_deliver_190 rfl) ?_
  refine x_bok.cons (xs_iconst d_R_deliver_191 (by decide)) ?_
  refine x_bok.cons (xs_iload_n d_R_deliver_192 rfl) ?_
  refine x_bok.cons (xs_aload_n d_R_deliver_193 rfl) ?_
  refine x_bok.cons (xs_get d_R_deliver_194 xc10 xw10 (by decide) q5_227 (Or.inl rfl)) ?_
  refine x_bok.cons (xs_iload_n d_R_deliver_197 rfl) ?_
  refine x_bok.cons (xs_iald d_R_deliver_198 rfl) ?_
  refine x_bok.cons (xs_iconst d_R_deliver_199 (by decide)) ?_
  refine x_bok.cons (xs_iconst d_R_deliver_200 (by decide)) ?_
  refine x_bok.cons (xs_iconst d_R_deliver_201 (by decide)) ?_
  refine x_bok.cons (xs_invV d_R_deliver_202 xc10 sn_R_record is_R_record ⟨q6_107, q6_109, (x_sel (x_p3 (List.mem_of_getElem? (i := 3) rfl))), q1_12⟩ (by decide) (by decide) h_R_deliver_202) ?_
  refine x_bok.cons (xs_goto d_R_deliver_205 (by decide)) ?_
  refine x_bok.cons (xs_astore d_R_deliver_208 (by decide)) ?_
  refine x_bok.cons (xs_aload_n d_R_deliver_210 rfl) ?_
  refine x_bok.cons (xs_iconst d_R_deliver_211 (by decide)) ?_
  refine x_bok.cons (xs_put d_R_deliver_212 xc10 xw10 xt10 xn10 (by decide) q5_231 (Or.inl rfl) rfl rfl x_fitI) ?_
  refine x_bok.cons (xs_iconst d_R_deliver_215 (by decide)) ?_
  refine x_bok.cons (xs_iret d_R_deliver_216 rfl) ?_
  refine x_bok.cons (xs_aload_n d_R_deliver_217 rfl) ?_
  refine x_bok.cons (xs_get d_R_deliver_218 xc10 xw10 (by decide) q5_230 (Or.inl rfl)) ?_
  refine x_bok.cons (xs_iload_n d_R_deliver_221 rfl) ?_
  refine x_bok.cons (xs_isub d_R_deliver_222) ?_
  refine x_bok.cons (xs_iret d_R_deliver_223 rfl) ?_
  exact x_bok.nil
set_option maxRecDepth 100000 in
theorem mn_R_deliver : x_bmn b_R_deliver := by
  unfold b_R_deliver
  refine x_bmn.cons (xm_aload) ?_
  refine x_bmn.cons (xm_iload) ?_
  refine x_bmn.cons (xm_push) ?_
  refine x_bmn.cons (xm_aload) ?_
  refine x_bmn.cons (xm_get) ?_
  refine x_bmn.cons (xm_push) ?_
  refine x_bmn.cons (xm_bin) ?_
  refine x_bmn.cons (xm_invS ym_R_in) ?_
  refine x_bmn.cons (xm_if) ?_
  refine x_bmn.cons (xm_push) ?_
  refine x_bmn.cons (xm_goto) ?_
  refine x_bmn.cons (xm_push) ?_
  refine x_bmn.cons (xm_put) ?_
  refine x_bmn.cons (xm_aload) ?_
  refine x_bmn.cons (xm_get) ?_
  refine x_bmn.cons (xm_if) ?_
  refine x_bmn.cons (xm_push) ?_
  refine x_bmn.cons (xm_iret) ?_
  refine x_bmn.cons (xm_aload) ?_
  refine x_bmn.cons (xm_get) ?_
  refine x_bmn.cons (xm_istore) ?_
  refine x_bmn.cons (xm_aload) ?_
  refine x_bmn.cons (xm_get) ?_
  refine x_bmn.cons (xm_iload) ?_
  refine x_bmn.cons (xm_ald) ?_
  refine x_bmn.cons (xm_istore) ?_
  refine x_bmn.cons (xm_aload) ?_
  refine x_bmn.cons (xm_get) ?_
  refine x_bmn.cons (xm_iload) ?_
  refine x_bmn.cons (xm_ald) ?_
  refine x_bmn.cons (xm_push) ?_
  refine x_bmn.cons (xm_icmp) ?_
  refine x_bmn.cons (xm_aload) ?_
  refine x_bmn.cons (xm_get) ?_
  refine x_bmn.cons (xm_iload) ?_
  refine x_bmn.cons (xm_ald) ?_
  refine x_bmn.cons (xm_push) ?_
  refine x_bmn.cons (xm_icmp) ?_
  refine x_bmn.cons (xm_aload) ?_
  refine x_bmn.cons (xm_get) ?_
  refine x_bmn.cons (xm_iload) ?_
  refine x_bmn.cons (xm_ald) ?_
  refine x_bmn.cons (xm_push) ?_
  refine x_bmn.cons (xm_icmp) ?_
  refine x_bmn.cons (xm_push) ?_
  refine x_bmn.cons (xm_goto) ?_
  refine x_bmn.cons (xm_push) ?_
  refine x_bmn.cons (xm_istore) ?_
  refine x_bmn.cons (xm_iload) ?_
  refine x_bmn.cons (xm_if) ?_
  refine x_bmn.cons (xm_aload) ?_
  refine x_bmn.cons (xm_get) ?_
  refine x_bmn.cons (xm_if) ?_
  refine x_bmn.cons (xm_goto) ?_
  refine x_bmn.cons (xm_aload) ?_
  refine x_bmn.cons (xm_get) ?_
  refine x_bmn.cons (xm_iload) ?_
  refine x_bmn.cons (xm_ald) ?_
  refine x_bmn.cons (xm_if) ?_
  refine x_bmn.cons (xm_push) ?_
  refine x_bmn.cons (xm_iret) ?_
  refine x_bmn.cons (xm_iload) ?_
  refine x_bmn.cons (xm_if) ?_
  refine x_bmn.cons (xm_aload) ?_
  refine x_bmn.cons (xm_iload) ?_
  refine x_bmn.cons (xm_invV ym_R_bank) ?_
  refine x_bmn.cons (xm_goto) ?_
  refine x_bmn.cons (xm_aload) ?_
  refine x_bmn.cons (xm_get) ?_
  refine x_bmn.cons (xm_iload) ?_
  refine x_bmn.cons (xm_ald) ?_
  refine x_bmn.cons (xm_push) ?_
  refine x_bmn.cons (xm_icmp) ?_
  refine x_bmn.cons (xm_aload) ?_
  refine x_bmn.cons (xm_iload) ?_
  refine x_bmn.cons (xm_iload) ?_
  refine x_bmn.cons (xm_invV ym_R_answered) ?_
  refine x_bmn.cons (xm_goto) ?_
  refine x_bmn.cons (xm_aload) ?_
  refine x_bmn.cons (xm_get) ?_
  refine x_bmn.cons (xm_iload) ?_
  refine x_bmn.cons (xm_ald) ?_
  refine x_bmn.cons (xm_push) ?_
  refine x_bmn.cons (xm_icmp) ?_
  refine x_bmn.cons (xm_aload) ?_
  refine x_bmn.cons (xm_iload) ?_
  refine x_bmn.cons (xm_push) ?_
  refine x_bmn.cons (xm_aload) ?_
  refine x_bmn.cons (xm_get) ?_
  refine x_bmn.cons (xm_iload) ?_
  refine x_bmn.cons (xm_ald) ?_
  refine x_bmn.cons (xm_invV ym_R_has) ?_
  refine x_bmn.cons (xm_if) ?_
  refine x_bmn.cons (xm_aload) ?_
  refine x_bmn.cons (xm_iload) ?_
  refine x_bmn.cons (xm_push) ?_
  refine x_bmn.cons (xm_aload) ?_
  refine x_bmn.cons (xm_get) ?_
  refine x_bmn.cons (xm_iload) ?_
  refine x_bmn.cons (xm_ald) ?_
  refine x_bmn.cons (xm_invV ym_R_has) ?_
  refine x_bmn.cons (xm_if) ?_
  refine x_bmn.cons (xm_aload) ?_
  refine x_bmn.cons (xm_iload) ?_
  refine x_bmn.cons (xm_push) ?_
  refine x_bmn.cons (xm_iload) ?_
  refine x_bmn.cons (xm_aload) ?_
  refine x_bmn.cons (xm_get) ?_
  refine x_bmn.cons (xm_iload) ?_
  refine x_bmn.cons (xm_ald) ?_
  refine x_bmn.cons (xm_push) ?_
  refine x_bmn.cons (xm_push) ?_
  refine x_bmn.cons (xm_push) ?_
  refine x_bmn.cons (xm_invV ym_R_record) ?_
  refine x_bmn.cons (xm_goto) ?_
  refine x_bmn.cons (xm_astore) ?_
  refine x_bmn.cons (xm_aload) ?_
  refine x_bmn.cons (xm_push) ?_
  refine x_bmn.cons (xm_put) ?_
  refine x_bmn.cons (xm_push) ?_
  refine x_bmn.cons (xm_iret) ?_
  refine x_bmn.cons (xm_aload) ?_
  refine x_bmn.cons (xm_get) ?_
  refine x_bmn.cons (xm_iload) ?_
  refine x_bmn.cons (xm_bin) ?_
  refine x_bmn.cons (xm_iret) ?_
  exact x_bmn.nil
theorem is_R_deliver : x_Is y_R_deliver m_R_deliver := x_is_with q6_152
def Y_R_deliver : XMeth := x_do 6 b_R_deliver
theorem sn_R_deliver : x_Snd y_R_deliver m_R_deliver Y_R_deliver := x_snd_of (by decide) rfl rfl is_R_deliver k_R_deliver
theorem ym_R_deliver : x_Ymn Y_R_deliver := x_ymn_of mn_R_deliver
/- CashLinkModel.jam(II)V -/
abbrev c_R_jam : ByteArray := prog_12_method_32_code
def y_R_jam : MethodName := ⟨"CashLinkModel", "jam", "(II)V"⟩
theorem d_R_jam_0 : decode c_R_jam 0 = .ok (.aload_n 0, 1) := by decide +kernel
theorem d_R_jam_1 : decode c_R_jam 1 = .ok (.iload_n 1, 1) := by decide +kernel
theorem d_R_jam_2 : decode c_R_jam 2 = .ok (.iconst 0, 1) := by decide +kernel
theorem d_R_jam_3 : decode c_R_jam 3 = .ok (.iconst 3, 1) := by decide +kernel
theorem d_R_jam_4 : decode c_R_jam 4 = .ok (.invokestatic 175, 3) := by decide +kernel
theorem d_R_jam_7 : decode c_R_jam 7 = .ok (.ifCond .eq 17, 3) := by decide +kernel
theorem d_R_jam_10 : decode c_R_jam 10 = .ok (.iload_n 2, 1) := by decide +kernel
theorem d_R_jam_11 : decode c_R_jam 11 = .ok (.iconst 0, 1) := by decide +kernel
theorem d_R_jam_12 : decode c_R_jam 12 = .ok (.bipush 41, 2) := by decide +kernel
theorem d_R_jam_14 : decode c_R_jam 14 = .ok (.invokestatic 175, 3) := by decide +kernel
theorem d_R_jam_17 : decode c_R_jam 17 = .ok (.ifCond .eq 7, 3) := by decide +kernel
theorem d_R_jam_20 : decode c_R_jam 20 = .ok (.iconst 0, 1) := by decide +kernel
theorem d_R_jam_21 : decode c_R_jam 21 = .ok (.goto 4, 3) := by decide +kernel
theorem d_R_jam_24 : decode c_R_jam 24 = .ok (.iconst 1, 1) := by decide +kernel
theorem d_R_jam_25 : decode c_R_jam 25 = .ok (.putfield 96, 3) := by decide +kernel
theorem d_R_jam_28 : decode c_R_jam 28 = .ok (.aload_n 0, 1) := by decide +kernel
theorem d_R_jam_29 : decode c_R_jam 29 = .ok (.getfield 96, 3) := by decide +kernel
theorem d_R_jam_32 : decode c_R_jam 32 = .ok (.ifCond .ne 10, 3) := by decide +kernel
theorem d_R_jam_35 : decode c_R_jam 35 = .ok (.aload_n 0, 1) := by decide +kernel
theorem d_R_jam_36 : decode c_R_jam 36 = .ok (.getfield 62, 3) := by decide +kernel
theorem d_R_jam_39 : decode c_R_jam 39 = .ok (.iload_n 1, 1) := by decide +kernel
theorem d_R_jam_40 : decode c_R_jam 40 = .ok (.iload_n 2, 1) := by decide +kernel
theorem d_R_jam_41 : decode c_R_jam 41 = .ok (.iastore, 1) := by decide +kernel
theorem d_R_jam_42 : decode c_R_jam 42 = .ok (.return_, 1) := by decide +kernel
def m_R_jam : XM := ("CashLinkModel", c_R_jam, 3, none, "jam", [], 1, 22)
def b_R_jam : XB := [(0, X_aload 0 1),
  (1, X_iload 1 1),
  (2, X_push (xv_i 0) 1),
  (3, X_push (xv_i 3) 1),
  (4, X_invS Y_R_in 3 []),
  (7, X_if (fun x => x = 0) 24),
  (10, X_iload 2 1),
  (11, X_push (xv_i 0) 1),
  (12, X_push (xv_i 41) 2),
  (14, X_invS Y_R_in 3 []),
  (17, X_if (fun x => x = 0) 24),
  (20, X_push (xv_i 0) 1),
  (21, X_goto 25),
  (24, X_push (xv_i 1) 1),
  (25, X_put x_tI 10 26),
  (28, X_aload 0 1),
  (29, X_get 10 26),
  (32, X_if (fun x => ¬ x = 0) 42),
  (35, X_aload 0 1),
  (36, X_get 10 17),
  (39, X_iload 1 1),
  (40, X_iload 2 1),
  (41, X_ast 0 (fun x => x)),
  (42, X_vret)]
set_option maxRecDepth 100000 in
theorem k_R_jam : x_bok m_R_jam b_R_jam := by
  unfold b_R_jam
  refine x_bok.cons (xs_aload_n d_R_jam_0 rfl) ?_
  refine x_bok.cons (xs_iload_n d_R_jam_1 rfl) ?_
  refine x_bok.cons (xs_iconst d_R_jam_2 (by decide)) ?_
  refine x_bok.cons (xs_iconst d_R_jam_3 (by decide)) ?_
  refine x_bok.cons (xs_invS d_R_jam_4 sn_R_in is_R_in ⟨q6_67, q6_68, q1_12⟩ (by decide) (by decide) rfl) ?_
  refine x_bok.cons (xs_if_eq d_R_jam_7 (by decide)) ?_
  refine x_bok.cons (xs_iload_n d_R_jam_10 rfl) ?_
  refine x_bok.cons (xs_iconst d_R_jam_11 (by decide)) ?_
  refine x_bok.cons (xs_bipush d_R_jam_12 (by decide)) ?_
  refine x_bok.cons (xs_invS d_R_jam_14 sn_R_in is_R_in ⟨q6_67, q6_68, q1_12⟩ (by decide) (by decide) rfl) ?_
  refine x_bok.cons (xs_if_eq d_R_jam_17 (by decide)) ?_
  refine x_bok.cons (xs_iconst d_R_jam_20 (by decide)) ?_
  refine x_bok.cons (xs_goto d_R_jam_21 (by decide)) ?_
  refine x_bok.cons (xs_iconst d_R_jam_24 (by decide)) ?_
  refine x_bok.cons (xs_put d_R_jam_25 xc10 xw10 xt10 xn10 (by decide) q5_231 (Or.inl rfl) rfl rfl x_fitI) ?_
  refine x_bok.cons (xs_aload_n d_R_jam_28 rfl) ?_
  refine x_bok.cons (xs_get d_R_jam_29 xc10 xw10 (by decide) q5_231 (Or.inl rfl)) ?_
  refine x_bok.cons (xs_if_ne d_R_jam_32 (by decide)) ?_
  refine x_bok.cons (xs_aload_n d_R_jam_35 rfl) ?_
  refine x_bok.cons (xs_get d_R_jam_36 xc10 xw10 (by decide) q5_222 (Or.inl rfl)) ?_
  refine x_bok.cons (xs_iload_n d_R_jam_39 rfl) ?_
  refine x_bok.cons (xs_iload_n d_R_jam_40 rfl) ?_
  refine x_bok.cons (xs_iast d_R_jam_41 rfl) ?_
  refine x_bok.cons (xs_vret d_R_jam_42 rfl) ?_
  exact x_bok.nil
set_option maxRecDepth 100000 in
theorem mn_R_jam : x_bmn b_R_jam := by
  unfold b_R_jam
  refine x_bmn.cons (xm_aload) ?_
  refine x_bmn.cons (xm_iload) ?_
  refine x_bmn.cons (xm_push) ?_
  refine x_bmn.cons (xm_push) ?_
  refine x_bmn.cons (xm_invS ym_R_in) ?_
  refine x_bmn.cons (xm_if) ?_
  refine x_bmn.cons (xm_iload) ?_
  refine x_bmn.cons (xm_push) ?_
  refine x_bmn.cons (xm_push) ?_
  refine x_bmn.cons (xm_invS ym_R_in) ?_
  refine x_bmn.cons (xm_if) ?_
  refine x_bmn.cons (xm_push) ?_
  refine x_bmn.cons (xm_goto) ?_
  refine x_bmn.cons (xm_push) ?_
  refine x_bmn.cons (xm_put) ?_
  refine x_bmn.cons (xm_aload) ?_
  refine x_bmn.cons (xm_get) ?_
  refine x_bmn.cons (xm_if) ?_
  refine x_bmn.cons (xm_aload) ?_
  refine x_bmn.cons (xm_get) ?_
  refine x_bmn.cons (xm_iload) ?_
  refine x_bmn.cons (xm_iload) ?_
  refine x_bmn.cons (xm_ast) ?_
  refine x_bmn.cons (xm_vret) ?_
  exact x_bmn.nil
theorem is_R_jam : x_Is y_R_jam m_R_jam := x_is_code q6_178
def Y_R_jam : XMeth := x_do 3 b_R_jam
theorem sn_R_jam : x_Snd y_R_jam m_R_jam Y_R_jam := x_snd_of (by decide) rfl rfl is_R_jam k_R_jam
theorem ym_R_jam : x_Ymn Y_R_jam := x_ymn_of mn_R_jam
/- CashLinkModel.load(III)I -/
abbrev c_R_load : ByteArray := prog_12_method_33_code
def y_R_load : MethodName := ⟨"CashLinkModel", "load", "(III)I"⟩
theorem d_R_load_0 : decode c_R_load 0 = .ok (.aload_n 0, 1) := by decide +kernel
theorem d_R_load_1 : decode c_R_load 1 = .ok (.iload_n 1, 1) := by decide +kernel
theorem d_R_load_2 : decode c_R_load 2 = .ok (.iconst 0, 1) := by decide +kernel
theorem d_R_load_3 : decode c_R_load 3 = .ok (.iconst 3, 1) := by decide +kernel
theorem d_R_load_4 : decode c_R_load 4 = .ok (.invokestatic 175, 3) := by decide +kernel
theorem d_R_load_7 : decode c_R_load 7 = .ok (.ifCond .eq 22, 3) := by decide +kernel
theorem d_R_load_10 : decode c_R_load 10 = .ok (.iload_n 2, 1) := by decide +kernel
theorem d_R_load_11 : decode c_R_load 11 = .ok (.iconst 0, 1) := by decide +kernel
theorem d_R_load_12 : decode c_R_load 12 = .ok (.iconst 3, 1) := by decide +kernel
theorem d_R_load_13 : decode c_R_load 13 = .ok (.invokestatic 175, 3) := by decide +kernel
theorem d_R_load_16 : decode c_R_load 16 = .ok (.ifCond .eq 13, 3) := by decide +kernel
theorem d_R_load_19 : decode c_R_load 19 = .ok (.iload_n 3, 1) := by decide +kernel
theorem d_R_load_20 : decode c_R_load 20 = .ok (.iconst 1, 1) := by decide +kernel
theorem d_R_load_21 : decode c_R_load 21 = .ok (.bipush 100, 2) := by decide +kernel
theorem d_R_load_23 : decode c_R_load 23 = .ok (.invokestatic 175, 3) := by decide +kernel
theorem d_R_load_26 : decode c_R_load 26 = .ok (.ifCond .ne 7, 3) := by decide +kernel
theorem d_R_load_29 : decode c_R_load 29 = .ok (.iconst 1, 1) := by decide +kernel
theorem d_R_load_30 : decode c_R_load 30 = .ok (.goto 26, 3) := by decide +kernel
theorem d_R_load_33 : decode c_R_load 33 = .ok (.aload_n 0, 1) := by decide +kernel
theorem d_R_load_34 : decode c_R_load 34 = .ok (.getfield 50, 3) := by decide +kernel
theorem d_R_load_37 : decode c_R_load 37 = .ok (.iconst 4, 1) := by decide +kernel
theorem d_R_load_38 : decode c_R_load 38 = .ok (.iload_n 1, 1) := by decide +kernel
theorem d_R_load_39 : decode c_R_load 39 = .ok (.imul, 1) := by decide +kernel
theorem d_R_load_40 : decode c_R_load 40 = .ok (.iload_n 2, 1) := by decide +kernel
theorem d_R_load_41 : decode c_R_load 41 = .ok (.iadd, 1) := by decide +kernel
theorem d_R_load_42 : decode c_R_load 42 = .ok (.iaload, 1) := by decide +kernel
theorem d_R_load_43 : decode c_R_load 43 = .ok (.iload_n 3, 1) := by decide +kernel
theorem d_R_load_44 : decode c_R_load 44 = .ok (.iadd, 1) := by decide +kernel
theorem d_R_load_45 : decode c_R_load 45 = .ok (.sipush 500, 3) := by decide +kernel
theorem d_R_load_48 : decode c_R_load 48 = .ok (.if_icmp .le 7, 3) := by decide +kernel
theorem d_R_load_51 : decode c_R_load 51 = .ok (.iconst 2, 1) := by decide +kernel
theorem d_R_load_52 : decode c_R_load 52 = .ok (.goto 4, 3) := by decide +kernel
theorem d_R_load_55 : decode c_R_load 55 = .ok (.iconst 0, 1) := by decide +kernel
theorem d_R_load_56 : decode c_R_load 56 = .ok (.putfield 96, 3) := by decide +kernel
theorem d_R_load_59 : decode c_R_load 59 = .ok (.aload_n 0, 1) := by decide +kernel
theorem d_R_load_60 : decode c_R_load 60 = .ok (.getfield 96, 3) := by decide +kernel
theorem d_R_load_63 : decode c_R_load 63 = .ok (.ifCond .le 5, 3) := by decide +kernel
theorem d_R_load_66 : decode c_R_load 66 = .ok (.iconst 0, 1) := by decide +kernel
theorem d_R_load_67 : decode c_R_load 67 = .ok (.ireturn, 1) := by decide +kernel
theorem d_R_load_68 : decode c_R_load 68 = .ok (.aload_n 0, 1) := by decide +kernel
theorem d_R_load_69 : decode c_R_load 69 = .ok (.getfield 50, 3) := by decide +kernel
theorem d_R_load_72 : decode c_R_load 72 = .ok (.iconst 4, 1) := by decide +kernel
theorem d_R_load_73 : decode c_R_load 73 = .ok (.iload_n 1, 1) := by decide +kernel
theorem d_R_load_74 : decode c_R_load 74 = .ok (.imul, 1) := by decide +kernel
theorem d_R_load_75 : decode c_R_load 75 = .ok (.iload_n 2, 1) := by decide +kernel
theorem d_R_load_76 : decode c_R_load 76 = .ok (.iadd, 1) := by decide +kernel
theorem d_R_load_77 : decode c_R_load 77 = .ok (.dup2, 1) := by decide +kernel
theorem d_R_load_78 : decode c_R_load 78 = .ok (.iaload, 1) := by decide +kernel
theorem d_R_load_79 : decode c_R_load 79 = .ok (.iload_n 3, 1) := by decide +kernel
theorem d_R_load_80 : decode c_R_load 80 = .ok (.iadd, 1) := by decide +kernel
theorem d_R_load_81 : decode c_R_load 81 = .ok (.iastore, 1) := by decide +kernel
theorem d_R_load_82 : decode c_R_load 82 = .ok (.aload_n 0, 1) := by decide +kernel
theorem d_R_load_83 : decode c_R_load 83 = .ok (.getfield 50, 3) := by decide +kernel
theorem d_R_load_86 : decode c_R_load 86 = .ok (.iconst 4, 1) := by decide +kernel
theorem d_R_load_87 : decode c_R_load 87 = .ok (.iload_n 1, 1) := by decide +kernel
theorem d_R_load_88 : decode c_R_load 88 = .ok (.imul, 1) := by decide +kernel
theorem d_R_load_89 : decode c_R_load 89 = .ok (.iload_n 2, 1) := by decide +kernel
theorem d_R_load_90 : decode c_R_load 90 = .ok (.iadd, 1) := by decide +kernel
theorem d_R_load_91 : decode c_R_load 91 = .ok (.iaload, 1) := by decide +kernel
theorem d_R_load_92 : decode c_R_load 92 = .ok (.ireturn, 1) := by decide +kernel
def m_R_load : XM := ("CashLinkModel", c_R_load, 4, (some .int), "load", [], 1, 22)
def b_R_load : XB := [(0, X_aload 0 1),
  (1, X_iload 1 1),
  (2, X_push (xv_i 0) 1),
  (3, X_push (xv_i 3) 1),
  (4, X_invS Y_R_in 3 []),
  (7, X_if (fun x => x = 0) 29),
  (10, X_iload 2 1),
  (11, X_push (xv_i 0) 1),
  (12, X_push (xv_i 3) 1),
  (13, X_invS Y_R_in 3 []),
  (16, X_if (fun x => x = 0) 29),
  (19, X_iload 3 1),
  (20, X_push (xv_i 1) 1),
  (21, X_push (xv_i 100) 2),
  (23, X_invS Y_R_in 3 []),
  (26, X_if (fun x => ¬ x = 0) 33),
  (29, X_push (xv_i 1) 1),
  (30, X_goto 56),
  (33, X_aload 0 1),
  (34, X_get 10 13),
  (37, X_push (xv_i 4) 1),
  (38, X_iload 1 1),
  (39, X_bin (fun x y => x * y)),
  (40, X_iload 2 1),
  (41, X_bin (fun x y => x + y)),
  (42, X_ald 0),
  (43, X_iload 3 1),
  (44, X_bin (fun x y => x + y)),
  (45, X_push (xv_i 500) 3),
  (48, X_icmp (fun x y => x ≤ y) 55),
  (51, X_push (xv_i 2) 1),
  (52, X_goto 56),
  (55, X_push (xv_i 0) 1),
  (56, X_put x_tI 10 26),
  (59, X_aload 0 1),
  (60, X_get 10 26),
  (63, X_if (fun x => x ≤ 0) 68),
  (66, X_push (xv_i 0) 1),
  (67, X_iret),
  (68, X_aload 0 1),
  (69, X_get 10 13),
  (72, X_push (xv_i 4) 1),
  (73, X_iload 1 1),
  (74, X_bin (fun x y => x * y)),
  (75, X_iload 2 1),
  (76, X_bin (fun x y => x + y)),
  (77, X_dup2),
  (78, X_ald 0),
  (79, X_iload 3 1),
  (80, X_bin (fun x y => x + y)),
  (81, X_ast 0 (fun x => x)),
  (82, X_aload 0 1),
  (83, X_get 10 13),
  (86, X_push (xv_i 4) 1),
  (87, X_iload 1 1),
  (88, X_bin (fun x y => x * y)),
  (89, X_iload 2 1),
  (90, X_bin (fun x y => x + y)),
  (91, X_ald 0),
  (92, X_iret)]
set_option maxRecDepth 100000 in
theorem k_R_load : x_bok m_R_load b_R_load := by
  unfold b_R_load
  refine x_bok.cons (xs_aload_n d_R_load_0 rfl) ?_
  refine x_bok.cons (xs_iload_n d_R_load_1 rfl) ?_
  refine x_bok.cons (xs_iconst d_R_load_2 (by decide)) ?_
  refine x_bok.cons (xs_iconst d_R_load_3 (by decide)) ?_
  refine x_bok.cons (xs_invS d_R_load_4 sn_R_in is_R_in ⟨q6_67, q6_68, q1_12⟩ (by decide) (by decide) rfl) ?_
  refine x_bok.cons (xs_if_eq d_R_load_7 (by decide)) ?_
  refine x_bok.cons (xs_iload_n d_R_load_10 rfl) ?_
  refine x_bok.cons (xs_iconst d_R_load_11 (by decide)) ?_
  refine x_bok.cons (xs_iconst d_R_load_12 (by decide)) ?_
  refine x_bok.cons (xs_invS d_R_load_13 sn_R_in is_R_in ⟨q6_67, q6_68, q1_12⟩ (by decide) (by decide) rfl) ?_
  refine x_bok.cons (xs_if_eq d_R_load_16 (by decide)) ?_
  refine x_bok.cons (xs_iload_n d_R_load_19 rfl) ?_
  refine x_bok.cons (xs_iconst d_R_load_20 (by decide)) ?_
  refine x_bok.cons (xs_bipush d_R_load_21 (by decide)) ?_
  refine x_bok.cons (xs_invS d_R_load_23 sn_R_in is_R_in ⟨q6_67, q6_68, q1_12⟩ (by decide) (by decide) rfl) ?_
  refine x_bok.cons (xs_if_ne d_R_load_26 (by decide)) ?_
  refine x_bok.cons (xs_iconst d_R_load_29 (by decide)) ?_
  refine x_bok.cons (xs_goto d_R_load_30 (by decide)) ?_
  refine x_bok.cons (xs_aload_n d_R_load_33 rfl) ?_
  refine x_bok.cons (xs_get d_R_load_34 xc10 xw10 (by decide) q5_218 (Or.inl rfl)) ?_
  refine x_bok.cons (xs_iconst d_R_load_37 (by decide)) ?_
  refine x_bok.cons (xs_iload_n d_R_load_38 rfl) ?_
  refine x_bok.cons (xs_imul d_R_load_39) ?_
  refine x_bok.cons (xs_iload_n d_R_load_40 rfl) ?_
  refine x_bok.cons (xs_iadd d_R_load_41) ?_
  refine x_bok.cons (xs_iald d_R_load_42 rfl) ?_
  refine x_bok.cons (xs_iload_n d_R_load_43 rfl) ?_
  refine x_bok.cons (xs_iadd d_R_load_44) ?_
  refine x_bok.cons (xs_sipush d_R_load_45 (by decide)) ?_
  refine x_bok.cons (xs_icmp_le d_R_load_48 (by decide)) ?_
  refine x_bok.cons (xs_iconst d_R_load_51 (by decide)) ?_
  refine x_bok.cons (xs_goto d_R_load_52 (by decide)) ?_
  refine x_bok.cons (xs_iconst d_R_load_55 (by decide)) ?_
  refine x_bok.cons (xs_put d_R_load_56 xc10 xw10 xt10 xn10 (by decide) q5_231 (Or.inl rfl) rfl rfl x_fitI) ?_
  refine x_bok.cons (xs_aload_n d_R_load_59 rfl) ?_
  refine x_bok.cons (xs_get d_R_load_60 xc10 xw10 (by decide) q5_231 (Or.inl rfl)) ?_
  refine x_bok.cons (xs_if_le d_R_load_63 (by decide)) ?_
  refine x_bok.cons (xs_iconst d_R_load_66 (by decide)) ?_
  refine x_bok.cons (xs_iret d_R_load_67 rfl) ?_
  refine x_bok.cons (xs_aload_n d_R_load_68 rfl) ?_
  refine x_bok.cons (xs_get d_R_load_69 xc10 xw10 (by decide) q5_218 (Or.inl rfl)) ?_
  refine x_bok.cons (xs_iconst d_R_load_72 (by decide)) ?_
  refine x_bok.cons (xs_iload_n d_R_load_73 rfl) ?_
  refine x_bok.cons (xs_imul d_R_load_74) ?_
  refine x_bok.cons (xs_iload_n d_R_load_75 rfl) ?_
  refine x_bok.cons (xs_iadd d_R_load_76) ?_
  refine x_bok.cons (xs_dup2 d_R_load_77) ?_
  refine x_bok.cons (xs_iald d_R_load_78 rfl) ?_
  refine x_bok.cons (xs_iload_n d_R_load_79 rfl) ?_
  refine x_bok.cons (xs_iadd d_R_load_80) ?_
  refine x_bok.cons (xs_iast d_R_load_81 rfl) ?_
  refine x_bok.cons (xs_aload_n d_R_load_82 rfl) ?_
  refine x_bok.cons (xs_get d_R_load_83 xc10 xw10 (by decide) q5_218 (Or.inl rfl)) ?_
  refine x_bok.cons (xs_iconst d_R_load_86 (by decide)) ?_
  refine x_bok.cons (xs_iload_n d_R_load_87 rfl) ?_
  refine x_bok.cons (xs_imul d_R_load_88) ?_
  refine x_bok.cons (xs_iload_n d_R_load_89 rfl) ?_
  refine x_bok.cons (xs_iadd d_R_load_90) ?_
  refine x_bok.cons (xs_iald d_R_load_91 rfl) ?_
  refine x_bok.cons (xs_iret d_R_load_92 rfl) ?_
  exact x_bok.nil
set_option maxRecDepth 100000 in
theorem mn_R_load : x_bmn b_R_load := by
  unfold b_R_load
  refine x_bmn.cons (xm_aload) ?_
  refine x_bmn.cons (xm_iload) ?_
  refine x_bmn.cons (xm_push) ?_
  refine x_bmn.cons (xm_push) ?_
  refine x_bmn.cons (xm_invS ym_R_in) ?_
  refine x_bmn.cons (xm_if) ?_
  refine x_bmn.cons (xm_iload) ?_
  refine x_bmn.cons (xm_push) ?_
  refine x_bmn.cons (xm_push) ?_
  refine x_bmn.cons (xm_invS ym_R_in) ?_
  refine x_bmn.cons (xm_if) ?_
  refine x_bmn.cons (xm_iload) ?_
  refine x_bmn.cons (xm_push) ?_
  refine x_bmn.cons (xm_push) ?_
  refine x_bmn.cons (xm_invS ym_R_in) ?_
  refine x_bmn.cons (xm_if) ?_
  refine x_bmn.cons (xm_push) ?_
  refine x_bmn.cons (xm_goto) ?_
  refine x_bmn.cons (xm_aload) ?_
  refine x_bmn.cons (xm_get) ?_
  refine x_bmn.cons (xm_push) ?_
  refine x_bmn.cons (xm_iload) ?_
  refine x_bmn.cons (xm_bin) ?_
  refine x_bmn.cons (xm_iload) ?_
  refine x_bmn.cons (xm_bin) ?_
  refine x_bmn.cons (xm_ald) ?_
  refine x_bmn.cons (xm_iload) ?_
  refine x_bmn.cons (xm_bin) ?_
  refine x_bmn.cons (xm_push) ?_
  refine x_bmn.cons (xm_icmp) ?_
  refine x_bmn.cons (xm_push) ?_
  refine x_bmn.cons (xm_goto) ?_
  refine x_bmn.cons (xm_push) ?_
  refine x_bmn.cons (xm_put) ?_
  refine x_bmn.cons (xm_aload) ?_
  refine x_bmn.cons (xm_get) ?_
  refine x_bmn.cons (xm_if) ?_
  refine x_bmn.cons (xm_push) ?_
  refine x_bmn.cons (xm_iret) ?_
  refine x_bmn.cons (xm_aload) ?_
  refine x_bmn.cons (xm_get) ?_
  refine x_bmn.cons (xm_push) ?_
  refine x_bmn.cons (xm_iload) ?_
  refine x_bmn.cons (xm_bin) ?_
  refine x_bmn.cons (xm_iload) ?_
  refine x_bmn.cons (xm_bin) ?_
  refine x_bmn.cons (xm_dup2) ?_
  refine x_bmn.cons (xm_ald) ?_
  refine x_bmn.cons (xm_iload) ?_
  refine x_bmn.cons (xm_bin) ?_
  refine x_bmn.cons (xm_ast) ?_
  refine x_bmn.cons (xm_aload) ?_
  refine x_bmn.cons (xm_get) ?_
  refine x_bmn.cons (xm_push) ?_
  refine x_bmn.cons (xm_iload) ?_
  refine x_bmn.cons (xm_bin) ?_
  refine x_bmn.cons (xm_iload) ?_
  refine x_bmn.cons (xm_bin) ?_
  refine x_bmn.cons (xm_ald) ?_
  refine x_bmn.cons (xm_iret) ?_
  exact x_bmn.nil
theorem is_R_load : x_Is y_R_load m_R_load := x_is_code q6_182
def Y_R_load : XMeth := x_do 4 b_R_load
theorem sn_R_load : x_Snd y_R_load m_R_load Y_R_load := x_snd_of (by decide) rfl rfl is_R_load k_R_load
theorem ym_R_load : x_Ymn Y_R_load := x_ymn_of mn_R_load
/- CashLinkModel.power(III)V -/
abbrev c_R_power : ByteArray := prog_12_method_34_code
def y_R_power : MethodName := ⟨"CashLinkModel", "power", "(III)V"⟩
theorem d_R_power_0 : decode c_R_power 0 = .ok (.aload_n 0, 1) := by decide +kernel
theorem d_R_power_1 : decode c_R_power 1 = .ok (.iload_n 1, 1) := by decide +kernel
theorem d_R_power_2 : decode c_R_power 2 = .ok (.iconst 0, 1) := by decide +kernel
theorem d_R_power_3 : decode c_R_power 3 = .ok (.iconst 4, 1) := by decide +kernel
theorem d_R_power_4 : decode c_R_power 4 = .ok (.invokestatic 175, 3) := by decide +kernel
theorem d_R_power_7 : decode c_R_power 7 = .ok (.ifCond .eq 27, 3) := by decide +kernel
theorem d_R_power_10 : decode c_R_power 10 = .ok (.iload_n 2, 1) := by decide +kernel
theorem d_R_power_11 : decode c_R_power 11 = .ok (.iconst 0, 1) := by decide +kernel
theorem d_R_power_12 : decode c_R_power 12 = .ok (.bipush 50, 2) := by decide +kernel
theorem d_R_power_14 : decode c_R_power 14 = .ok (.invokestatic 175, 3) := by decide +kernel
theorem d_R_power_17 : decode c_R_power 17 = .ok (.ifCond .eq 17, 3) := by decide +kernel
theorem d_R_power_20 : decode c_R_power 20 = .ok (.iload_n 3, 1) := by decide +kernel
theorem d_R_power_21 : decode c_R_power 21 = .ok (.iconst 0, 1) := by decide +kernel
theorem d_R_power_22 : decode c_R_power 22 = .ok (.bipush 17, 2) := by decide +kernel
theorem d_R_power_24 : decode c_R_power 24 = .ok (.invokestatic 175, 3) := by decide +kernel
theorem d_R_power_27 : decode c_R_power 27 = .ok (.ifCond .eq 7, 3) := by decide +kernel
theorem d_R_power_30 : decode c_R_power 30 = .ok (.iconst 0, 1) := by decide +kernel
theorem d_R_power_31 : decode c_R_power 31 = .ok (.goto 4, 3) := by decide +kernel
theorem d_R_power_34 : decode c_R_power 34 = .ok (.iconst 1, 1) := by decide +kernel
theorem d_R_power_35 : decode c_R_power 35 = .ok (.putfield 96, 3) := by decide +kernel
theorem d_R_power_38 : decode c_R_power 38 = .ok (.aload_n 0, 1) := by decide +kernel
theorem d_R_power_39 : decode c_R_power 39 = .ok (.getfield 96, 3) := by decide +kernel
theorem d_R_power_42 : decode c_R_power 42 = .ok (.ifCond .le 4, 3) := by decide +kernel
theorem d_R_power_45 : decode c_R_power 45 = .ok (.return_, 1) := by decide +kernel
theorem d_R_power_46 : decode c_R_power 46 = .ok (.aload_n 0, 1) := by decide +kernel
theorem d_R_power_47 : decode c_R_power 47 = .ok (.getfield 31, 3) := by decide +kernel
theorem d_R_power_50 : decode c_R_power 50 = .ok (.iload_n 1, 1) := by decide +kernel
theorem d_R_power_51 : decode c_R_power 51 = .ok (.iload_n 2, 1) := by decide +kernel
theorem d_R_power_52 : decode c_R_power 52 = .ok (.iastore, 1) := by decide +kernel
theorem d_R_power_53 : decode c_R_power 53 = .ok (.aload_n 0, 1) := by decide +kernel
theorem d_R_power_54 : decode c_R_power 54 = .ok (.getfield 34, 3) := by decide +kernel
theorem d_R_power_57 : decode c_R_power 57 = .ok (.iload_n 1, 1) := by decide +kernel
theorem d_R_power_58 : decode c_R_power 58 = .ok (.iload_n 3, 1) := by decide +kernel
theorem d_R_power_59 : decode c_R_power 59 = .ok (.iastore, 1) := by decide +kernel
theorem d_R_power_60 : decode c_R_power 60 = .ok (.return_, 1) := by decide +kernel
def m_R_power : XM := ("CashLinkModel", c_R_power, 4, none, "power", [], 1, 22)
def b_R_power : XB := [(0, X_aload 0 1),
  (1, X_iload 1 1),
  (2, X_push (xv_i 0) 1),
  (3, X_push (xv_i 4) 1),
  (4, X_invS Y_R_in 3 []),
  (7, X_if (fun x => x = 0) 34),
  (10, X_iload 2 1),
  (11, X_push (xv_i 0) 1),
  (12, X_push (xv_i 50) 2),
  (14, X_invS Y_R_in 3 []),
  (17, X_if (fun x => x = 0) 34),
  (20, X_iload 3 1),
  (21, X_push (xv_i 0) 1),
  (22, X_push (xv_i 17) 2),
  (24, X_invS Y_R_in 3 []),
  (27, X_if (fun x => x = 0) 34),
  (30, X_push (xv_i 0) 1),
  (31, X_goto 35),
  (34, X_push (xv_i 1) 1),
  (35, X_put x_tI 10 26),
  (38, X_aload 0 1),
  (39, X_get 10 26),
  (42, X_if (fun x => x ≤ 0) 46),
  (45, X_vret),
  (46, X_aload 0 1),
  (47, X_get 10 7),
  (50, X_iload 1 1),
  (51, X_iload 2 1),
  (52, X_ast 0 (fun x => x)),
  (53, X_aload 0 1),
  (54, X_get 10 8),
  (57, X_iload 1 1),
  (58, X_iload 3 1),
  (59, X_ast 0 (fun x => x)),
  (60, X_vret)]
set_option maxRecDepth 100000 in
theorem k_R_power : x_bok m_R_power b_R_power := by
  unfold b_R_power
  refine x_bok.cons (xs_aload_n d_R_power_0 rfl) ?_
  refine x_bok.cons (xs_iload_n d_R_power_1 rfl) ?_
  refine x_bok.cons (xs_iconst d_R_power_2 (by decide)) ?_
  refine x_bok.cons (xs_iconst d_R_power_3 (by decide)) ?_
  refine x_bok.cons (xs_invS d_R_power_4 sn_R_in is_R_in ⟨q6_67, q6_68, q1_12⟩ (by decide) (by decide) rfl) ?_
  refine x_bok.cons (xs_if_eq d_R_power_7 (by decide)) ?_
  refine x_bok.cons (xs_iload_n d_R_power_10 rfl) ?_
  refine x_bok.cons (xs_iconst d_R_power_11 (by decide)) ?_
  refine x_bok.cons (xs_bipush d_R_power_12 (by decide)) ?_
  refine x_bok.cons (xs_invS d_R_power_14 sn_R_in is_R_in ⟨q6_67, q6_68, q1_12⟩ (by decide) (by decide) rfl) ?_
  refine x_bok.cons (xs_if_eq d_R_power_17 (by decide)) ?_
  refine x_bok.cons (xs_iload_n d_R_power_20 rfl) ?_
  refine x_bok.cons (xs_iconst d_R_power_21 (by decide)) ?_
  refine x_bok.cons (xs_bipush d_R_power_22 (by decide)) ?_
  refine x_bok.cons (xs_invS d_R_power_24 sn_R_in is_R_in ⟨q6_67, q6_68, q1_12⟩ (by decide) (by decide) rfl) ?_
  refine x_bok.cons (xs_if_eq d_R_power_27 (by decide)) ?_
  refine x_bok.cons (xs_iconst d_R_power_30 (by decide)) ?_
  refine x_bok.cons (xs_goto d_R_power_31 (by decide)) ?_
  refine x_bok.cons (xs_iconst d_R_power_34 (by decide)) ?_
  refine x_bok.cons (xs_put d_R_power_35 xc10 xw10 xt10 xn10 (by decide) q5_231 (Or.inl rfl) rfl rfl x_fitI) ?_
  refine x_bok.cons (xs_aload_n d_R_power_38 rfl) ?_
  refine x_bok.cons (xs_get d_R_power_39 xc10 xw10 (by decide) q5_231 (Or.inl rfl)) ?_
  refine x_bok.cons (xs_if_le d_R_power_42 (by decide)) ?_
  refine x_bok.cons (xs_vret d_R_power_45 rfl) ?_
  refine x_bok.cons (xs_aload_n d_R_power_46 rfl) ?_
  refine x_bok.cons (xs_get d_R_power_47 xc10 xw10 (by decide) q5_212 (Or.inl rfl)) ?_
  refine x_bok.cons (xs_iload_n d_R_power_50 rfl) ?_
  refine x_bok.cons (xs_iload_n d_R_power_51 rfl) ?_
  refine x_bok.cons (xs_iast d_R_power_52 rfl) ?_
  refine x_bok.cons (xs_aload_n d_R_power_53 rfl) ?_
  refine x_bok.cons (xs_get d_R_power_54 xc10 xw10 (by decide) q5_213 (Or.inl rfl)) ?_
  refine x_bok.cons (xs_iload_n d_R_power_57 rfl) ?_
  refine x_bok.cons (xs_iload_n d_R_power_58 rfl) ?_
  refine x_bok.cons (xs_iast d_R_power_59 rfl) ?_
  refine x_bok.cons (xs_vret d_R_power_60 rfl) ?_
  exact x_bok.nil
set_option maxRecDepth 100000 in
theorem mn_R_power : x_bmn b_R_power := by
  unfold b_R_power
  refine x_bmn.cons (xm_aload) ?_
  refine x_bmn.cons (xm_iload) ?_
  refine x_bmn.cons (xm_push) ?_
  refine x_bmn.cons (xm_push) ?_
  refine x_bmn.cons (xm_invS ym_R_in) ?_
  refine x_bmn.cons (xm_if) ?_
  refine x_bmn.cons (xm_iload) ?_
  refine x_bmn.cons (xm_push) ?_
  refine x_bmn.cons (xm_push) ?_
  refine x_bmn.cons (xm_invS ym_R_in) ?_
  refine x_bmn.cons (xm_if) ?_
  refine x_bmn.cons (xm_iload) ?_
  refine x_bmn.cons (xm_push) ?_
  refine x_bmn.cons (xm_push) ?_
  refine x_bmn.cons (xm_invS ym_R_in) ?_
  refine x_bmn.cons (xm_if) ?_
  refine x_bmn.cons (xm_push) ?_
  refine x_bmn.cons (xm_goto) ?_
  refine x_bmn.cons (xm_push) ?_
  refine x_bmn.cons (xm_put) ?_
  refine x_bmn.cons (xm_aload) ?_
  refine x_bmn.cons (xm_get) ?_
  refine x_bmn.cons (xm_if) ?_
  refine x_bmn.cons (xm_vret) ?_
  refine x_bmn.cons (xm_aload) ?_
  refine x_bmn.cons (xm_get) ?_
  refine x_bmn.cons (xm_iload) ?_
  refine x_bmn.cons (xm_iload) ?_
  refine x_bmn.cons (xm_ast) ?_
  refine x_bmn.cons (xm_aload) ?_
  refine x_bmn.cons (xm_get) ?_
  refine x_bmn.cons (xm_iload) ?_
  refine x_bmn.cons (xm_iload) ?_
  refine x_bmn.cons (xm_ast) ?_
  refine x_bmn.cons (xm_vret) ?_
  exact x_bmn.nil
theorem is_R_power : x_Is y_R_power m_R_power := x_is_code q6_186
def Y_R_power : XMeth := x_do 4 b_R_power
theorem sn_R_power : x_Snd y_R_power m_R_power Y_R_power := x_snd_of (by decide) rfl rfl is_R_power k_R_power
theorem ym_R_power : x_Ymn Y_R_power := x_ymn_of mn_R_power
