/- CashLink$Machine.request(I)I -/
abbrev c_M_request : ByteArray := prog_6_method_4_code
def y_M_request : MethodName := ⟨"CashLink$Machine", "request", "(I)I"⟩
theorem d_M_request_0 : decode c_M_request 0 = .ok (.aload_n 0, 1) := by decide +kernel
theorem d_M_request_1 : decode c_M_request 1 = .ok (.getfield 14, 3) := by decide +kernel
theorem d_M_request_4 : decode c_M_request 4 = .ok (.invokevirtual 53, 3) := by decide +kernel
theorem d_M_request_7 : decode c_M_request 7 = .ok (.ifCond .eq 17, 3) := by decide +kernel
theorem d_M_request_10 : decode c_M_request 10 = .ok (.aload_n 0, 1) := by decide +kernel
theorem d_M_request_11 : decode c_M_request 11 = .ok (.getfield 31, 3) := by decide +kernel
theorem d_M_request_14 : decode c_M_request 14 = .ok (.getstatic 72, 3) := by decide +kernel
theorem d_M_request_17 : decode c_M_request 17 = .ok (.if_acmp .ne 7, 3) := by decide +kernel
theorem d_M_request_20 : decode c_M_request 20 = .ok (.iconst 1, 1) := by decide +kernel
theorem d_M_request_21 : decode c_M_request 21 = .ok (.goto 4, 3) := by decide +kernel
theorem d_M_request_24 : decode c_M_request 24 = .ok (.iconst 0, 1) := by decide +kernel
theorem d_M_request_25 : decode c_M_request 25 = .ok (.invokestatic 57, 3) := by decide +kernel
theorem d_M_request_28 : decode c_M_request 28 = .ok (.aload_n 0, 1) := by decide +kernel
theorem d_M_request_29 : decode c_M_request 29 = .ok (.getfield 21, 3) := by decide +kernel
theorem d_M_request_32 : decode c_M_request 32 = .ok (.iload_n 1, 1) := by decide +kernel
theorem d_M_request_33 : decode c_M_request 33 = .ok (.invokevirtual 75, 3) := by decide +kernel
theorem d_M_request_36 : decode c_M_request 36 = .ok (.iconst (-1), 1) := by decide +kernel
theorem d_M_request_37 : decode c_M_request 37 = .ok (.if_icmp .eq 7, 3) := by decide +kernel
theorem d_M_request_40 : decode c_M_request 40 = .ok (.iconst 1, 1) := by decide +kernel
theorem d_M_request_41 : decode c_M_request 41 = .ok (.goto 4, 3) := by decide +kernel
theorem d_M_request_44 : decode c_M_request 44 = .ok (.iconst 0, 1) := by decide +kernel
theorem d_M_request_45 : decode c_M_request 45 = .ok (.istore_n 2, 1) := by decide +kernel
theorem d_M_request_46 : decode c_M_request 46 = .ok (.iload_n 2, 1) := by decide +kernel
theorem d_M_request_47 : decode c_M_request 47 = .ok (.ifCond .eq 22, 3) := by decide +kernel
theorem d_M_request_50 : decode c_M_request 50 = .ok (.aload_n 0, 1) := by decide +kernel
theorem d_M_request_51 : decode c_M_request 51 = .ok (.getfield 14, 3) := by decide +kernel
theorem d_M_request_54 : decode c_M_request 54 = .ok (.iconst 5, 1) := by decide +kernel
theorem d_M_request_55 : decode c_M_request 55 = .ok (.aload_n 0, 1) := by decide +kernel
theorem d_M_request_56 : decode c_M_request 56 = .ok (.getfield 37, 3) := by decide +kernel
theorem d_M_request_59 : decode c_M_request 59 = .ok (.invokevirtual 79, 3) := by decide +kernel
theorem d_M_request_62 : decode c_M_request 62 = .ok (.iadd, 1) := by decide +kernel
theorem d_M_request_63 : decode c_M_request 63 = .ok (.invokevirtual 83, 3) := by decide +kernel
theorem d_M_request_66 : decode c_M_request 66 = .ok (.ifCond .ne 13, 3) := by decide +kernel
theorem d_M_request_69 : decode c_M_request 69 = .ok (.new 87, 3) := by decide +kernel
theorem d_M_request_72 : decode c_M_request 72 = .ok (.dup, 1) := by decide +kernel
theorem d_M_request_73 : decode c_M_request 73 = .ok (.ldc 89, 2) := by decide +kernel
theorem d_M_request_75 : decode c_M_request 75 = .ok (.invokespecial 91, 3) := by decide +kernel
theorem d_M_request_78 : decode c_M_request 78 = .ok (.athrow, 1) := by decide +kernel
theorem d_M_request_79 : decode c_M_request 79 = .ok (.aload_n 0, 1) := by decide +kernel
theorem d_M_request_80 : decode c_M_request 80 = .ok (.getfield 14, 3) := by decide +kernel
theorem d_M_request_83 : decode c_M_request 83 = .ok (.new 94, 3) := by decide +kernel
theorem d_M_request_86 : decode c_M_request 86 = .ok (.dup, 1) := by decide +kernel
theorem d_M_request_87 : decode c_M_request 87 = .ok (.iconst 1, 1) := by decide +kernel
theorem d_M_request_88 : decode c_M_request 88 = .ok (.aload_n 0, 1) := by decide +kernel
theorem d_M_request_89 : decode c_M_request 89 = .ok (.getfield 41, 3) := by decide +kernel
theorem d_M_request_92 : decode c_M_request 92 = .ok (.aload_n 0, 1) := by decide +kernel
theorem d_M_request_93 : decode c_M_request 93 = .ok (.getfield 96, 3) := by decide +kernel
theorem d_M_request_96 : decode c_M_request 96 = .ok (.iconst 1, 1) := by decide +kernel
theorem d_M_request_97 : decode c_M_request 97 = .ok (.iadd, 1) := by decide +kernel
theorem d_M_request_98 : decode c_M_request 98 = .ok (.aload_n 0, 1) := by decide +kernel
theorem d_M_request_99 : decode c_M_request 99 = .ok (.getfield 63, 3) := by decide +kernel
theorem d_M_request_102 : decode c_M_request 102 = .ok (.iload_n 1, 1) := by decide +kernel
theorem d_M_request_103 : decode c_M_request 103 = .ok (.iconst 0, 1) := by decide +kernel
theorem d_M_request_104 : decode c_M_request 104 = .ok (.invokespecial 99, 3) := by decide +kernel
theorem d_M_request_107 : decode c_M_request 107 = .ok (.invokevirtual 102, 3) := by decide +kernel
theorem d_M_request_110 : decode c_M_request 110 = .ok (.aload_n 0, 1) := by decide +kernel
theorem d_M_request_111 : decode c_M_request 111 = .ok (.dup, 1) := by decide +kernel
theorem d_M_request_112 : decode c_M_request 112 = .ok (.getfield 96, 3) := by decide +kernel
theorem d_M_request_115 : decode c_M_request 115 = .ok (.iconst 1, 1) := by decide +kernel
theorem d_M_request_116 : decode c_M_request 116 = .ok (.iadd, 1) := by decide +kernel
theorem d_M_request_117 : decode c_M_request 117 = .ok (.putfield 96, 3) := by decide +kernel
theorem d_M_request_120 : decode c_M_request 120 = .ok (.aload_n 0, 1) := by decide +kernel
theorem d_M_request_121 : decode c_M_request 121 = .ok (.iload_n 1, 1) := by decide +kernel
theorem d_M_request_122 : decode c_M_request 122 = .ok (.putfield 106, 3) := by decide +kernel
theorem d_M_request_125 : decode c_M_request 125 = .ok (.aload_n 0, 1) := by decide +kernel
theorem d_M_request_126 : decode c_M_request 126 = .ok (.getfield 45, 3) := by decide +kernel
theorem d_M_request_129 : decode c_M_request 129 = .ok (.getstatic 109, 3) := by decide +kernel
theorem d_M_request_132 : decode c_M_request 132 = .ok (.aload_n 0, 1) := by decide +kernel
theorem d_M_request_133 : decode c_M_request 133 = .ok (.getfield 41, 3) := by decide +kernel
theorem d_M_request_136 : decode c_M_request 136 = .ok (.aload_n 0, 1) := by decide +kernel
theorem d_M_request_137 : decode c_M_request 137 = .ok (.getfield 96, 3) := by decide +kernel
theorem d_M_request_140 : decode c_M_request 140 = .ok (.aload_n 0, 1) := by decide +kernel
theorem d_M_request_141 : decode c_M_request 141 = .ok (.getfield 63, 3) := by decide +kernel
theorem d_M_request_144 : decode c_M_request 144 = .ok (.aload_n 0, 1) := by decide +kernel
theorem d_M_request_145 : decode c_M_request 145 = .ok (.getfield 106, 3) := by decide +kernel
theorem d_M_request_148 : decode c_M_request 148 = .ok (.iconst 0, 1) := by decide +kernel
theorem d_M_request_149 : decode c_M_request 149 = .ok (.invokevirtual 115, 3) := by decide +kernel
theorem d_M_request_152 : decode c_M_request 152 = .ok (.pop, 1) := by decide +kernel
theorem d_M_request_153 : decode c_M_request 153 = .ok (.aload_n 0, 1) := by decide +kernel
theorem d_M_request_154 : decode c_M_request 154 = .ok (.getstatic 121, 3) := by decide +kernel
theorem d_M_request_157 : decode c_M_request 157 = .ok (.putfield 31, 3) := by decide +kernel
theorem d_M_request_160 : decode c_M_request 160 = .ok (.aload_n 0, 1) := by decide +kernel
theorem d_M_request_161 : decode c_M_request 161 = .ok (.getfield 96, 3) := by decide +kernel
theorem d_M_request_164 : decode c_M_request 164 = .ok (.ireturn, 1) := by decide +kernel
def m_M_request : XM := ("CashLink$Machine", c_M_request, 3, (some .int), "request", [], 8, 183)
def b_M_request : XB := [(0, X_aload 0 1),
  (1, X_get 3 3),
  (4, X_invV 4 Y_J_isOn 0 []),
  (7, X_if (fun x => x = 0) 24),
  (10, X_aload 0 1),
  (11, X_get 3 5),
  (14, X_push (xv_r 49 2) 3),
  (17, X_acmp (fun q => ¬ q) 24),
  (20, X_push (xv_i 1) 1),
  (21, X_goto 25),
  (24, X_push (xv_i 0) 1),
  (25, X_invS Y_C_demand 1 []),
  (28, X_aload 0 1),
  (29, X_get 3 4),
  (32, X_iload 1 1),
  (33, X_invV 5 Y_D_mixOf 1 []),
  (36, X_push (xv_i (-1)) 1),
  (37, X_icmp (fun x y => x = y) 44),
  (40, X_push (xv_i 1) 1),
  (41, X_goto 45),
  (44, X_push (xv_i 0) 1),
  (45, X_istore 2 1),
  (46, X_iload 2 1),
  (47, X_if (fun x => x = 0) 69),
  (50, X_aload 0 1),
  (51, X_get 3 3),
  (54, X_push (xv_i 5) 1),
  (55, X_aload 0 1),
  (56, X_get 3 10),
  (59, X_invV 8 Y_A_size 0 []),
  (62, X_bin (fun x y => x + y)),
  (63, X_invV 4 Y_J_hasRoomFor 1 []),
  (66, X_if (fun x => ¬ x = 0) 79),
  (69, X_tn 13),
  (79, X_aload 0 1),
  (80, X_get 3 3),
  (83, X_new 6 6 xD6),
  (86, X_dup),
  (87, X_push (xv_i 1) 1),
  (88, X_aload 0 1),
  (89, X_get 3 0),
  (92, X_aload 0 1),
  (93, X_get 3 8),
  (96, X_push (xv_i 1) 1),
  (97, X_bin (fun x y => x + y)),
  (98, X_aload 0 1),
  (99, X_get 3 6),
  (102, X_iload 1 1),
  (103, X_push (xv_i 0) 1),
  (104, X_invI Y_E_init 6 []),
  (107, X_invV 4 Y_J_write 1 []),
  (110, X_aload 0 1),
  (111, X_dup),
  (112, X_get 3 8),
  (115, X_push (xv_i 1) 1),
  (116, X_bin (fun x y => x + y)),
  (117, X_put x_tI 3 8),
  (120, X_aload 0 1),
  (121, X_iload 1 1),
  (122, X_put x_tI 3 9),
  (125, X_aload 0 1),
  (126, X_get 3 1),
  (129, X_push (xv_r 50 0) 3),
  (132, X_aload 0 1),
  (133, X_get 3 0),
  (136, X_aload 0 1),
  (137, X_get 3 8),
  (140, X_aload 0 1),
  (141, X_get 3 6),
  (144, X_aload 0 1),
  (145, X_get 3 9),
  (148, X_push (xv_i 0) 1),
  (149, X_invV 1 Y_N_send 6 []),
  (152, X_pop),
  (153, X_aload 0 1),
  (154, X_push (xv_r 49 3) 3),
  (157, X_put x_tR 3 5),
  (160, X_aload 0 1),
  (161, X_get 3 8),
  (164, X_iret)]
set_option maxRecDepth 100000 in
theorem k_M_request : x_bok m_M_request b_M_request := by
  unfold b_M_request
  refine x_bok.cons (xs_aload_n d_M_request_0 rfl) ?_
  refine x_bok.cons (xs_get d_M_request_1 xc3 xw3 (by decide) q1_168 (Or.inl rfl)) ?_
  refine x_bok.cons (xs_invV d_M_request_4 xc4 sn_J_isOn is_J_isOn ⟨q2_67, q2_68, q2_69, q1_7⟩ (by decide) (by decide) rfl) ?_
  refine x_bok.cons (xs_if_eq d_M_request_7 (by decide)) ?_
  refine x_bok.cons (xs_aload_n d_M_request_10 rfl) ?_
  refine x_bok.cons (xs_get d_M_request_11 xc3 xw3 (by decide) q1_172 (Or.inl rfl)) ?_
  refine x_bok.cons (xs_gets d_M_request_14 (List.mem_of_getElem? (i := 2) rfl) q2_103 (Or.inl rfl)) ?_
  refine x_bok.cons (xs_acmp_ne d_M_request_17 (by decide)) ?_
  refine x_bok.cons (xs_iconst d_M_request_20 (by decide)) ?_
  refine x_bok.cons (xs_goto d_M_request_21 (by decide)) ?_
  refine x_bok.cons (xs_iconst d_M_request_24 (by decide)) ?_
  refine x_bok.cons (xs_invSN d_M_request_25 sn_C_demand is_C_demand ⟨q2_71, q2_72, q1_1⟩ (by decide) (by decide) rfl) ?_
  refine x_bok.cons (xs_aload_n d_M_request_28 rfl) ?_
  refine x_bok.cons (xs_get d_M_request_29 xc3 xw3 (by decide) q1_170 (Or.inl rfl)) ?_
  refine x_bok.cons (xs_iload_n d_M_request_32 rfl) ?_
  refine x_bok.cons (xs_invV d_M_request_33 xc5 sn_D_mixOf is_D_mixOf ⟨q2_118, q2_119, q2_120, q1_9⟩ (by decide) (by decide) rfl) ?_
  refine x_bok.cons (xs_iconst d_M_request_36 (by decide)) ?_
  refine x_bok.cons (xs_icmp_eq d_M_request_37 (by decide)) ?_
  refine x_bok.cons (xs_iconst d_M_request_40 (by decide)) ?_
  refine x_bok.cons (xs_goto d_M_request_41 (by decide)) ?_
  refine x_bok.cons (xs_iconst d_M_request_44 (by decide)) ?_
  refine x_bok.cons (xs_istore_n d_M_request_45 rfl (by decide)) ?_
  refine x_bok.cons (xs_iload_n d_M_request_46 rfl) ?_
  refine x_bok.cons (xs_if_eq d_M_request_47 (by decide)) ?_
  refine x_bok.cons (xs_aload_n d_M_request_50 rfl) ?_
  refine x_bok.cons (xs_get d_M_request_51 xc3 xw3 (by decide) q1_168 (Or.inl rfl)) ?_
  refine x_bok.cons (xs_iconst d_M_request_54 (by decide)) ?_
  refine x_bok.cons (xs_aload_n d_M_request_55 rfl) ?_
  refine x_bok.cons (xs_get d_M_request_56 xc3 xw3 (by decide) q1_177 (Or.inl rfl)) ?_
  refine x_bok.cons (xs_invV d_M_request_59 xc8 sn_A_size is_A_size ⟨q2_125, q2_126, q2_127, q1_5⟩ (by decide) (by decide) rfl) ?_
  refine x_bok.cons (xs_iadd d_M_request_62) ?_
  refine x_bok.cons (xs_invV d_M_request_63 xc4 sn_J_hasRoomFor is_J_hasRoomFor ⟨q2_129, q2_130, q2_131, q1_7⟩ (by decide) (by decide) rfl) ?_
  refine x_bok.cons (xs_if_ne d_M_request_66 (by decide)) ?_
  refine x_bok.cons (xs_tnS (names := ["java/lang/RuntimeException", "java/lang/Exception"]) d_M_request_69 d_M_request_72 d_M_request_73 d_M_request_75 d_M_request_78 xc13 rfl (by decide +kernel) (by decide +kernel) (List.mem_of_getElem? (i := 2) rfl) x_exin (by decide +kernel) rfl (by decide)) ?_
  refine x_bok.cons (xs_aload_n d_M_request_79 rfl) ?_
  refine x_bok.cons (xs_get d_M_request_80 xc3 xw3 (by decide) q1_168 (Or.inl rfl)) ?_
  refine x_bok.cons (xs_new d_M_request_83 xc6 xw6 xt6 q2_150 q2_151 q1_21 xd6 rfl) ?_
  refine x_bok.cons (xs_dup d_M_request_86) ?_
  refine x_bok.cons (xs_iconst d_M_request_87 (by decide)) ?_
  refine x_bok.cons (xs_aload_n d_M_request_88 rfl) ?_
  refine x_bok.cons (xs_get d_M_request_89 xc3 xw3 (by decide) q1_165 (Or.inl rfl)) ?_
  refine x_bok.cons (xs_aload_n d_M_request_92 rfl) ?_
  refine x_bok.cons (xs_get d_M_request_93 xc3 xw3 (by decide) q1_175 (Or.inl rfl)) ?_
  refine x_bok.cons (xs_iconst d_M_request_96 (by decide)) ?_
  refine x_bok.cons (xs_iadd d_M_request_97) ?_
  refine x_bok.cons (xs_aload_n d_M_request_98 rfl) ?_
  refine x_bok.cons (xs_get d_M_request_99 xc3 xw3 (by decide) q1_173 (Or.inl rfl)) ?_
  refine x_bok.cons (xs_iload_n d_M_request_102 rfl) ?_
  refine x_bok.cons (xs_iconst d_M_request_103 (by decide)) ?_
  refine x_bok.cons (xs_invIN d_M_request_104 sn_E_init is_E_init ⟨q2_152, q2_153, q2_154, q1_21⟩ (by decide) rfl (by decide) rfl) ?_
  refine x_bok.cons (xs_invV d_M_request_107 xc4 sn_J_write is_J_write ⟨q2_178, q2_179, q2_180, q1_7⟩ (by decide) (by decide) rfl) ?_
  refine x_bok.cons (xs_aload_n d_M_request_110 rfl) ?_
  refine x_bok.cons (xs_dup d_M_request_111) ?_
  refine x_bok.cons (xs_get d_M_request_112 xc3 xw3 (by decide) q1_175 (Or.inl rfl)) ?_
  refine x_bok.cons (xs_iconst d_M_request_115 (by decide)) ?_
  refine x_bok.cons (xs_iadd d_M_request_116) ?_
  refine x_bok.cons (xs_put d_M_request_117 xc3 xw3 xt3 xn3 (by decide) q1_175 (Or.inl rfl) rfl rfl x_fitI) ?_
  refine x_bok.cons (xs_aload_n d_M_request_120 rfl) ?_
  refine x_bok.cons (xs_iload_n d_M_request_121 rfl) ?_
  refine x_bok.cons (xs_put d_M_request_122 xc3 xw3 xt3 xn3 (by decide) q1_176 (Or.inl rfl) rfl rfl x_fitI) ?_
  refine x_bok.cons (xs_aload_n d_M_request_125 rfl) ?_
  refine x_bok.cons (xs_get d_M_request_126 xc3 xw3 (by decide) q1_166 (Or.inl rfl)) ?_
  refine x_bok.cons (xs_gets d_M_request_129 (List.mem_of_getElem? (i := 4) rfl) q3_21 (Or.inl rfl)) ?_
  refine x_bok.cons (xs_aload_n d_M_request_132 rfl) ?_
  refine x_bok.cons (xs_get d_M_request_133 xc3 xw3 (by decide) q1_165 (Or.inl rfl)) ?_
  refine x_bok.cons (xs_aload_n d_M_request_136 rfl) ?_
  refine x_bok.cons (xs_get d_M_request_137 xc3 xw3 (by decide) q1_175 (Or.inl rfl)) ?_
  refine x_bok.cons (xs_aload_n d_M_request_140 rfl) ?_
  refine x_bok.cons (xs_get d_M_request_141 xc3 xw3 (by decide) q1_173 (Or.inl rfl)) ?_
  refine x_bok.cons (xs_aload_n d_M_request_144 rfl) ?_
  refine x_bok.cons (xs_get d_M_request_145 xc3 xw3 (by decide) q1_176 (Or.inl rfl)) ?_
  refine x_bok.cons (xs_iconst d_M_request_148 (by decide)) ?_
  refine x_bok.cons (xs_invV d_M_request_149 xc1 sn_N_send is_N_send ⟨q3_23, q3_24, q3_25, q1_2⟩ (by decide) (by decide) rfl) ?_
  refine x_bok.cons (xs_pop d_M_request_152) ?_
  refine x_bok.cons (xs_aload_n d_M_request_153 rfl) ?_
  refine x_bok.cons (xs_gets d_M_request_154 (List.mem_of_getElem? (i := 3) rfl) q3_54 (Or.inl rfl)) ?_
  refine x_bok.cons (xs_put d_M_request_157 xc3 xw3 xt3 xn3 (by decide) q1_172 (Or.inl rfl) rfl rfl x_fitO) ?_
  refine x_bok.cons (xs_aload_n d_M_request_160 rfl) ?_
  refine x_bok.cons (xs_get d_M_request_161 xc3 xw3 (by decide) q1_175 (Or.inl rfl)) ?_
  refine x_bok.cons (xs_iret d_M_request_164 rfl) ?_
  exact x_bok.nil
set_option maxRecDepth 100000 in
theorem mn_M_request : x_bmn b_M_request := by
  unfold b_M_request
  refine x_bmn.cons (xm_aload) ?_
  refine x_bmn.cons (xm_get) ?_
  refine x_bmn.cons (xm_invV ym_J_isOn) ?_
  refine x_bmn.cons (xm_if) ?_
  refine x_bmn.cons (xm_aload) ?_
  refine x_bmn.cons (xm_get) ?_
  refine x_bmn.cons (xm_push) ?_
  refine x_bmn.cons (xm_acmp) ?_
  refine x_bmn.cons (xm_push) ?_
  refine x_bmn.cons (xm_goto) ?_
  refine x_bmn.cons (xm_push) ?_
  refine x_bmn.cons (xm_invS ym_C_demand) ?_
  refine x_bmn.cons (xm_aload) ?_
  refine x_bmn.cons (xm_get) ?_
  refine x_bmn.cons (xm_iload) ?_
  refine x_bmn.cons (xm_invV ym_D_mixOf) ?_
  refine x_bmn.cons (xm_push) ?_
  refine x_bmn.cons (xm_icmp) ?_
  refine x_bmn.cons (xm_push) ?_
  refine x_bmn.cons (xm_goto) ?_
  refine x_bmn.cons (xm_push) ?_
  refine x_bmn.cons (xm_istore) ?_
  refine x_bmn.cons (xm_iload) ?_
  refine x_bmn.cons (xm_if) ?_
  refine x_bmn.cons (xm_aload) ?_
  refine x_bmn.cons (xm_get) ?_
  refine x_bmn.cons (xm_push) ?_
  refine x_bmn.cons (xm_aload) ?_
  refine x_bmn.cons (xm_get) ?_
  refine x_bmn.cons (xm_invV ym_A_size) ?_
  refine x_bmn.cons (xm_bin) ?_
  refine x_bmn.cons (xm_invV ym_J_hasRoomFor) ?_
  refine x_bmn.cons (xm_if) ?_
  refine x_bmn.cons (xm_tn) ?_
  refine x_bmn.cons (xm_aload) ?_
  refine x_bmn.cons (xm_get) ?_
  refine x_bmn.cons (xm_new) ?_
  refine x_bmn.cons (xm_dup) ?_
  refine x_bmn.cons (xm_push) ?_
  refine x_bmn.cons (xm_aload) ?_
  refine x_bmn.cons (xm_get) ?_
  refine x_bmn.cons (xm_aload) ?_
  refine x_bmn.cons (xm_get) ?_
  refine x_bmn.cons (xm_push) ?_
  refine x_bmn.cons (xm_bin) ?_
  refine x_bmn.cons (xm_aload) ?_
  refine x_bmn.cons (xm_get) ?_
  refine x_bmn.cons (xm_iload) ?_
  refine x_bmn.cons (xm_push) ?_
  refine x_bmn.cons (xm_invI ym_E_init) ?_
  refine x_bmn.cons (xm_invV ym_J_write) ?_
  refine x_bmn.cons (xm_aload) ?_
  refine x_bmn.cons (xm_dup) ?_
  refine x_bmn.cons (xm_get) ?_
  refine x_bmn.cons (xm_push) ?_
  refine x_bmn.cons (xm_bin) ?_
  refine x_bmn.cons (xm_put) ?_
  refine x_bmn.cons (xm_aload) ?_
  refine x_bmn.cons (xm_iload) ?_
  refine x_bmn.cons (xm_put) ?_
  refine x_bmn.cons (xm_aload) ?_
  refine x_bmn.cons (xm_get) ?_
  refine x_bmn.cons (xm_push) ?_
  refine x_bmn.cons (xm_aload) ?_
  refine x_bmn.cons (xm_get) ?_
  refine x_bmn.cons (xm_aload) ?_
  refine x_bmn.cons (xm_get) ?_
  refine x_bmn.cons (xm_aload) ?_
  refine x_bmn.cons (xm_get) ?_
  refine x_bmn.cons (xm_aload) ?_
  refine x_bmn.cons (xm_get) ?_
  refine x_bmn.cons (xm_push) ?_
  refine x_bmn.cons (xm_invV ym_N_send) ?_
  refine x_bmn.cons (xm_pop) ?_
  refine x_bmn.cons (xm_aload) ?_
  refine x_bmn.cons (xm_push) ?_
  refine x_bmn.cons (xm_put) ?_
  refine x_bmn.cons (xm_aload) ?_
  refine x_bmn.cons (xm_get) ?_
  refine x_bmn.cons (xm_iret) ?_
  exact x_bmn.nil
theorem is_M_request : x_Is y_M_request m_M_request := x_is_code q2_117
def Y_M_request : XMeth := x_do 3 b_M_request
theorem sn_M_request : x_Snd y_M_request m_M_request Y_M_request := x_snd_of (by decide) rfl rfl is_M_request k_M_request
theorem ym_M_request : x_Ymn Y_M_request := x_ymn_of mn_M_request
/- CashLink.ask(II)I -/
abbrev c_C_ask : ByteArray := prog_1_method_4_code
def y_C_ask : MethodName := ⟨"CashLink", "ask", "(II)I"⟩
theorem d_C_ask_0 : decode c_C_ask 0 = .ok (.aload_n 0, 1) := by decide +kernel
theorem d_C_ask_1 : decode c_C_ask 1 = .ok (.iload_n 1, 1) := by decide +kernel
theorem d_C_ask_2 : decode c_C_ask 2 = .ok (.invokevirtual 38, 3) := by decide +kernel
theorem d_C_ask_5 : decode c_C_ask 5 = .ok (.astore_n 3, 1) := by decide +kernel
theorem d_C_ask_6 : decode c_C_ask 6 = .ok (.iload_n 2, 1) := by decide +kernel
theorem d_C_ask_7 : decode c_C_ask 7 = .ok (.iconst 5, 1) := by decide +kernel
theorem d_C_ask_8 : decode c_C_ask 8 = .ok (.if_icmp .lt 14, 3) := by decide +kernel
theorem d_C_ask_11 : decode c_C_ask 11 = .ok (.iload_n 2, 1) := by decide +kernel
theorem d_C_ask_12 : decode c_C_ask 12 = .ok (.sipush 1000, 3) := by decide +kernel
theorem d_C_ask_15 : decode c_C_ask 15 = .ok (.if_icmp .gt 7, 3) := by decide +kernel
theorem d_C_ask_18 : decode c_C_ask 18 = .ok (.iconst 1, 1) := by decide +kernel
theorem d_C_ask_19 : decode c_C_ask 19 = .ok (.goto 4, 3) := by decide +kernel
theorem d_C_ask_22 : decode c_C_ask 22 = .ok (.iconst 0, 1) := by decide +kernel
theorem d_C_ask_23 : decode c_C_ask 23 = .ok (.invokestatic 46, 3) := by decide +kernel
theorem d_C_ask_26 : decode c_C_ask 26 = .ok (.aload_n 3, 1) := by decide +kernel
theorem d_C_ask_27 : decode c_C_ask 27 = .ok (.iload_n 2, 1) := by decide +kernel
theorem d_C_ask_28 : decode c_C_ask 28 = .ok (.invokevirtual 57, 3) := by decide +kernel
theorem d_C_ask_31 : decode c_C_ask 31 = .ok (.ireturn, 1) := by decide +kernel
def m_C_ask : XM := ("CashLink", c_C_ask, 4, (some .int), "ask", [], 9, 205)
def b_C_ask : XB := [(0, X_aload 0 1),
  (1, X_iload 1 1),
  (2, X_invV 0 Y_C_machineAt 1 []),
  (5, X_astore 3 1),
  (6, X_iload 2 1),
  (7, X_push (xv_i 5) 1),
  (8, X_icmp (fun x y => x < y) 22),
  (11, X_iload 2 1),
  (12, X_push (xv_i 1000) 3),
  (15, X_icmp (fun x y => y < x) 22),
  (18, X_push (xv_i 1) 1),
  (19, X_goto 23),
  (22, X_push (xv_i 0) 1),
  (23, X_invS Y_C_allow 1 []),
  (26, X_aload 3 1),
  (27, X_iload 2 1),
  (28, X_invV 3 Y_M_request 1 []),
  (31, X_iret)]
set_option maxRecDepth 100000 in
theorem k_C_ask : x_bok m_C_ask b_C_ask := by
  unfold b_C_ask
  refine x_bok.cons (xs_aload_n d_C_ask_0 rfl) ?_
  refine x_bok.cons (xs_iload_n d_C_ask_1 rfl) ?_
  refine x_bok.cons (xs_invV d_C_ask_2 xc0 sn_C_machineAt is_C_machineAt ⟨q1_223, q1_225, (x_sel (x_p1 (List.mem_of_getElem? (i := 0) rfl))), q1_1⟩ (by decide) (by decide) rfl) ?_
  refine x_bok.cons (xs_astore_n d_C_ask_5 rfl (by decide)) ?_
  refine x_bok.cons (xs_iload_n d_C_ask_6 rfl) ?_
  refine x_bok.cons (xs_iconst d_C_ask_7 (by decide)) ?_
  refine x_bok.cons (xs_icmp_lt d_C_ask_8 (by decide)) ?_
  refine x_bok.cons (xs_iload_n d_C_ask_11 rfl) ?_
  refine x_bok.cons (xs_sipush d_C_ask_12 (by decide)) ?_
  refine x_bok.cons (xs_icmp_gt d_C_ask_15 (by decide)) ?_
  refine x_bok.cons (xs_iconst d_C_ask_18 (by decide)) ?_
  refine x_bok.cons (xs_goto d_C_ask_19 (by decide)) ?_
  refine x_bok.cons (xs_iconst d_C_ask_22 (by decide)) ?_
  refine x_bok.cons (xs_invS d_C_ask_23 sn_C_allow is_C_allow ⟨q1_227, q1_228, q1_1⟩ (by decide) (by decide) rfl) ?_
  refine x_bok.cons (xs_aload_n d_C_ask_26 rfl) ?_
  refine x_bok.cons (xs_iload_n d_C_ask_27 rfl) ?_
  refine x_bok.cons (xs_invV d_C_ask_28 xc3 sn_M_request is_M_request ⟨q2_114, q2_115, q2_116, q1_8⟩ (by decide) (by decide) rfl) ?_
  refine x_bok.cons (xs_iret d_C_ask_31 rfl) ?_
  exact x_bok.nil
set_option maxRecDepth 100000 in
theorem mn_C_ask : x_bmn b_C_ask := by
  unfold b_C_ask
  refine x_bmn.cons (xm_aload) ?_
  refine x_bmn.cons (xm_iload) ?_
  refine x_bmn.cons (xm_invV ym_C_machineAt) ?_
  refine x_bmn.cons (xm_astore) ?_
  refine x_bmn.cons (xm_iload) ?_
  refine x_bmn.cons (xm_push) ?_
  refine x_bmn.cons (xm_icmp) ?_
  refine x_bmn.cons (xm_iload) ?_
  refine x_bmn.cons (xm_push) ?_
  refine x_bmn.cons (xm_icmp) ?_
  refine x_bmn.cons (xm_push) ?_
  refine x_bmn.cons (xm_goto) ?_
  refine x_bmn.cons (xm_push) ?_
  refine x_bmn.cons (xm_invS ym_C_allow) ?_
  refine x_bmn.cons (xm_aload) ?_
  refine x_bmn.cons (xm_iload) ?_
  refine x_bmn.cons (xm_invV ym_M_request) ?_
  refine x_bmn.cons (xm_iret) ?_
  exact x_bmn.nil
theorem is_C_ask : x_Is y_C_ask m_C_ask := x_is_code q2_113
def Y_C_ask : XMeth := x_do 4 b_C_ask
theorem sn_C_ask : x_Snd y_C_ask m_C_ask Y_C_ask := x_snd_of (by decide) rfl rfl is_C_ask k_C_ask
theorem ym_C_ask : x_Ymn Y_C_ask := x_ymn_of mn_C_ask
/- CashLinkLaw.ask(LCashLink;II[J)I -/
abbrev c_L_ask : ByteArray := method_5_code
def y_L_ask : MethodName := ⟨"CashLinkLaw", "ask", "(LCashLink;II[J)I"⟩
theorem d_L_ask_0 : decode c_L_ask 0 = .ok (.aload_n 3, 1) := by decide +kernel
theorem d_L_ask_1 : decode c_L_ask 1 = .ok (.iconst 0, 1) := by decide +kernel
theorem d_L_ask_2 : decode c_L_ask 2 = .ok (.aload_n 0, 1) := by decide +kernel
theorem d_L_ask_3 : decode c_L_ask 3 = .ok (.iload_n 1, 1) := by decide +kernel
theorem d_L_ask_4 : decode c_L_ask 4 = .ok (.iload_n 2, 1) := by decide +kernel
theorem d_L_ask_5 : decode c_L_ask 5 = .ok (.invokevirtual 21, 3) := by decide +kernel
theorem d_L_ask_8 : decode c_L_ask 8 = .ok (.i2l, 1) := by decide +kernel
theorem d_L_ask_9 : decode c_L_ask 9 = .ok (.lastore, 1) := by decide +kernel
theorem d_L_ask_10 : decode c_L_ask 10 = .ok (.goto 19, 3) := by decide +kernel
theorem d_L_ask_13 : decode c_L_ask 13 = .ok (.astore 4, 2) := by decide +kernel
theorem d_L_ask_15 : decode c_L_ask 15 = .ok (.iconst 1, 1) := by decide +kernel
theorem d_L_ask_16 : decode c_L_ask 16 = .ok (.ireturn, 1) := by decide +kernel
theorem d_L_ask_17 : decode c_L_ask 17 = .ok (.astore 4, 2) := by decide +kernel
theorem d_L_ask_19 : decode c_L_ask 19 = .ok (.iconst 2, 1) := by decide +kernel
theorem d_L_ask_20 : decode c_L_ask 20 = .ok (.ireturn, 1) := by decide +kernel
theorem d_L_ask_21 : decode c_L_ask 21 = .ok (.astore 4, 2) := by decide +kernel
theorem d_L_ask_23 : decode c_L_ask 23 = .ok (.iconst 3, 1) := by decide +kernel
theorem d_L_ask_24 : decode c_L_ask 24 = .ok (.ireturn, 1) := by decide +kernel
theorem d_L_ask_25 : decode c_L_ask 25 = .ok (.astore 4, 2) := by decide +kernel
theorem d_L_ask_27 : decode c_L_ask 27 = .ok (.iconst 4, 1) := by decide +kernel
theorem d_L_ask_28 : decode c_L_ask 28 = .ok (.ireturn, 1) := by decide +kernel
theorem d_L_ask_29 : decode c_L_ask 29 = .ok (.iconst 0, 1) := by decide +kernel
theorem d_L_ask_30 : decode c_L_ask 30 = .ok (.ireturn, 1) := by decide +kernel
def m_L_ask : XM := ("CashLinkLaw", c_L_ask, 5, (some .int), "ask", [(0, 10, 13, 13), (0, 10, 17, 15), (0, 10, 21, 25), (0, 10, 25, 27)], 10, 228)
theorem h_L_ask_5 : x_hok m_L_ask 5 [(11, 13), (12, 17), (13, 21), (14, 25)] := by
  intro ci h hc
  by_cases e0 : ci = 11
  · subst e0
    have hh : h = 13 := (Option.some.inj (hc.symm.trans (by rfl : x_catch [(11, 13), (12, 17), (13, 21), (14, 25)] 11 = some 13)))
    subst hh
    refine ⟨"java/lang/IllegalArgumentException", xT11, 0, [], ⟨0, 10, 13, 13⟩, [⟨0, 10, 17, 15⟩, ⟨0, 10, 21, 25⟩, ⟨0, 10, 25, 27⟩], rfl, rfl, rfl, rfl, by decide, q1_217, ?_⟩
    intro z hz
    cases hz
  by_cases e1 : ci = 12
  · subst e1
    have hh : h = 17 := (Option.some.inj (hc.symm.trans (by rfl : x_catch [(11, 13), (12, 17), (13, 21), (14, 25)] 12 = some 17)))
    subst hh
    refine ⟨"java/lang/IllegalStateException", xT12, 0, [⟨0, 10, 13, 13⟩], ⟨0, 10, 17, 15⟩, [⟨0, 10, 21, 25⟩, ⟨0, 10, 25, 27⟩], rfl, rfl, rfl, rfl, by decide, q1_218, ?_⟩
    intro z hz
    simp only [List.mem_cons, List.not_mem_nil, or_false] at hz
    rcases hz with rfl
    · exact Or.inr ⟨by decide, "java/lang/IllegalArgumentException", q1_217, x_inN 0 rfl⟩
  by_cases e2 : ci = 13
  · subst e2
    have hh : h = 21 := (Option.some.inj (hc.symm.trans (by rfl : x_catch [(11, 13), (12, 17), (13, 21), (14, 25)] 13 = some 21)))
    subst hh
    refine ⟨"java/lang/UnsupportedOperationException", xT13, 0, [⟨0, 10, 13, 13⟩, ⟨0, 10, 17, 15⟩], ⟨0, 10, 21, 25⟩, [⟨0, 10, 25, 27⟩], rfl, rfl, rfl, rfl, by decide, q2_108, ?_⟩
    intro z hz
    simp only [List.mem_cons, List.not_mem_nil, or_false] at hz
    rcases hz with rfl | rfl
    · exact Or.inr ⟨by decide, "java/lang/IllegalArgumentException", q1_217, x_inN 1 rfl⟩
    · exact Or.inr ⟨by decide, "java/lang/IllegalStateException", q1_218, x_inN 5 rfl⟩
  by_cases e3 : ci = 14
  · subst e3
    have hh : h = 25 := (Option.some.inj (hc.symm.trans (by rfl : x_catch [(11, 13), (12, 17), (13, 21), (14, 25)] 14 = some 25)))
    subst hh
    refine ⟨"java/lang/ArithmeticException", xT14, 0, [⟨0, 10, 13, 13⟩, ⟨0, 10, 17, 15⟩, ⟨0, 10, 21, 25⟩], ⟨0, 10, 25, 27⟩, [], rfl, rfl, rfl, rfl, by decide, q2_109, ?_⟩
    intro z hz
    simp only [List.mem_cons, List.not_mem_nil, or_false] at hz
    rcases hz with rfl | rfl | rfl
    · exact Or.inr ⟨by decide, "java/lang/IllegalArgumentException", q1_217, x_inN 2 rfl⟩
    · exact Or.inr ⟨by decide, "java/lang/IllegalStateException", q1_218, x_inN 6 rfl⟩
    · exact Or.inr ⟨by decide, "java/lang/UnsupportedOperationException", q2_108, x_inN 10 rfl⟩
  exfalso
  simp only [x_catch] at hc
  rw [if_neg (fun q => e0 q.symm)] at hc
  rw [if_neg (fun q => e1 q.symm)] at hc
  rw [if_neg (fun q => e2 q.symm)] at hc
  rw [if_neg (fun q => e3 q.symm)] at hc
  cases hc
def b_L_ask : XB := [(0, X_aload 3 1),
  (1, X_push (xv_i 0) 1),
  (2, X_aload 0 1),
  (3, X_iload 1 1),
  (4, X_iload 2 1),
  (5, X_invV 0 Y_C_ask 2 [(11, 13), (12, 17), (13, 21), (14, 25)]),
  (8, X_i2l),
  (9, X_last 1),
  (10, X_goto 29),
  (13, X_astore 4 2),
  (15, X_push (xv_i 1) 1),
  (16, X_iret),
  (17, X_astore 4 2),
  (19, X_push (xv_i 2) 1),
  (20, X_iret),
  (21, X_astore 4 2),
  (23, X_push (xv_i 3) 1),
  (24, X_iret),
  (25, X_astore 4 2),
  (27, X_push (xv_i 4) 1),
  (28, X_iret),
  (29, X_push (xv_i 0) 1),
  (30, X_iret)]
set_option maxRecDepth 100000 in
theorem k_L_ask : x_bok m_L_ask b_L_ask := by
  unfold b_L_ask
  refine x_bok.cons (xs_aload_n d_L_ask_0 rfl) ?_
  refine x_bok.cons (xs_iconst d_L_ask_1 (by decide)) ?_
  refine x_bok.cons (xs_aload_n d_L_ask_2 rfl) ?_
  refine x_bok.cons (xs_iload_n d_L_ask_3 rfl) ?_
  refine x_bok.cons (xs_iload_n d_L_ask_4 rfl) ?_
  refine x_bok.cons (xs_invV d_L_ask_5 xc0 sn_C_ask is_C_ask ⟨q2_110, q2_111, q2_112, q1_1⟩ (by decide) (by decide) h_L_ask_5) ?_
  refine x_bok.cons (xs_i2l d_L_ask_8) ?_
  refine x_bok.cons (xs_last d_L_ask_9 rfl) ?_
  refine x_bok.cons (xs_goto d_L_ask_10 (by decide)) ?_
  refine x_bok.cons (xs_astore d_L_ask_13 (by decide)) ?_
  refine x_bok.cons (xs_iconst d_L_ask_15 (by decide)) ?_
  refine x_bok.cons (xs_iret d_L_ask_16 rfl) ?_
  refine x_bok.cons (xs_astore d_L_ask_17 (by decide)) ?_
  refine x_bok.cons (xs_iconst d_L_ask_19 (by decide)) ?_
  refine x_bok.cons (xs_iret d_L_ask_20 rfl) ?_
  refine x_bok.cons (xs_astore d_L_ask_21 (by decide)) ?_
  refine x_bok.cons (xs_iconst d_L_ask_23 (by decide)) ?_
  refine x_bok.cons (xs_iret d_L_ask_24 rfl) ?_
  refine x_bok.cons (xs_astore d_L_ask_25 (by decide)) ?_
  refine x_bok.cons (xs_iconst d_L_ask_27 (by decide)) ?_
  refine x_bok.cons (xs_iret d_L_ask_28 rfl) ?_
  refine x_bok.cons (xs_iconst d_L_ask_29 (by decide)) ?_
  refine x_bok.cons (xs_iret d_L_ask_30 rfl) ?_
  exact x_bok.nil
set_option maxRecDepth 100000 in
theorem mn_L_ask : x_bmn b_L_ask := by
  unfold b_L_ask
  refine x_bmn.cons (xm_aload) ?_
  refine x_bmn.cons (xm_push) ?_
  refine x_bmn.cons (xm_aload) ?_
  refine x_bmn.cons (xm_iload) ?_
  refine x_bmn.cons (xm_iload) ?_
  refine x_bmn.cons (xm_invV ym_C_ask) ?_
  refine x_bmn.cons (xm_i2l) ?_
  refine x_bmn.cons (xm_last) ?_
  refine x_bmn.cons (xm_goto) ?_
  refine x_bmn.cons (xm_astore) ?_
  refine x_bmn.cons (xm_push) ?_
  refine x_bmn.cons (xm_iret) ?_
  refine x_bmn.cons (xm_astore) ?_
  refine x_bmn.cons (xm_push) ?_
  refine x_bmn.cons (xm_iret) ?_
  refine x_bmn.cons (xm_astore) ?_
  refine x_bmn.cons (xm_push) ?_
  refine x_bmn.cons (xm_iret) ?_
  refine x_bmn.cons (xm_astore) ?_
  refine x_bmn.cons (xm_push) ?_
  refine x_bmn.cons (xm_iret) ?_
  refine x_bmn.cons (xm_push) ?_
  refine x_bmn.cons (xm_iret) ?_
  exact x_bmn.nil
theorem is_L_ask : x_Is y_L_ask m_L_ask := x_is_with q2_107
def Y_L_ask : XMeth := x_do 5 b_L_ask
theorem sn_L_ask : x_Snd y_L_ask m_L_ask Y_L_ask := x_snd_of (by decide) rfl rfl is_L_ask k_L_ask
theorem ym_L_ask : x_Ymn Y_L_ask := x_ymn_of mn_L_ask
/- CashLink$Entry.<init>(IIII)V -/
abbrev c_E_init_2 : ByteArray := prog_4_method_1_code
def y_E_init_2 : MethodName := ⟨"CashLink$Entry", "<init>", "(IIII)V"⟩
theorem d_E_init_2_0 : decode c_E_init_2 0 = .ok (.aload_n 0, 1) := by decide +kernel
theorem d_E_init_2_1 : decode c_E_init_2 1 = .ok (.iload_n 1, 1) := by decide +kernel
theorem d_E_init_2_2 : decode c_E_init_2 2 = .ok (.iload_n 2, 1) := by decide +kernel
theorem d_E_init_2_3 : decode c_E_init_2 3 = .ok (.iload_n 3, 1) := by decide +kernel
theorem d_E_init_2_4 : decode c_E_init_2 4 = .ok (.iconst 0, 1) := by decide +kernel
theorem d_E_init_2_5 : decode c_E_init_2 5 = .ok (.iload 4, 2) := by decide +kernel
theorem d_E_init_2_7 : decode c_E_init_2 7 = .ok (.iconst 0, 1) := by decide +kernel
theorem d_E_init_2_8 : decode c_E_init_2 8 = .ok (.invokespecial 28, 3) := by decide +kernel
theorem d_E_init_2_11 : decode c_E_init_2 11 = .ok (.return_, 1) := by decide +kernel
def m_E_init_2 : XM := ("CashLink$Entry", c_E_init_2, 5, none, "<init>", [], 3, 66)
def b_E_init_2 : XB := [(0, X_aload 0 1),
  (1, X_iload 1 1),
  (2, X_iload 2 1),
  (3, X_iload 3 1),
  (4, X_push (xv_i 0) 1),
  (5, X_iload 4 2),
  (7, X_push (xv_i 0) 1),
  (8, X_invI Y_E_init 6 []),
  (11, X_vret)]
set_option maxRecDepth 100000 in
theorem k_E_init_2 : x_bok m_E_init_2 b_E_init_2 := by
  unfold b_E_init_2
  refine x_bok.cons (xs_aload_n d_E_init_2_0 rfl) ?_
  refine x_bok.cons (xs_iload_n d_E_init_2_1 rfl) ?_
  refine x_bok.cons (xs_iload_n d_E_init_2_2 rfl) ?_
  refine x_bok.cons (xs_iload_n d_E_init_2_3 rfl) ?_
  refine x_bok.cons (xs_iconst d_E_init_2_4 (by decide)) ?_
  refine x_bok.cons (xs_iload d_E_init_2_5) ?_
  refine x_bok.cons (xs_iconst d_E_init_2_7 (by decide)) ?_
  refine x_bok.cons (xs_invI d_E_init_2_8 sn_E_init is_E_init ⟨q3_74, q2_153, q2_154, q1_21⟩ (by decide) rfl (by decide) rfl) ?_
  refine x_bok.cons (xs_vret d_E_init_2_11 rfl) ?_
  exact x_bok.nil
set_option maxRecDepth 100000 in
theorem mn_E_init_2 : x_bmn b_E_init_2 := by
  unfold b_E_init_2
  refine x_bmn.cons (xm_aload) ?_
  refine x_bmn.cons (xm_iload) ?_
  refine x_bmn.cons (xm_iload) ?_
  refine x_bmn.cons (xm_iload) ?_
  refine x_bmn.cons (xm_push) ?_
  refine x_bmn.cons (xm_iload) ?_
  refine x_bmn.cons (xm_push) ?_
  refine x_bmn.cons (xm_invI ym_E_init) ?_
  refine x_bmn.cons (xm_vret) ?_
  exact x_bmn.nil
theorem is_E_init_2 : x_Is y_E_init_2 m_E_init_2 := x_is_code q3_73
def Y_E_init_2 : XMeth := x_do 5 b_E_init_2
theorem sn_E_init_2 : x_Snd y_E_init_2 m_E_init_2 Y_E_init_2 := x_snd_of (by decide) rfl rfl is_E_init_2 k_E_init_2
theorem ym_E_init_2 : x_Ymn Y_E_init_2 := x_ymn_of mn_E_init_2
/- CashLink$Machine.voidRest(I)V -/
abbrev c_M_voidRest : ByteArray := prog_6_method_12_code
def y_M_voidRest : MethodName := ⟨"CashLink$Machine", "voidRest", "(I)V"⟩
theorem d_M_voidRest_0 : decode c_M_voidRest 0 = .ok (.aload_n 0, 1) := by decide +kernel
theorem d_M_voidRest_1 : decode c_M_voidRest 1 = .ok (.getfield 106, 3) := by decide +kernel
theorem d_M_voidRest_4 : decode c_M_voidRest 4 = .ok (.iload_n 1, 1) := by decide +kernel
theorem d_M_voidRest_5 : decode c_M_voidRest 5 = .ok (.isub, 1) := by decide +kernel
theorem d_M_voidRest_6 : decode c_M_voidRest 6 = .ok (.istore_n 2, 1) := by decide +kernel
theorem d_M_voidRest_7 : decode c_M_voidRest 7 = .ok (.iload_n 2, 1) := by decide +kernel
theorem d_M_voidRest_8 : decode c_M_voidRest 8 = .ok (.ifCond .le 60, 3) := by decide +kernel
theorem d_M_voidRest_11 : decode c_M_voidRest 11 = .ok (.new 94, 3) := by decide +kernel
theorem d_M_voidRest_14 : decode c_M_voidRest 14 = .ok (.dup, 1) := by decide +kernel
theorem d_M_voidRest_15 : decode c_M_voidRest 15 = .ok (.iconst 4, 1) := by decide +kernel
theorem d_M_voidRest_16 : decode c_M_voidRest 16 = .ok (.aload_n 0, 1) := by decide +kernel
theorem d_M_voidRest_17 : decode c_M_voidRest 17 = .ok (.getfield 41, 3) := by decide +kernel
theorem d_M_voidRest_20 : decode c_M_voidRest 20 = .ok (.aload_n 0, 1) := by decide +kernel
theorem d_M_voidRest_21 : decode c_M_voidRest 21 = .ok (.getfield 96, 3) := by decide +kernel
theorem d_M_voidRest_24 : decode c_M_voidRest 24 = .ok (.iload_n 2, 1) := by decide +kernel
theorem d_M_voidRest_25 : decode c_M_voidRest 25 = .ok (.invokespecial 178, 3) := by decide +kernel
theorem d_M_voidRest_28 : decode c_M_voidRest 28 = .ok (.astore_n 3, 1) := by decide +kernel
theorem d_M_voidRest_29 : decode c_M_voidRest 29 = .ok (.aload_n 0, 1) := by decide +kernel
theorem d_M_voidRest_30 : decode c_M_voidRest 30 = .ok (.getfield 14, 3) := by decide +kernel
theorem d_M_voidRest_33 : decode c_M_voidRest 33 = .ok (.aload_n 3, 1) := by decide +kernel
theorem d_M_voidRest_34 : decode c_M_voidRest 34 = .ok (.invokevirtual 102, 3) := by decide +kernel
theorem d_M_voidRest_37 : decode c_M_voidRest 37 = .ok (.aload_n 0, 1) := by decide +kernel
theorem d_M_voidRest_38 : decode c_M_voidRest 38 = .ok (.getfield 37, 3) := by decide +kernel
theorem d_M_voidRest_41 : decode c_M_voidRest 41 = .ok (.aload_n 3, 1) := by decide +kernel
theorem d_M_voidRest_42 : decode c_M_voidRest 42 = .ok (.invokevirtual 191, 3) := by decide +kernel
theorem d_M_voidRest_45 : decode c_M_voidRest 45 = .ok (.pop, 1) := by decide +kernel
theorem d_M_voidRest_46 : decode c_M_voidRest 46 = .ok (.aload_n 0, 1) := by decide +kernel
theorem d_M_voidRest_47 : decode c_M_voidRest 47 = .ok (.getfield 45, 3) := by decide +kernel
theorem d_M_voidRest_50 : decode c_M_voidRest 50 = .ok (.getstatic 131, 3) := by decide +kernel
theorem d_M_voidRest_53 : decode c_M_voidRest 53 = .ok (.aload_n 0, 1) := by decide +kernel
theorem d_M_voidRest_54 : decode c_M_voidRest 54 = .ok (.getfield 41, 3) := by decide +kernel
theorem d_M_voidRest_57 : decode c_M_voidRest 57 = .ok (.aload_n 0, 1) := by decide +kernel
theorem d_M_voidRest_58 : decode c_M_voidRest 58 = .ok (.getfield 96, 3) := by decide +kernel
theorem d_M_voidRest_61 : decode c_M_voidRest 61 = .ok (.iconst 0, 1) := by decide +kernel
theorem d_M_voidRest_62 : decode c_M_voidRest 62 = .ok (.iload_n 2, 1) := by decide +kernel
theorem d_M_voidRest_63 : decode c_M_voidRest 63 = .ok (.iconst 0, 1) := by decide +kernel
theorem d_M_voidRest_64 : decode c_M_voidRest 64 = .ok (.invokevirtual 115, 3) := by decide +kernel
theorem d_M_voidRest_67 : decode c_M_voidRest 67 = .ok (.pop, 1) := by decide +kernel
theorem d_M_voidRest_68 : decode c_M_voidRest 68 = .ok (.return_, 1) := by decide +kernel
def m_M_voidRest : XM := ("CashLink$Machine", c_M_voidRest, 4, none, "voidRest", [], 8, 183)
def b_M_voidRest : XB := [(0, X_aload 0 1),
  (1, X_get 3 9),
  (4, X_iload 1 1),
  (5, X_bin (fun x y => x - y)),
  (6, X_istore 2 1),
  (7, X_iload 2 1),
  (8, X_if (fun x => x ≤ 0) 68),
  (11, X_new 6 6 xD6),
  (14, X_dup),
  (15, X_push (xv_i 4) 1),
  (16, X_aload 0 1),
  (17, X_get 3 0),
  (20, X_aload 0 1),
  (21, X_get 3 8),
  (24, X_iload 2 1),
  (25, X_invI Y_E_init_2 4 []),
  (28, X_astore 3 1),
  (29, X_aload 0 1),
  (30, X_get 3 3),
  (33, X_aload 3 1),
  (34, X_invV 4 Y_J_write 1 []),
  (37, X_aload 0 1),
  (38, X_get 3 10),
  (41, X_aload 3 1),
  (42, X_invV 8 Y_A_add 1 []),
  (45, X_pop),
  (46, X_aload 0 1),
  (47, X_get 3 1),
  (50, X_push (xv_r 50 2) 3),
  (53, X_aload 0 1),
  (54, X_get 3 0),
  (57, X_aload 0 1),
  (58, X_get 3 8),
  (61, X_push (xv_i 0) 1),
  (62, X_iload 2 1),
  (63, X_push (xv_i 0) 1),
  (64, X_invV 1 Y_N_send 6 []),
  (67, X_pop),
  (68, X_vret)]
set_option maxRecDepth 100000 in
theorem k_M_voidRest : x_bok m_M_voidRest b_M_voidRest := by
  unfold b_M_voidRest
  refine x_bok.cons (xs_aload_n d_M_voidRest_0 rfl) ?_
  refine x_bok.cons (xs_get d_M_voidRest_1 xc3 xw3 (by decide) q1_176 (Or.inl rfl)) ?_
  refine x_bok.cons (xs_iload_n d_M_voidRest_4 rfl) ?_
  refine x_bok.cons (xs_isub d_M_voidRest_5) ?_
  refine x_bok.cons (xs_istore_n d_M_voidRest_6 rfl (by decide)) ?_
  refine x_bok.cons (xs_iload_n d_M_voidRest_7 rfl) ?_
  refine x_bok.cons (xs_if_le d_M_voidRest_8 (by decide)) ?_
  refine x_bok.cons (xs_new d_M_voidRest_11 xc6 xw6 xt6 q2_150 q2_151 q1_21 xd6 rfl) ?_
  refine x_bok.cons (xs_dup d_M_voidRest_14) ?_
  refine x_bok.cons (xs_iconst d_M_voidRest_15 (by decide)) ?_
  refine x_bok.cons (xs_aload_n d_M_voidRest_16 rfl) ?_
  refine x_bok.cons (xs_get d_M_voidRest_17 xc3 xw3 (by decide) q1_165 (Or.inl rfl)) ?_
  refine x_bok.cons (xs_aload_n d_M_voidRest_20 rfl) ?_
  refine x_bok.cons (xs_get d_M_voidRest_21 xc3 xw3 (by decide) q1_175 (Or.inl rfl)) ?_
  refine x_bok.cons (xs_iload_n d_M_voidRest_24 rfl) ?_
  refine x_bok.cons (xs_invI d_M_voidRest_25 sn_E_init_2 is_E_init_2 ⟨q3_71, q3_72, q3_73, q1_21⟩ (by decide) rfl (by decide) rfl) ?_
  refine x_bok.cons (xs_astore_n d_M_voidRest_28 rfl (by decide)) ?_
  refine x_bok.cons (xs_aload_n d_M_voidRest_29 rfl) ?_
  refine x_bok.cons (xs_get d_M_voidRest_30 xc3 xw3 (by decide) q1_168 (Or.inl rfl)) ?_
  refine x_bok.cons (xs_aload_n d_M_voidRest_33 rfl) ?_
  refine x_bok.cons (xs_invV d_M_voidRest_34 xc4 sn_J_write is_J_write ⟨q2_178, q2_179, q2_180, q1_7⟩ (by decide) (by decide) rfl) ?_
  refine x_bok.cons (xs_aload_n d_M_voidRest_37 rfl) ?_
  refine x_bok.cons (xs_get d_M_voidRest_38 xc3 xw3 (by decide) q1_177 (Or.inl rfl)) ?_
  refine x_bok.cons (xs_aload_n d_M_voidRest_41 rfl) ?_
  refine x_bok.cons (xs_invV d_M_voidRest_42 xc8 sn_A_add is_A_add ⟨q3_75, q2_183, q2_184, q1_5⟩ (by decide) (by decide) rfl) ?_
  refine x_bok.cons (xs_pop d_M_voidRest_45) ?_
  refine x_bok.cons (xs_aload_n d_M_voidRest_46 rfl) ?_
  refine x_bok.cons (xs_get d_M_voidRest_47 xc3 xw3 (by decide) q1_166 (Or.inl rfl)) ?_
  refine x_bok.cons (xs_gets d_M_voidRest_50 (List.mem_of_getElem? (i := 6) rfl) q3_76 (Or.inl rfl)) ?_
  refine x_bok.cons (xs_aload_n d_M_voidRest_53 rfl) ?_
  refine x_bok.cons (xs_get d_M_voidRest_54 xc3 xw3 (by decide) q1_165 (Or.inl rfl)) ?_
  refine x_bok.cons (xs_aload_n d_M_voidRest_57 rfl) ?_
  refine x_bok.cons (xs_get d_M_voidRest_58 xc3 xw3 (by decide) q1_175 (Or.inl rfl)) ?_
  refine x_bok.cons (xs_iconst d_M_voidRest_61 (by decide)) ?_
  refine x_bok.cons (xs_iload_n d_M_voidRest_62 rfl) ?_
  refine x_bok.cons (xs_iconst d_M_voidRest_63 (by decide)) ?_
  refine x_bok.cons (xs_invV d_M_voidRest_64 xc1 sn_N_send is_N_send ⟨q3_23, q3_24, q3_25, q1_2⟩ (by decide) (by decide) rfl) ?_
  refine x_bok.cons (xs_pop d_M_voidRest_67) ?_
  refine x_bok.cons (xs_vret d_M_voidRest_68 rfl) ?_
  exact x_bok.nil
set_option maxRecDepth 100000 in
theorem mn_M_voidRest : x_bmn b_M_voidRest := by
  unfold b_M_voidRest
  refine x_bmn.cons (xm_aload) ?_
  refine x_bmn.cons (xm_get) ?_
  refine x_bmn.cons (xm_iload) ?_
  refine x_bmn.cons (xm_bin) ?_
  refine x_bmn.cons (xm_istore) ?_
  refine x_bmn.cons (xm_iload) ?_
  refine x_bmn.cons (xm_if) ?_
  refine x_bmn.cons (xm_new) ?_
  refine x_bmn.cons (xm_dup) ?_
  refine x_bmn.cons (xm_push) ?_
  refine x_bmn.cons (xm_aload) ?_
  refine x_bmn.cons (xm_get) ?_
  refine x_bmn.cons (xm_aload) ?_
  refine x_bmn.cons (xm_get) ?_
  refine x_bmn.cons (xm_iload) ?_
  refine x_bmn.cons (xm_invI ym_E_init_2) ?_
  refine x_bmn.cons (xm_astore) ?_
  refine x_bmn.cons (xm_aload) ?_
  refine x_bmn.cons (xm_get) ?_
  refine x_bmn.cons (xm_aload) ?_
  refine x_bmn.cons (xm_invV ym_J_write) ?_
  refine x_bmn.cons (xm_aload) ?_
  refine x_bmn.cons (xm_get) ?_
  refine x_bmn.cons (xm_aload) ?_
  refine x_bmn.cons (xm_invV ym_A_add) ?_
  refine x_bmn.cons (xm_pop) ?_
  refine x_bmn.cons (xm_aload) ?_
  refine x_bmn.cons (xm_get) ?_
  refine x_bmn.cons (xm_push) ?_
  refine x_bmn.cons (xm_aload) ?_
  refine x_bmn.cons (xm_get) ?_
  refine x_bmn.cons (xm_aload) ?_
  refine x_bmn.cons (xm_get) ?_
  refine x_bmn.cons (xm_push) ?_
  refine x_bmn.cons (xm_iload) ?_
  refine x_bmn.cons (xm_push) ?_
  refine x_bmn.cons (xm_invV ym_N_send) ?_
  refine x_bmn.cons (xm_pop) ?_
  refine x_bmn.cons (xm_vret) ?_
  exact x_bmn.nil
theorem is_M_voidRest : x_Is y_M_voidRest m_M_voidRest := x_is_code q3_70
def Y_M_voidRest : XMeth := x_do 4 b_M_voidRest
theorem sn_M_voidRest : x_Snd y_M_voidRest m_M_voidRest Y_M_voidRest := x_snd_of (by decide) rfl rfl is_M_voidRest k_M_voidRest
theorem ym_M_voidRest : x_Ymn Y_M_voidRest := x_ymn_of mn_M_voidRest
/- CashLink$Machine.giveUp()V -/
abbrev c_M_giveUp : ByteArray := prog_6_method_5_code
def y_M_giveUp : MethodName := ⟨"CashLink$Machine", "giveUp", "()V"⟩
theorem d_M_giveUp_0 : decode c_M_giveUp 0 = .ok (.aload_n 0, 1) := by decide +kernel
theorem d_M_giveUp_1 : decode c_M_giveUp 1 = .ok (.getfield 14, 3) := by decide +kernel
theorem d_M_giveUp_4 : decode c_M_giveUp 4 = .ok (.invokevirtual 53, 3) := by decide +kernel
theorem d_M_giveUp_7 : decode c_M_giveUp 7 = .ok (.ifCond .eq 17, 3) := by decide +kernel
theorem d_M_giveUp_10 : decode c_M_giveUp 10 = .ok (.aload_n 0, 1) := by decide +kernel
theorem d_M_giveUp_11 : decode c_M_giveUp 11 = .ok (.getfield 31, 3) := by decide +kernel
theorem d_M_giveUp_14 : decode c_M_giveUp 14 = .ok (.getstatic 25, 3) := by decide +kernel
theorem d_M_giveUp_17 : decode c_M_giveUp 17 = .ok (.if_acmp .eq 7, 3) := by decide +kernel
theorem d_M_giveUp_20 : decode c_M_giveUp 20 = .ok (.iconst 1, 1) := by decide +kernel
theorem d_M_giveUp_21 : decode c_M_giveUp 21 = .ok (.goto 4, 3) := by decide +kernel
theorem d_M_giveUp_24 : decode c_M_giveUp 24 = .ok (.iconst 0, 1) := by decide +kernel
theorem d_M_giveUp_25 : decode c_M_giveUp 25 = .ok (.invokestatic 57, 3) := by decide +kernel
theorem d_M_giveUp_28 : decode c_M_giveUp 28 = .ok (.aload_n 0, 1) := by decide +kernel
theorem d_M_giveUp_29 : decode c_M_giveUp 29 = .ok (.getfield 31, 3) := by decide +kernel
theorem d_M_giveUp_32 : decode c_M_giveUp 32 = .ok (.getstatic 121, 3) := by decide +kernel
theorem d_M_giveUp_35 : decode c_M_giveUp 35 = .ok (.if_acmp .ne 8, 3) := by decide +kernel
theorem d_M_giveUp_38 : decode c_M_giveUp 38 = .ok (.aload_n 0, 1) := by decide +kernel
theorem d_M_giveUp_39 : decode c_M_giveUp 39 = .ok (.iconst 0, 1) := by decide +kernel
theorem d_M_giveUp_40 : decode c_M_giveUp 40 = .ok (.invokevirtual 124, 3) := by decide +kernel
theorem d_M_giveUp_43 : decode c_M_giveUp 43 = .ok (.aload_n 0, 1) := by decide +kernel
theorem d_M_giveUp_44 : decode c_M_giveUp 44 = .ok (.getstatic 25, 3) := by decide +kernel
theorem d_M_giveUp_47 : decode c_M_giveUp 47 = .ok (.putfield 31, 3) := by decide +kernel
theorem d_M_giveUp_50 : decode c_M_giveUp 50 = .ok (.return_, 1) := by decide +kernel
def m_M_giveUp : XM := ("CashLink$Machine", c_M_giveUp, 1, none, "giveUp", [], 9, 206)
def b_M_giveUp : XB := [(0, X_aload 0 1),
  (1, X_get 3 3),
  (4, X_invV 4 Y_J_isOn 0 []),
  (7, X_if (fun x => x = 0) 24),
  (10, X_aload 0 1),
  (11, X_get 3 5),
  (14, X_push (xv_r 49 0) 3),
  (17, X_acmp (fun q => q) 24),
  (20, X_push (xv_i 1) 1),
  (21, X_goto 25),
  (24, X_push (xv_i 0) 1),
  (25, X_invS Y_C_demand 1 []),
  (28, X_aload 0 1),
  (29, X_get 3 5),
  (32, X_push (xv_r 49 3) 3),
  (35, X_acmp (fun q => ¬ q) 43),
  (38, X_aload 0 1),
  (39, X_push (xv_i 0) 1),
  (40, X_invV 3 Y_M_voidRest 1 []),
  (43, X_aload 0 1),
  (44, X_push (xv_r 49 0) 3),
  (47, X_put x_tR 3 5),
  (50, X_vret)]
set_option maxRecDepth 100000 in
theorem k_M_giveUp : x_bok m_M_giveUp b_M_giveUp := by
  unfold b_M_giveUp
  refine x_bok.cons (xs_aload_n d_M_giveUp_0 rfl) ?_
  refine x_bok.cons (xs_get d_M_giveUp_1 xc3 xw3 (by decide) q1_168 (Or.inl rfl)) ?_
  refine x_bok.cons (xs_invV d_M_giveUp_4 xc4 sn_J_isOn is_J_isOn ⟨q2_67, q2_68, q2_69, q1_7⟩ (by decide) (by decide) rfl) ?_
  refine x_bok.cons (xs_if_eq d_M_giveUp_7 (by decide)) ?_
  refine x_bok.cons (xs_aload_n d_M_giveUp_10 rfl) ?_
  refine x_bok.cons (xs_get d_M_giveUp_11 xc3 xw3 (by decide) q1_172 (Or.inl rfl)) ?_
  refine x_bok.cons (xs_gets d_M_giveUp_14 (List.mem_of_getElem? (i := 0) rfl) q1_161 (Or.inl rfl)) ?_
  refine x_bok.cons (xs_acmp_eq d_M_giveUp_17 (by decide)) ?_
  refine x_bok.cons (xs_iconst d_M_giveUp_20 (by decide)) ?_
  refine x_bok.cons (xs_goto d_M_giveUp_21 (by decide)) ?_
  refine x_bok.cons (xs_iconst d_M_giveUp_24 (by decide)) ?_
  refine x_bok.cons (xs_invSN d_M_giveUp_25 sn_C_demand is_C_demand ⟨q2_71, q2_72, q1_1⟩ (by decide) (by decide) rfl) ?_
  refine x_bok.cons (xs_aload_n d_M_giveUp_28 rfl) ?_
  refine x_bok.cons (xs_get d_M_giveUp_29 xc3 xw3 (by decide) q1_172 (Or.inl rfl)) ?_
  refine x_bok.cons (xs_gets d_M_giveUp_32 (List.mem_of_getElem? (i := 3) rfl) q3_54 (Or.inl rfl)) ?_
  refine x_bok.cons (xs_acmp_ne d_M_giveUp_35 (by decide)) ?_
  refine x_bok.cons (xs_aload_n d_M_giveUp_38 rfl) ?_
  refine x_bok.cons (xs_iconst d_M_giveUp_39 (by decide)) ?_
  refine x_bok.cons (xs_invV d_M_giveUp_40 xc3 sn_M_voidRest is_M_voidRest ⟨q3_67, q3_69, (x_sel (x_p1 (List.mem_of_getElem? (i := 5) rfl))), q1_8⟩ (by decide) (by decide) rfl) ?_
  refine x_bok.cons (xs_aload_n d_M_giveUp_43 rfl) ?_
  refine x_bok.cons (xs_gets d_M_giveUp_44 (List.mem_of_getElem? (i := 0) rfl) q1_161 (Or.inl rfl)) ?_
  refine x_bok.cons (xs_put d_M_giveUp_47 xc3 xw3 xt3 xn3 (by decide) q1_172 (Or.inl rfl) rfl rfl x_fitO) ?_
  refine x_bok.cons (xs_vret d_M_giveUp_50 rfl) ?_
  exact x_bok.nil
set_option maxRecDepth 100000 in
theorem mn_M_giveUp : x_bmn b_M_giveUp := by
  unfold b_M_giveUp
  refine x_bmn.cons (xm_aload) ?_
  refine x_bmn.cons (xm_get) ?_
  refine x_bmn.cons (xm_invV ym_J_isOn) ?_
  refine x_bmn.cons (xm_if) ?_
  refine x_bmn.cons (xm_aload) ?_
  refine x_bmn.cons (xm_get) ?_
  refine x_bmn.cons (xm_push) ?_
  refine x_bmn.cons (xm_acmp) ?_
  refine x_bmn.cons (xm_push) ?_
  refine x_bmn.cons (xm_goto) ?_
  refine x_bmn.cons (xm_push) ?_
  refine x_bmn.cons (xm_invS ym_C_demand) ?_
  refine x_bmn.cons (xm_aload) ?_
  refine x_bmn.cons (xm_get) ?_
  refine x_bmn.cons (xm_push) ?_
  refine x_bmn.cons (xm_acmp) ?_
  refine x_bmn.cons (xm_aload) ?_
  refine x_bmn.cons (xm_push) ?_
  refine x_bmn.cons (xm_invV ym_M_voidRest) ?_
  refine x_bmn.cons (xm_aload) ?_
  refine x_bmn.cons (xm_push) ?_
  refine x_bmn.cons (xm_put) ?_
  refine x_bmn.cons (xm_vret) ?_
  exact x_bmn.nil
theorem is_M_giveUp : x_Is y_M_giveUp m_M_giveUp := x_is_code q3_66
def Y_M_giveUp : XMeth := x_do 1 b_M_giveUp
theorem sn_M_giveUp : x_Snd y_M_giveUp m_M_giveUp Y_M_giveUp := x_snd_of (by decide) rfl rfl is_M_giveUp k_M_giveUp
theorem ym_M_giveUp : x_Ymn Y_M_giveUp := x_ymn_of mn_M_giveUp
/- CashLink.cancel(I)V -/
abbrev c_C_cancel : ByteArray := prog_1_method_5_code
def y_C_cancel : MethodName := ⟨"CashLink", "cancel", "(I)V"⟩
theorem d_C_cancel_0 : decode c_C_cancel 0 = .ok (.aload_n 0, 1) := by decide +kernel
theorem d_C_cancel_1 : decode c_C_cancel 1 = .ok (.iload_n 1, 1) := by decide +kernel
theorem d_C_cancel_2 : decode c_C_cancel 2 = .ok (.invokevirtual 38, 3) := by decide +kernel
theorem d_C_cancel_5 : decode c_C_cancel 5 = .ok (.invokevirtual 61, 3) := by decide +kernel
theorem d_C_cancel_8 : decode c_C_cancel 8 = .ok (.return_, 1) := by decide +kernel
def m_C_cancel : XM := ("CashLink", c_C_cancel, 2, none, "cancel", [], 10, 226)
def b_C_cancel : XB := [(0, X_aload 0 1),
  (1, X_iload 1 1),
  (2, X_invV 0 Y_C_machineAt 1 []),
  (5, X_invV 3 Y_M_giveUp 0 []),
  (8, X_vret)]
set_option maxRecDepth 100000 in
theorem k_C_cancel : x_bok m_C_cancel b_C_cancel := by
  unfold b_C_cancel
  refine x_bok.cons (xs_aload_n d_C_cancel_0 rfl) ?_
  refine x_bok.cons (xs_iload_n d_C_cancel_1 rfl) ?_
  refine x_bok.cons (xs_invV d_C_cancel_2 xc0 sn_C_machineAt is_C_machineAt ⟨q1_223, q1_225, (x_sel (x_p1 (List.mem_of_getElem? (i := 0) rfl))), q1_1⟩ (by decide) (by decide) rfl) ?_
  refine x_bok.cons (xs_invV d_C_cancel_5 xc3 sn_M_giveUp is_M_giveUp ⟨q3_63, q3_64, q3_65, q1_8⟩ (by decide) (by decide) rfl) ?_
  refine x_bok.cons (xs_vret d_C_cancel_8 rfl) ?_
  exact x_bok.nil
set_option maxRecDepth 100000 in
theorem mn_C_cancel : x_bmn b_C_cancel := by
  unfold b_C_cancel
  refine x_bmn.cons (xm_aload) ?_
  refine x_bmn.cons (xm_iload) ?_
  refine x_bmn.cons (xm_invV ym_C_machineAt) ?_
  refine x_bmn.cons (xm_invV ym_M_giveUp) ?_
  refine x_bmn.cons (xm_vret) ?_
  exact x_bmn.nil
theorem is_C_cancel : x_Is y_C_cancel m_C_cancel := x_is_code q3_62
def Y_C_cancel : XMeth := x_do 2 b_C_cancel
theorem sn_C_cancel : x_Snd y_C_cancel m_C_cancel Y_C_cancel := x_snd_of (by decide) rfl rfl is_C_cancel k_C_cancel
theorem ym_C_cancel : x_Ymn Y_C_cancel := x_ymn_of mn_C_cancel
/- CashLinkLaw.cancel(LCashLink;I)I -/
abbrev c_L_cancel : ByteArray := method_6_code
def y_L_cancel : MethodName := ⟨"CashLinkLaw", "cancel", "(LCashLink;I)I"⟩
theorem d_L_cancel_0 : decode c_L_cancel 0 = .ok (.aload_n 0, 1) := by decide +kernel
theorem d_L_cancel_1 : decode c_L_cancel 1 = .ok (.iload_n 1, 1) := by decide +kernel
theorem d_L_cancel_2 : decode c_L_cancel 2 = .ok (.invokevirtual 29, 3) := by decide +kernel
theorem d_L_cancel_5 : decode c_L_cancel 5 = .ok (.goto 12, 3) := by decide +kernel
theorem d_L_cancel_8 : decode c_L_cancel 8 = .ok (.astore_n 2, 1) := by decide +kernel
theorem d_L_cancel_9 : decode c_L_cancel 9 = .ok (.iconst 1, 1) := by decide +kernel
theorem d_L_cancel_10 : decode c_L_cancel 10 = .ok (.ireturn, 1) := by decide +kernel
theorem d_L_cancel_11 : decode c_L_cancel 11 = .ok (.astore_n 2, 1) := by decide +kernel
theorem d_L_cancel_12 : decode c_L_cancel 12 = .ok (.iconst 2, 1) := by decide +kernel
theorem d_L_cancel_13 : decode c_L_cancel 13 = .ok (.ireturn, 1) := by decide +kernel
theorem d_L_cancel_14 : decode c_L_cancel 14 = .ok (.astore_n 2, 1) := by decide +kernel
theorem d_L_cancel_15 : decode c_L_cancel 15 = .ok (.iconst 3, 1) := by decide +kernel
theorem d_L_cancel_16 : decode c_L_cancel 16 = .ok (.ireturn, 1) := by decide +kernel
theorem d_L_cancel_17 : decode c_L_cancel 17 = .ok (.iconst 0, 1) := by decide +kernel
theorem d_L_cancel_18 : decode c_L_cancel 18 = .ok (.ireturn, 1) := by decide +kernel
def m_L_cancel : XM := ("CashLinkLaw", c_L_cancel, 3, (some .int), "cancel", [(0, 5, 8, 13), (0, 5, 11, 15), (0, 5, 14, 27)], 11, 247)
theorem h_L_cancel_2 : x_hok m_L_cancel 2 [(11, 8), (12, 11), (14, 14)] := by
  intro ci h hc
  by_cases e0 : ci = 11
  · subst e0
    have hh : h = 8 := (Option.some.inj (hc.symm.trans (by rfl : x_catch [(11, 8), (12, 11), (14, 14)] 11 = some 8)))
    subst hh
    refine ⟨"java/lang/IllegalArgumentException", xT11, 0, [], ⟨0, 5, 8, 13⟩, [⟨0, 5, 11, 15⟩, ⟨0, 5, 14, 27⟩], rfl, rfl, rfl, rfl, by decide, q1_217, ?_⟩
    intro z hz
    cases hz
  by_cases e1 : ci = 12
  · subst e1
    have hh : h = 11 := (Option.some.inj (hc.symm.trans (by rfl : x_catch [(11, 8), (12, 11), (14, 14)] 12 = some 11)))
    subst hh
    refine ⟨"java/lang/IllegalStateException", xT12, 0, [⟨0, 5, 8, 13⟩], ⟨0, 5, 11, 15⟩, [⟨0, 5, 14, 27⟩], rfl, rfl, rfl, rfl, by decide, q1_218, ?_⟩
    intro z hz
    simp only [List.mem_cons, List.not_mem_nil, or_false] at hz
    rcases hz with rfl
    · exact Or.inr ⟨by decide, "java/lang/IllegalArgumentException", q1_217, x_inN 0 rfl⟩
  by_cases e2 : ci = 14
  · subst e2
    have hh : h = 14 := (Option.some.inj (hc.symm.trans (by rfl : x_catch [(11, 8), (12, 11), (14, 14)] 14 = some 14)))
    subst hh
    refine ⟨"java/lang/ArithmeticException", xT14, 0, [⟨0, 5, 8, 13⟩, ⟨0, 5, 11, 15⟩], ⟨0, 5, 14, 27⟩, [], rfl, rfl, rfl, rfl, by decide, q2_109, ?_⟩
    intro z hz
    simp only [List.mem_cons, List.not_mem_nil, or_false] at hz
    rcases hz with rfl | rfl
    · exact Or.inr ⟨by decide, "java/lang/IllegalArgumentException", q1_217, x_inN 2 rfl⟩
    · exact Or.inr ⟨by decide, "java/lang/IllegalStateException", q1_218, x_inN 6 rfl⟩
  exfalso
  simp only [x_catch] at hc
  rw [if_neg (fun q => e0 q.symm)] at hc
  rw [if_neg (fun q => e1 q.symm)] at hc
  rw [if_neg (fun q => e2 q.symm)] at hc
  cases hc
def b_L_cancel : XB := [(0, X_aload 0 1),
  (1, X_iload 1 1),
  (2, X_invV 0 Y_C_cancel 1 [(11, 8), (12, 11), (14, 14)]),
  (5, X_goto 17),
  (8, X_astore 2 1),
  (9, X_push (xv_i 1) 1),
  (10, X_iret),
  (11, X_astore 2 1),
  (12, X_push (xv_i 2) 1),
  (13, X_iret),
  (14, X_astore 2 1),
  (15, X_push (xv_i 3) 1),
  (16, X_iret),
  (17, X_push (xv_i 0) 1),
  (18, X_iret)]
set_option maxRecDepth 100000 in
theorem k_L_cancel : x_bok m_L_cancel b_L_cancel := by
  unfold b_L_cancel
  refine x_bok.cons (xs_aload_n d_L_cancel_0 rfl) ?_
  refine x_bok.cons (xs_iload_n d_L_cancel_1 rfl) ?_
  refine x_bok.cons (xs_invV d_L_cancel_2 xc0 sn_C_cancel is_C_cancel ⟨q3_59, q3_60, q3_61, q1_1⟩ (by decide) (by decide) h_L_cancel_2) ?_
  refine x_bok.cons (xs_goto d_L_cancel_5 (by decide)) ?_
  refine x_bok.cons (xs_astore_n d_L_cancel_8 rfl (by decide)) ?_
  refine x_bok.cons (xs_iconst d_L_cancel_9 (by decide)) ?_
  refine x_bok.cons (xs_iret d_L_cancel_10 rfl) ?_
  refine x_bok.cons (xs_astore_n d_L_cancel_11 rfl (by decide)) ?_
  refine x_bok.cons (xs_iconst d_L_cancel_12 (by decide)) ?_
  refine x_bok.cons (xs_iret d_L_cancel_13 rfl) ?_
  refine x_bok.cons (xs_astore_n d_L_cancel_14 rfl (by decide)) ?_
  refine x_bok.cons (xs_iconst d_L_cancel_15 (by decide)) ?_
  refine x_bok.cons (xs_iret d_L_cancel_16 rfl) ?_
  refine x_bok.cons (xs_iconst d_L_cancel_17 (by decide)) ?_
  refine x_bok.cons (xs_iret d_L_cancel_18 rfl) ?_
  exact x_bok.nil
set_option maxRecDepth 100000 in
theorem mn_L_cancel : x_bmn b_L_cancel := by
  unfold b_L_cancel
  refine x_bmn.cons (xm_aload) ?_
  refine x_bmn.cons (xm_iload) ?_
  refine x_bmn.cons (xm_invV ym_C_cancel) ?_
  refine x_bmn.cons (xm_goto) ?_
  refine x_bmn.cons (xm_astore) ?_
  refine x_bmn.cons (xm_push) ?_
  refine x_bmn.cons (xm_iret) ?_
  refine x_bmn.cons (xm_astore) ?_
  refine x_bmn.cons (xm_push) ?_
  refine x_bmn.cons (xm_iret) ?_
  refine x_bmn.cons (xm_astore) ?_
  refine x_bmn.cons (xm_push) ?_
  refine x_bmn.cons (xm_iret) ?_
  refine x_bmn.cons (xm_push) ?_
  refine x_bmn.cons (xm_iret) ?_
  exact x_bmn.nil
theorem is_L_cancel : x_Is y_L_cancel m_L_cancel := x_is_with q3_58
def Y_L_cancel : XMeth := x_do 3 b_L_cancel
theorem sn_L_cancel : x_Snd y_L_cancel m_L_cancel Y_L_cancel := x_snd_of (by decide) rfl rfl is_L_cancel k_L_cancel
theorem ym_L_cancel : x_Ymn Y_L_cancel := x_ymn_of mn_L_cancel
