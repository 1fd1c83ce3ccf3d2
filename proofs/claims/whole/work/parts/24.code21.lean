/- CashLinkModel.dispense(II)V -/
abbrev c_R_dispense : ByteArray := prog_12_method_19_code
def y_R_dispense : MethodName := ⟨"CashLinkModel", "dispense", "(II)V"⟩
theorem d_R_dispense_0 : decode c_R_dispense 0 = .ok (.aload_n 0, 1) := by decide +kernel
theorem d_R_dispense_1 : decode c_R_dispense 1 = .ok (.getfield 53, 3) := by decide +kernel
theorem d_R_dispense_4 : decode c_R_dispense 4 = .ok (.iload_n 1, 1) := by decide +kernel
theorem d_R_dispense_5 : decode c_R_dispense 5 = .ok (.iaload, 1) := by decide +kernel
theorem d_R_dispense_6 : decode c_R_dispense 6 = .ok (.iload_n 2, 1) := by decide +kernel
theorem d_R_dispense_7 : decode c_R_dispense 7 = .ok (.if_icmp .ne 4, 3) := by decide +kernel
theorem d_R_dispense_10 : decode c_R_dispense 10 = .ok (.return_, 1) := by decide +kernel
theorem d_R_dispense_11 : decode c_R_dispense 11 = .ok (.iconst 0, 1) := by decide +kernel
theorem d_R_dispense_12 : decode c_R_dispense 12 = .ok (.istore_n 3, 1) := by decide +kernel
theorem d_R_dispense_13 : decode c_R_dispense 13 = .ok (.iconst 0, 1) := by decide +kernel
theorem d_R_dispense_14 : decode c_R_dispense 14 = .ok (.istore 4, 2) := by decide +kernel
theorem d_R_dispense_16 : decode c_R_dispense 16 = .ok (.iconst 3, 1) := by decide +kernel
theorem d_R_dispense_17 : decode c_R_dispense 17 = .ok (.istore 5, 2) := by decide +kernel
theorem d_R_dispense_19 : decode c_R_dispense 19 = .ok (.iload 5, 2) := by decide +kernel
theorem d_R_dispense_21 : decode c_R_dispense 21 = .ok (.ifCond .lt 72, 3) := by decide +kernel
theorem d_R_dispense_24 : decode c_R_dispense 24 = .ok (.iconst 0, 1) := by decide +kernel
theorem d_R_dispense_25 : decode c_R_dispense 25 = .ok (.istore 6, 2) := by decide +kernel
theorem d_R_dispense_27 : decode c_R_dispense 27 = .ok (.iload 6, 2) := by decide +kernel
theorem d_R_dispense_29 : decode c_R_dispense 29 = .ok (.aload_n 0, 1) := by decide +kernel
theorem d_R_dispense_30 : decode c_R_dispense 30 = .ok (.getfield 86, 3) := by decide +kernel
theorem d_R_dispense_33 : decode c_R_dispense 33 = .ok (.iload 5, 2) := by decide +kernel
theorem d_R_dispense_35 : decode c_R_dispense 35 = .ok (.iaload, 1) := by decide +kernel
theorem d_R_dispense_36 : decode c_R_dispense 36 = .ok (.if_icmp .ge 51, 3) := by decide +kernel
theorem d_R_dispense_39 : decode c_R_dispense 39 = .ok (.iload_n 3, 1) := by decide +kernel
theorem d_R_dispense_40 : decode c_R_dispense 40 = .ok (.aload_n 0, 1) := by decide +kernel
theorem d_R_dispense_41 : decode c_R_dispense 41 = .ok (.getfield 62, 3) := by decide +kernel
theorem d_R_dispense_44 : decode c_R_dispense 44 = .ok (.iload_n 1, 1) := by decide +kernel
theorem d_R_dispense_45 : decode c_R_dispense 45 = .ok (.iaload, 1) := by decide +kernel
theorem d_R_dispense_46 : decode c_R_dispense 46 = .ok (.if_icmp .ne 6, 3) := by decide +kernel
theorem d_R_dispense_49 : decode c_R_dispense 49 = .ok (.goto 32, 3) := by decide +kernel
theorem d_R_dispense_52 : decode c_R_dispense 52 = .ok (.iinc 3 1, 3) := by decide +kernel
theorem d_R_dispense_55 : decode c_R_dispense 55 = .ok (.aload_n 0, 1) := by decide +kernel
theorem d_R_dispense_56 : decode c_R_dispense 56 = .ok (.getfield 50, 3) := by decide +kernel
theorem d_R_dispense_59 : decode c_R_dispense 59 = .ok (.iconst 4, 1) := by decide +kernel
theorem d_R_dispense_60 : decode c_R_dispense 60 = .ok (.iload_n 1, 1) := by decide +kernel
theorem d_R_dispense_61 : decode c_R_dispense 61 = .ok (.imul, 1) := by decide +kernel
theorem d_R_dispense_62 : decode c_R_dispense 62 = .ok (.iload 5, 2) := by decide +kernel
theorem d_R_dispense_64 : decode c_R_dispense 64 = .ok (.iadd, 1) := by decide +kernel
theorem d_R_dispense_65 : decode c_R_dispense 65 = .ok (.dup2, 1) := by decide +kernel
theorem d_R_dispense_66 : decode c_R_dispense 66 = .ok (.iaload, 1) := by decide +kernel
theorem d_R_dispense_67 : decode c_R_dispense 67 = .ok (.iconst 1, 1) := by decide +kernel
theorem d_R_dispense_68 : decode c_R_dispense 68 = .ok (.isub, 1) := by decide +kernel
theorem d_R_dispense_69 : decode c_R_dispense 69 = .ok (.iastore, 1) := by decide +kernel
theorem d_R_dispense_70 : decode c_R_dispense 70 = .ok (.iload 4, 2) := by decide +kernel
theorem d_R_dispense_72 : decode c_R_dispense 72 = .ok (.getstatic 156, 3) := by decide +kernel
theorem d_R_dispense_75 : decode c_R_dispense 75 = .ok (.iload 5, 2) := by decide +kernel
theorem d_R_dispense_77 : decode c_R_dispense 77 = .ok (.iaload, 1) := by decide +kernel
theorem d_R_dispense_78 : decode c_R_dispense 78 = .ok (.iadd, 1) := by decide +kernel
theorem d_R_dispense_79 : decode c_R_dispense 79 = .ok (.istore 4, 2) := by decide +kernel
theorem d_R_dispense_81 : decode c_R_dispense 81 = .ok (.iinc 6 1, 3) := by decide +kernel
theorem d_R_dispense_84 : decode c_R_dispense 84 = .ok (.goto (-57), 3) := by decide +kernel
theorem d_R_dispense_87 : decode c_R_dispense 87 = .ok (.iinc 5 (-1), 3) := by decide +kernel
theorem d_R_dispense_90 : decode c_R_dispense 90 = .ok (.goto (-71), 3) := by decide +kernel
theorem d_R_dispense_93 : decode c_R_dispense 93 = .ok (.aload_n 0, 1) := by decide +kernel
theorem d_R_dispense_94 : decode c_R_dispense 94 = .ok (.getfield 62, 3) := by decide +kernel
theorem d_R_dispense_97 : decode c_R_dispense 97 = .ok (.iload_n 1, 1) := by decide +kernel
theorem d_R_dispense_98 : decode c_R_dispense 98 = .ok (.bipush 41, 2) := by decide +kernel
theorem d_R_dispense_100 : decode c_R_dispense 100 = .ok (.iastore, 1) := by decide +kernel
theorem d_R_dispense_101 : decode c_R_dispense 101 = .ok (.aload_n 0, 1) := by decide +kernel
theorem d_R_dispense_102 : decode c_R_dispense 102 = .ok (.getfield 53, 3) := by decide +kernel
theorem d_R_dispense_105 : decode c_R_dispense 105 = .ok (.iload_n 1, 1) := by decide +kernel
theorem d_R_dispense_106 : decode c_R_dispense 106 = .ok (.iload_n 2, 1) := by decide +kernel
theorem d_R_dispense_107 : decode c_R_dispense 107 = .ok (.iastore, 1) := by decide +kernel
theorem d_R_dispense_108 : decode c_R_dispense 108 = .ok (.aload_n 0, 1) := by decide +kernel
theorem d_R_dispense_109 : decode c_R_dispense 109 = .ok (.getfield 56, 3) := by decide +kernel
theorem d_R_dispense_112 : decode c_R_dispense 112 = .ok (.iload_n 1, 1) := by decide +kernel
theorem d_R_dispense_113 : decode c_R_dispense 113 = .ok (.iload 4, 2) := by decide +kernel
theorem d_R_dispense_115 : decode c_R_dispense 115 = .ok (.iastore, 1) := by decide +kernel
theorem d_R_dispense_116 : decode c_R_dispense 116 = .ok (.aload_n 0, 1) := by decide +kernel
theorem d_R_dispense_117 : decode c_R_dispense 117 = .ok (.getfield 59, 3) := by decide +kernel
theorem d_R_dispense_120 : decode c_R_dispense 120 = .ok (.iload_n 1, 1) := by decide +kernel
theorem d_R_dispense_121 : decode c_R_dispense 121 = .ok (.dup2, 1) := by decide +kernel
theorem d_R_dispense_122 : decode c_R_dispense 122 = .ok (.iaload, 1) := by decide +kernel
theorem d_R_dispense_123 : decode c_R_dispense 123 = .ok (.iload 4, 2) := by decide +kernel
theorem d_R_dispense_125 : decode c_R_dispense 125 = .ok (.iadd, 1) := by decide +kernel
theorem d_R_dispense_126 : decode c_R_dispense 126 = .ok (.iastore, 1) := by decide +kernel
theorem d_R_dispense_127 : decode c_R_dispense 127 = .ok (.aload_n 0, 1) := by decide +kernel
theorem d_R_dispense_128 : decode c_R_dispense 128 = .ok (.getfield 65, 3) := by decide +kernel
theorem d_R_dispense_131 : decode c_R_dispense 131 = .ok (.aload_n 0, 1) := by decide +kernel
theorem d_R_dispense_132 : decode c_R_dispense 132 = .ok (.getfield 19, 3) := by decide +kernel
theorem d_R_dispense_135 : decode c_R_dispense 135 = .ok (.aload_n 0, 1) := by decide +kernel
theorem d_R_dispense_136 : decode c_R_dispense 136 = .ok (.iload_n 1, 1) := by decide +kernel
theorem d_R_dispense_137 : decode c_R_dispense 137 = .ok (.iconst 1, 1) := by decide +kernel
theorem d_R_dispense_138 : decode c_R_dispense 138 = .ok (.iload_n 1, 1) := by decide +kernel
theorem d_R_dispense_139 : decode c_R_dispense 139 = .ok (.iload_n 2, 1) := by decide +kernel
theorem d_R_dispense_140 : decode c_R_dispense 140 = .ok (.invokevirtual 107, 3) := by decide +kernel
theorem d_R_dispense_143 : decode c_R_dispense 143 = .ok (.iaload, 1) := by decide +kernel
theorem d_R_dispense_144 : decode c_R_dispense 144 = .ok (.dup2, 1) := by decide +kernel
theorem d_R_dispense_145 : decode c_R_dispense 145 = .ok (.iaload, 1) := by decide +kernel
theorem d_R_dispense_146 : decode c_R_dispense 146 = .ok (.iload 4, 2) := by decide +kernel
theorem d_R_dispense_148 : decode c_R_dispense 148 = .ok (.iadd, 1) := by decide +kernel
theorem d_R_dispense_149 : decode c_R_dispense 149 = .ok (.iastore, 1) := by decide +kernel
theorem d_R_dispense_150 : decode c_R_dispense 150 = .ok (.return_, 1) := by decide +kernel
def m_R_dispense : XM := ("CashLinkModel", c_R_dispense, 7, none, "dispense", [], 2, 45)
def b_R_dispense : XB := [(0, X_aload 0 1),
  (1, X_get 10 14),
  (4, X_iload 1 1),
  (5, X_ald 0),
  (6, X_iload 2 1),
  (7, X_icmp (fun x y => ¬ x = y) 11),
  (10, X_vret),
  (11, X_push (xv_i 0) 1),
  (12, X_istore 3 1),
  (13, X_push (xv_i 0) 1),
  (14, X_istore 4 2),
  (16, X_push (xv_i 3) 1),
  (17, X_istore 5 2),
  (19, X_iload 5 2),
  (21, X_if (fun x => x < 0) 93),
  (24, X_push (xv_i 0) 1),
  (25, X_istore 6 2),
  (27, X_iload 6 2),
  (29, X_aload 0 1),
  (30, X_get 10 27),
  (33, X_iload 5 2),
  (35, X_ald 0),
  (36, X_icmp (fun x y => y ≤ x) 87),
  (39, X_iload 3 1),
  (40, X_aload 0 1),
  (41, X_get 10 17),
  (44, X_iload 1 1),
  (45, X_ald 0),
  (46, X_icmp (fun x y => ¬ x = y) 52),
  (49, X_goto 81),
  (52, X_iinc 3 1),
  (55, X_aload 0 1),
  (56, X_get 10 13),
  (59, X_push (xv_i 4) 1),
  (60, X_iload 1 1),
  (61, X_bin (fun x y => x * y)),
  (62, X_iload 5 2),
  (64, X_bin (fun x y => x + y)),
  (65, X_dup2),
  (66, X_ald 0),
  (67, X_push (xv_i 1) 1),
  (68, X_bin (fun x y => x - y)),
  (69, X_ast 0 (fun x => x)),
  (70, X_iload 4 2),
  (72, X_push (xv_r 53 1) 3),
  (75, X_iload 5 2),
  (77, X_ald 0),
  (78, X_bin (fun x y => x + y)),
  (79, X_istore 4 2),
  (81, X_iinc 6 1),
  (84, X_goto 27),
  (87, X_iinc 5 (-1)),
  (90, X_goto 19),
  (93, X_aload 0 1),
  (94, X_get 10 17),
  (97, X_iload 1 1),
  (98, X_push (xv_i 41) 2),
  (100, X_ast 0 (fun x => x)),
  (101, X_aload 0 1),
  (102, X_get 10 14),
  (105, X_iload 1 1),
  (106, X_iload 2 1),
  (107, X_ast 0 (fun x => x)),
  (108, X_aload 0 1),
  (109, X_get 10 15),
  (112, X_iload 1 1),
  (113, X_iload 4 2),
  (115, X_ast 0 (fun x => x)),
  (116, X_aload 0 1),
  (117, X_get 10 16),
  (120, X_iload 1 1),
  (121, X_dup2),
  (122, X_ald 0),
  (123, X_iload 4 2),
  (125, X_bin (fun x y => x + y)),
  (126, X_ast 0 (fun x => x)),
  (127, X_aload 0 1),
  (128, X_get 10 18),
  (131, X_aload 0 1),
  (132, X_get 10 3),
  (135, X_aload 0 1),
  (136, X_iload 1 1),
  (137, X_push (xv_i 1) 1),
  (138, X_iload 1 1),
  (139, X_iload 2 1),
  (140, X_invV 10 Y_R_find 4 []),
  (143, X_ald 0),
  (144, X_dup2),
  (145, X_ald 0),
  (146, X_iload 4 2),
  (148, X_bin (fun x y => x + y)),
  (149, X_ast 0 (fun x => x)),
  (150, X_vret)]
set_option maxRecDepth 100000 in
theorem k_R_dispense : x_bok m_R_dispense b_R_dispense := by
  unfold b_R_dispense
  refine x_bok.cons (xs_aload_n d_R_dispense_0 rfl) ?_
  refine x_bok.cons (xs_get d_R_dispense_1 xc10 xw10 (by decide) q5_219 (Or.inl rfl)) ?_
  refine x_bok.cons (xs_iload_n d_R_dispense_4 rfl) ?_
  refine x_bok.cons (xs_iald d_R_dispense_5 rfl) ?_
  refine x_bok.cons (xs_iload_n d_R_dispense_6 rfl) ?_
  refine x_bok.cons (xs_icmp_ne d_R_dispense_7 (by decide)) ?_
  refine x_bok.cons (xs_vret d_R_dispense_10 rfl) ?_
  refine x_bok.cons (xs_iconst d_R_dispense_11 (by decide)) ?_
  refine x_bok.cons (xs_istore_n d_R_dispense_12 rfl (by decide)) ?_
  refine x_bok.cons (xs_iconst d_R_dispense_13 (by decide)) ?_
  refine x_bok.cons (xs_istore d_R_dispense_14 (by decide)) ?_
  refine x_bok.cons (xs_iconst d_R_dispense_16 (by decide)) ?_
  refine x_bok.cons (xs_istore d_R_dispense_17 (by decide)) ?_
  refine x_bok.cons (xs_iload d_R_dispense_19) ?_
  refine x_bok.cons (xs_if_lt d_R_dispense_21 (by decide)) ?_
  refine x_bok.cons (xs_iconst d_R_dispense_24 (by decide)) ?_
  refine x_bok.cons (xs_istore d_R_dispense_25 (by decide)) ?_
  refine x_bok.cons (xs_iload d_R_dispense_27) ?_
  refine x_bok.cons (xs_aload_n d_R_dispense_29 rfl) ?_
  refine x_bok.cons (xs_get d_R_dispense_30 xc10 xw10 (by decide) q5_232 (Or.inl rfl)) ?_
  refine x_bok.cons (xs_iload d_R_dispense_33) ?_
  refine x_bok.cons (xs_iald d_R_dispense_35 rfl) ?_
  refine x_bok.cons (xs_icmp_ge d_R_dispense_36 (by decide)) ?_
  refine x_bok.cons (xs_iload_n d_R_dispense_39 rfl) ?_
  refine x_bok.cons (xs_aload_n d_R_dispense_40 rfl) ?_
  refine x_bok.cons (xs_get d_R_dispense_41 xc10 xw10 (by decide) q5_222 (Or.inl rfl)) ?_
  refine x_bok.cons (xs_iload_n d_R_dispense_44 rfl) ?_
  refine x_bok.cons (xs_iald d_R_dispense_45 rfl) ?_
  refine x_bok.cons (xs_icmp_ne d_R_dispense_46 (by decide)) ?_
  refine x_bok.cons (xs_goto d_R_dispense_49 (by decide)) ?_
  refine x_bok.cons (xs_iinc d_R_dispense_52 (by decide) (by decide)) ?_
  refine x_bok.cons (xs_aload_n d_R_dispense_55 rfl) ?_
  refine x_bok.cons (xs_get d_R_dispense_56 xc10 xw10 (by decide) q5_218 (Or.inl rfl)) ?_
  refine x_bok.cons (xs_iconst d_R_dispense_59 (by decide)) ?_
  refine x_bok.cons (xs_iload_n d_R_dispense_60 rfl) ?_
  refine x_bok.cons (xs_imul d_R_dispense_61) ?_
  refine x_bok.cons (xs_iload d_R_dispense_62) ?_
  refine x_bok.cons (xs_iadd d_R_dispense_64) ?_
  refine x_bok.cons (xs_dup2 d_R_dispense_65) ?_
  refine x_bok.cons (xs_iald d_R_dispense_66 rfl) ?_
  refine x_bok.cons (xs_iconst d_R_dispense_67 (by decide)) ?_
  refine x_bok.cons (xs_isub d_R_dispense_68) ?_
  refine x_bok.cons (xs_iast d_R_dispense_69 rfl) ?_
  refine x_bok.cons (xs_iload d_R_dispense_70) ?_
  refine x_bok.cons (xs_gets d_R_dispense_72 (List.mem_of_getElem? (i := 11) rfl) q6_169 (Or.inl rfl)) ?_
  refine x_bok.cons (xs_iload d_R_dispense_75) ?_
  refine x_bok.cons (xs_iald d_R_dispense_77 rfl) ?_
  refine x_bok.cons (xs_iadd d_R_dispense_78) ?_
  refine x_bok.cons (xs_istore d_R_dispense_79 (by decide)) ?_
  refine x_bok.cons (xs_iinc d_R_dispense_81 (by decide) (by decide)) ?_
  refine x_bok.cons (xs_goto d_R_dispense_84 (by decide)) ?_
  refine x_bok.cons (xs_iinc d_R_dispense_87 (by decide) (by decide)) ?_
  refine x_bok.cons (xs_goto d_R_dispense_90 (by decide)) ?_
  refine x_bok.cons (xs_aload_n d_R_dispense_93 rfl) ?_
  refine x_bok.cons (xs_get d_R_dispense_94 xc10 xw10 (by decide) q5_222 (Or.inl rfl)) ?_
  refine x_bok.cons (xs_iload_n d_R_dispense_97 rfl) ?_
  refine x_bok.cons (xs_bipush d_R_dispense_98 (by decide)) ?_
  refine x_bok.cons (xs_iast d_R_dispense_100 rfl) ?_
  refine x_bok.cons (xs_aload_n d_R_dispense_101 rfl) ?_
  refine x_bok.cons (xs_get d_R_dispense_102 xc10 xw10 (by decide) q5_219 (Or.inl rfl)) ?_
  refine x_bok.cons (xs_iload_n d_R_dispense_105 rfl) ?_
  refine x_bok.cons (xs_iload_n d_R_dispense_106 rfl) ?_
  refine x_bok.cons (xs_iast d_R_dispense_107 rfl) ?_
  refine x_bok.cons (xs_aload_n d_R_dispense_108 rfl) ?_
  refine x_bok.cons (xs_get d_R_dispense_109 xc10 xw10 (by decide) q5_220 (Or.inl rfl)) ?_
  refine x_bok.cons (xs_iload_n d_R_dispense_112 rfl) ?_
  refine x_bok.cons (xs_iload d_R_dispense_113) ?_
  refine x_bok.cons (xs_iast d_R_dispense_115 rfl) ?_
  refine x_bok.cons (xs_aload_n d_R_dispense_116 rfl) ?_
  refine x_bok.cons (xs_get d_R_dispense_117 xc10 xw10 (by decide) q5_221 (Or.inl rfl)) ?_
  refine x_bok.cons (xs_iload_n d_R_dispense_120 rfl) ?_
  refine x_bok.cons (xs_dup2 d_R_dispense_121) ?_
  refine x_bok.cons (xs_iald d_R_dispense_122 rfl) ?_
  refine x_bok.cons (xs_iload d_R_dispense_123) ?_
  refine x_bok.cons (xs_iadd d_R_dispense_125) ?_
  refine x_bok.cons (xs_iast d_R_dispense_126 rfl) ?_
  refine x_bok.cons (xs_aload_n d_R_dispense_127 rfl) ?_
  refine x_bok.cons (xs_get d_R_dispense_128 xc10 xw10 (by decide) q5_223 (Or.inl rfl)) ?_
  refine x_bok.cons (xs_aload_n d_R_dispense_131 rfl) ?_
  refine x_bok.cons (xs_get d_R_dispense_132 xc10 xw10 (by decide) q5_208 (Or.inl rfl)) ?_
  refine x_bok.cons (xs_aload_n d_R_dispense_135 rfl) ?_
  refine x_bok.cons (xs_iload_n d_R_dispense_136 rfl) ?_
  refine x_bok.cons (xs_iconst d_R_dispense_137 (by decide)) ?_
  refine x_bok.cons (xs_iload_n d_R_dispense_138 rfl) ?_
  refine x_bok.cons (xs_iload_n d_R_dispense_139 rfl) ?_
  refine x_bok.cons (xs_invV d_R_dispense_140 xc10 sn_R_find is_R_find ⟨q6_99, q6_101, (x_sel (x_p3 (List.mem_of_getElem? (i := 1) rfl))), q1_12⟩ (by decide) (by decide) rfl) ?_
  refine x_bok.cons (xs_iald d_R_dispense_143 rfl) ?_
  refine x_bok.cons (xs_dup2 d_R_dispense_144) ?_
  refine x_bok.cons (xs_iald d_R_dispense_145 rfl) ?_
  refine x_bok.cons (xs_iload d_R_dispense_146) ?_
  refine x_bok.cons (xs_iadd d_R_dispense_148) ?_
  refine x_bok.cons (xs_iast d_R_dispense_149 rfl) ?_
  refine x_bok.cons (xs_vret d_R_dispense_150 rfl) ?_
  exact x_bok.nil
set_option maxRecDepth 100000 in
theorem mn_R_dispense : x_bmn b_R_dispense := by
  unfold b_R_dispense
  refine x_bmn.cons (xm_aload) ?_
  refine x_bmn.cons (xm_get) ?_
  refine x_bmn.cons (xm_iload) ?_
  refine x_bmn.cons (xm_ald) ?_
  refine x_bmn.cons (xm_iload) ?_
  refine x_bmn.cons (xm_icmp) ?_
  refine x_bmn.cons (xm_vret) ?_
  refine x_bmn.cons (xm_push) ?_
  refine x_bmn.cons (xm_istore) ?_
  refine x_bmn.cons (xm_push) ?_
  refine x_bmn.cons (xm_istore) ?_
  refine x_bmn.cons (xm_push) ?_
  refine x_bmn.cons (xm_istore) ?_
  refine x_bmn.cons (xm_iload) ?_
  refine x_bmn.cons (xm_if) ?_
  refine x_bmn.cons (xm_push) ?_
  refine x_bmn.cons (xm_istore) ?_
  refine x_bmn.cons (xm_iload) ?_
  refine x_bmn.cons (xm_aload) ?_
  refine x_bmn.cons (xm_get) ?_
  refine x_bmn.cons (xm_iload) ?_
  refine x_bmn.cons (xm_ald) ?_
  refine x_bmn.cons (xm_icmp) ?_
  refine x_bmn.cons (xm_iload) ?_
  refine x_bmn.cons (xm_aload) ?_
  refine x_bmn.cons (xm_get) ?_
  refine x_bmn.cons (xm_iload) ?_
  refine x_bmn.cons (xm_ald) ?_
  refine x_bmn.cons (xm_icmp) ?_
  refine x_bmn.cons (xm_goto) ?_
  refine x_bmn.cons (xm_iinc) ?_
  refine x_bmn.cons (xm_aload) ?_
  refine x_bmn.cons (xm_get) ?_
  refine x_bmn.cons (xm_push) ?_
  refine x_bmn.cons (xm_iload) ?_
  refine x_bmn.cons (xm_bin) ?_
  refine x_bmn.cons (xm_iload) ?_
  refine x_bmn.cons (xm_bin) ?_
  refine x_bmn.cons (xm_dup2) ?_
  refine x_bmn.cons (xm_ald) ?_
  refine x_bmn.cons (xm_push) ?_
  refine x_bmn.cons (xm_bin) ?_
  refine x_bmn.cons (xm_ast) ?_
  refine x_bmn.cons (xm_iload) ?_
  refine x_bmn.cons (xm_push) ?_
  refine x_bmn.cons (xm_iload) ?_
  refine x_bmn.cons (xm_ald) ?_
  refine x_bmn.cons (xm_bin) ?_
  refine x_bmn.cons (xm_istore) ?_
  refine x_bmn.cons (xm_iinc) ?_
  refine x_bmn.cons (xm_goto) ?_
  refine x_bmn.cons (xm_iinc) ?_
  refine x_bmn.cons (xm_goto) ?_
  refine x_bmn.cons (xm_aload) ?_
  refine x_bmn.cons (xm_get) ?_
  refine x_bmn.cons (xm_iload) ?_
  refine x_bmn.cons (xm_push) ?_
  refine x_bmn.cons (xm_ast) ?_
  refine x_bmn.cons (xm_aload) ?_
  refine x_bmn.cons (xm_get) ?_
  refine x_bmn.cons (xm_iload) ?_
  refine x_bmn.cons (xm_iload) ?_
  refine x_bmn.cons (xm_ast) ?_
  refine x_bmn.cons (xm_aload) ?_
  refine x_bmn.cons (xm_get) ?_
  refine x_bmn.cons (xm_iload) ?_
  refine x_bmn.cons (xm_iload) ?_
  refine x_bmn.cons (xm_ast) ?_
  refine x_bmn.cons (xm_aload) ?_
  refine x_bmn.cons (xm_get) ?_
  refine x_bmn.cons (xm_iload) ?_
  refine x_bmn.cons (xm_dup2) ?_
  refine x_bmn.cons (xm_ald) ?_
  refine x_bmn.cons (xm_iload) ?_
  refine x_bmn.cons (xm_bin) ?_
  refine x_bmn.cons (xm_ast) ?_
  refine x_bmn.cons (xm_aload) ?_
  refine x_bmn.cons (xm_get) ?_
  refine x_bmn.cons (xm_aload) ?_
  refine x_bmn.cons (xm_get) ?_
  refine x_bmn.cons (xm_aload) ?_
  refine x_bmn.cons (xm_iload) ?_
  refine x_bmn.cons (xm_push) ?_
  refine x_bmn.cons (xm_iload) ?_
  refine x_bmn.cons (xm_iload) ?_
  refine x_bmn.cons (xm_invV ym_R_find) ?_
  refine x_bmn.cons (xm_ald) ?_
  refine x_bmn.cons (xm_dup2) ?_
  refine x_bmn.cons (xm_ald) ?_
  refine x_bmn.cons (xm_iload) ?_
  refine x_bmn.cons (xm_bin) ?_
  refine x_bmn.cons (xm_ast) ?_
  refine x_bmn.cons (xm_vret) ?_
  exact x_bmn.nil
theorem is_R_dispense : x_Is y_R_dispense m_R_dispense := x_is_code q6_168
def Y_R_dispense : XMeth := x_do 7 b_R_dispense
theorem sn_R_dispense : x_Snd y_R_dispense m_R_dispense Y_R_dispense := x_snd_of (by decide) rfl rfl is_R_dispense k_R_dispense
theorem ym_R_dispense : x_Ymn Y_R_dispense := x_ymn_of mn_R_dispense
/- CashLinkModel.paid(III)V -/
abbrev c_R_paid : ByteArray := prog_12_method_20_code
def y_R_paid : MethodName := ⟨"CashLinkModel", "paid", "(III)V"⟩
theorem d_R_paid_0 : decode c_R_paid 0 = .ok (.aload_n 0, 1) := by decide +kernel
theorem d_R_paid_1 : decode c_R_paid 1 = .ok (.iload_n 1, 1) := by decide +kernel
theorem d_R_paid_2 : decode c_R_paid 2 = .ok (.iconst 3, 1) := by decide +kernel
theorem d_R_paid_3 : decode c_R_paid 3 = .ok (.iload_n 1, 1) := by decide +kernel
theorem d_R_paid_4 : decode c_R_paid 4 = .ok (.iload_n 2, 1) := by decide +kernel
theorem d_R_paid_5 : decode c_R_paid 5 = .ok (.iload_n 3, 1) := by decide +kernel
theorem d_R_paid_6 : decode c_R_paid 6 = .ok (.iconst 0, 1) := by decide +kernel
theorem d_R_paid_7 : decode c_R_paid 7 = .ok (.iconst 0, 1) := by decide +kernel
theorem d_R_paid_8 : decode c_R_paid 8 = .ok (.invokevirtual 138, 3) := by decide +kernel
theorem d_R_paid_11 : decode c_R_paid 11 = .ok (.aload_n 0, 1) := by decide +kernel
theorem d_R_paid_12 : decode c_R_paid 12 = .ok (.iload_n 1, 1) := by decide +kernel
theorem d_R_paid_13 : decode c_R_paid 13 = .ok (.iload_n 2, 1) := by decide +kernel
theorem d_R_paid_14 : decode c_R_paid 14 = .ok (.invokevirtual 149, 3) := by decide +kernel
theorem d_R_paid_17 : decode c_R_paid 17 = .ok (.iload_n 3, 1) := by decide +kernel
theorem d_R_paid_18 : decode c_R_paid 18 = .ok (.isub, 1) := by decide +kernel
theorem d_R_paid_19 : decode c_R_paid 19 = .ok (.istore 4, 2) := by decide +kernel
theorem d_R_paid_21 : decode c_R_paid 21 = .ok (.iload 4, 2) := by decide +kernel
theorem d_R_paid_23 : decode c_R_paid 23 = .ok (.ifCond .le 11, 3) := by decide +kernel
theorem d_R_paid_26 : decode c_R_paid 26 = .ok (.aload_n 0, 1) := by decide +kernel
theorem d_R_paid_27 : decode c_R_paid 27 = .ok (.iload_n 1, 1) := by decide +kernel
theorem d_R_paid_28 : decode c_R_paid 28 = .ok (.iload_n 2, 1) := by decide +kernel
theorem d_R_paid_29 : decode c_R_paid 29 = .ok (.iload 4, 2) := by decide +kernel
theorem d_R_paid_31 : decode c_R_paid 31 = .ok (.invokevirtual 152, 3) := by decide +kernel
theorem d_R_paid_34 : decode c_R_paid 34 = .ok (.return_, 1) := by decide +kernel
def m_R_paid : XM := ("CashLinkModel", c_R_paid, 5, none, "paid", [], 8, 142)
def b_R_paid : XB := [(0, X_aload 0 1),
  (1, X_iload 1 1),
  (2, X_push (xv_i 3) 1),
  (3, X_iload 1 1),
  (4, X_iload 2 1),
  (5, X_iload 3 1),
  (6, X_push (xv_i 0) 1),
  (7, X_push (xv_i 0) 1),
  (8, X_invV 10 Y_R_record 7 []),
  (11, X_aload 0 1),
  (12, X_iload 1 1),
  (13, X_iload 2 1),
  (14, X_invV 10 Y_R_amountOf 2 []),
  (17, X_iload 3 1),
  (18, X_bin (fun x y => x - y)),
  (19, X_istore 4 2),
  (21, X_iload 4 2),
  (23, X_if (fun x => x ≤ 0) 34),
  (26, X_aload 0 1),
  (27, X_iload 1 1),
  (28, X_iload 2 1),
  (29, X_iload 4 2),
  (31, X_invV 10 Y_R_reverse 3 []),
  (34, X_vret)]
set_option maxRecDepth 100000 in
theorem k_R_paid : x_bok m_R_paid b_R_paid := by
  unfold b_R_paid
  refine x_bok.cons (xs_aload_n d_R_paid_0 rfl) ?_
  refine x_bok.cons (xs_iload_n d_R_paid_1 rfl) ?_
  refine x_bok.cons (xs_iconst d_R_paid_2 (by decide)) ?_
  refine x_bok.cons (xs_iload_n d_R_paid_3 rfl) ?_
  refine x_bok.cons (xs_iload_n d_R_paid_4 rfl) ?_
  refine x_bok.cons (xs_iload_n d_R_paid_5 rfl) ?_
  refine x_bok.cons (xs_iconst d_R_paid_6 (by decide)) ?_
  refine x_bok.cons (xs_iconst d_R_paid_7 (by decide)) ?_
  refine x_bok.cons (xs_invV d_R_paid_8 xc10 sn_R_record is_R_record ⟨q6_107, q6_109, (x_sel (x_p3 (List.mem_of_getElem? (i := 3) rfl))), q1_12⟩ (by decide) (by decide) rfl) ?_
  refine x_bok.cons (xs_aload_n d_R_paid_11 rfl) ?_
  refine x_bok.cons (xs_iload_n d_R_paid_12 rfl) ?_
  refine x_bok.cons (xs_iload_n d_R_paid_13 rfl) ?_
  refine x_bok.cons (xs_invV d_R_paid_14 xc10 sn_R_amountOf is_R_amountOf ⟨q6_133, q6_135, (x_sel (x_p3 (List.mem_of_getElem? (i := 6) rfl))), q1_12⟩ (by decide) (by decide) rfl) ?_
  refine x_bok.cons (xs_iload_n d_R_paid_17 rfl) ?_
  refine x_bok.cons (xs_isub d_R_paid_18) ?_
  refine x_bok.cons (xs_istore d_R_paid_19 (by decide)) ?_
  refine x_bok.cons (xs_iload d_R_paid_21) ?_
  refine x_bok.cons (xs_if_le d_R_paid_23 (by decide)) ?_
  refine x_bok.cons (xs_aload_n d_R_paid_26 rfl) ?_
  refine x_bok.cons (xs_iload_n d_R_paid_27 rfl) ?_
  refine x_bok.cons (xs_iload_n d_R_paid_28 rfl) ?_
  refine x_bok.cons (xs_iload d_R_paid_29) ?_
  refine x_bok.cons (xs_invV d_R_paid_31 xc10 sn_R_reverse is_R_reverse ⟨q6_137, q6_139, (x_sel (x_p3 (List.mem_of_getElem? (i := 7) rfl))), q1_12⟩ (by decide) (by decide) rfl) ?_
  refine x_bok.cons (xs_vret d_R_paid_34 rfl) ?_
  exact x_bok.nil
set_option maxRecDepth 100000 in
theorem mn_R_paid : x_bmn b_R_paid := by
  unfold b_R_paid
  refine x_bmn.cons (xm_aload) ?_
  refine x_bmn.cons (xm_iload) ?_
  refine x_bmn.cons (xm_push) ?_
  refine x_bmn.cons (xm_iload) ?_
  refine x_bmn.cons (xm_iload) ?_
  refine x_bmn.cons (xm_iload) ?_
  refine x_bmn.cons (xm_push) ?_
  refine x_bmn.cons (xm_push) ?_
  refine x_bmn.cons (xm_invV ym_R_record) ?_
  refine x_bmn.cons (xm_aload) ?_
  refine x_bmn.cons (xm_iload) ?_
  refine x_bmn.cons (xm_iload) ?_
  refine x_bmn.cons (xm_invV ym_R_amountOf) ?_
  refine x_bmn.cons (xm_iload) ?_
  refine x_bmn.cons (xm_bin) ?_
  refine x_bmn.cons (xm_istore) ?_
  refine x_bmn.cons (xm_iload) ?_
  refine x_bmn.cons (xm_if) ?_
  refine x_bmn.cons (xm_aload) ?_
  refine x_bmn.cons (xm_iload) ?_
  refine x_bmn.cons (xm_iload) ?_
  refine x_bmn.cons (xm_iload) ?_
  refine x_bmn.cons (xm_invV ym_R_reverse) ?_
  refine x_bmn.cons (xm_vret) ?_
  exact x_bmn.nil
theorem is_R_paid : x_Is y_R_paid m_R_paid := x_is_code q6_174
def Y_R_paid : XMeth := x_do 5 b_R_paid
theorem sn_R_paid : x_Snd y_R_paid m_R_paid Y_R_paid := x_snd_of (by decide) rfl rfl is_R_paid k_R_paid
theorem ym_R_paid : x_Ymn Y_R_paid := x_ymn_of mn_R_paid
/- CashLinkModel.answered(II)V -/
abbrev c_R_answered : ByteArray := prog_12_method_21_code
def y_R_answered : MethodName := ⟨"CashLinkModel", "answered", "(II)V"⟩
theorem d_R_answered_0 : decode c_R_answered 0 = .ok (.aload_n 0, 1) := by decide +kernel
theorem d_R_answered_1 : decode c_R_answered 1 = .ok (.getfield 77, 3) := by decide +kernel
theorem d_R_answered_4 : decode c_R_answered 4 = .ok (.iload_n 2, 1) := by decide +kernel
theorem d_R_answered_5 : decode c_R_answered 5 = .ok (.iaload, 1) := by decide +kernel
theorem d_R_answered_6 : decode c_R_answered 6 = .ok (.istore_n 3, 1) := by decide +kernel
theorem d_R_answered_7 : decode c_R_answered 7 = .ok (.aload_n 0, 1) := by decide +kernel
theorem d_R_answered_8 : decode c_R_answered 8 = .ok (.getfield 41, 3) := by decide +kernel
theorem d_R_answered_11 : decode c_R_answered 11 = .ok (.iload_n 1, 1) := by decide +kernel
theorem d_R_answered_12 : decode c_R_answered 12 = .ok (.iaload, 1) := by decide +kernel
theorem d_R_answered_13 : decode c_R_answered 13 = .ok (.iconst 4, 1) := by decide +kernel
theorem d_R_answered_14 : decode c_R_answered 14 = .ok (.if_icmp .ne 12, 3) := by decide +kernel
theorem d_R_answered_17 : decode c_R_answered 17 = .ok (.iload_n 3, 1) := by decide +kernel
theorem d_R_answered_18 : decode c_R_answered 18 = .ok (.aload_n 0, 1) := by decide +kernel
theorem d_R_answered_19 : decode c_R_answered 19 = .ok (.iload_n 1, 1) := by decide +kernel
theorem d_R_answered_20 : decode c_R_answered 20 = .ok (.invokevirtual 146, 3) := by decide +kernel
theorem d_R_answered_23 : decode c_R_answered 23 = .ok (.if_icmp .eq 4, 3) := by decide +kernel
theorem d_R_answered_26 : decode c_R_answered 26 = .ok (.return_, 1) := by decide +kernel
theorem d_R_answered_27 : decode c_R_answered 27 = .ok (.aload_n 0, 1) := by decide +kernel
theorem d_R_answered_28 : decode c_R_answered 28 = .ok (.getfield 80, 3) := by decide +kernel
theorem d_R_answered_31 : decode c_R_answered 31 = .ok (.iload_n 2, 1) := by decide +kernel
theorem d_R_answered_32 : decode c_R_answered 32 = .ok (.iaload, 1) := by decide +kernel
theorem d_R_answered_33 : decode c_R_answered 33 = .ok (.ifCond .eq 22, 3) := by decide +kernel
theorem d_R_answered_36 : decode c_R_answered 36 = .ok (.aload_n 0, 1) := by decide +kernel
theorem d_R_answered_37 : decode c_R_answered 37 = .ok (.iload_n 1, 1) := by decide +kernel
theorem d_R_answered_38 : decode c_R_answered 38 = .ok (.iconst 5, 1) := by decide +kernel
theorem d_R_answered_39 : decode c_R_answered 39 = .ok (.iload_n 1, 1) := by decide +kernel
theorem d_R_answered_40 : decode c_R_answered 40 = .ok (.iload_n 3, 1) := by decide +kernel
theorem d_R_answered_41 : decode c_R_answered 41 = .ok (.iconst 0, 1) := by decide +kernel
theorem d_R_answered_42 : decode c_R_answered 42 = .ok (.iconst 0, 1) := by decide +kernel
theorem d_R_answered_43 : decode c_R_answered 43 = .ok (.iconst 0, 1) := by decide +kernel
theorem d_R_answered_44 : decode c_R_answered 44 = .ok (.invokevirtual 138, 3) := by decide +kernel
theorem d_R_answered_47 : decode c_R_answered 47 = .ok (.aload_n 0, 1) := by decide +kernel
theorem d_R_answered_48 : decode c_R_answered 48 = .ok (.getfield 41, 3) := by decide +kernel
theorem d_R_answered_51 : decode c_R_answered 51 = .ok (.iload_n 1, 1) := by decide +kernel
theorem d_R_answered_52 : decode c_R_answered 52 = .ok (.iconst 1, 1) := by decide +kernel
theorem d_R_answered_53 : decode c_R_answered 53 = .ok (.iastore, 1) := by decide +kernel
theorem d_R_answered_54 : decode c_R_answered 54 = .ok (.return_, 1) := by decide +kernel
theorem d_R_answered_55 : decode c_R_answered 55 = .ok (.aload_n 0, 1) := by decide +kernel
theorem d_R_answered_56 : decode c_R_answered 56 = .ok (.iload_n 1, 1) := by decide +kernel
theorem d_R_answered_57 : decode c_R_answered 57 = .ok (.aload_n 0, 1) := by decide +kernel
theorem d_R_answered_58 : decode c_R_answered 58 = .ok (.iload_n 1, 1) := by decide +kernel
theorem d_R_answered_59 : decode c_R_answered 59 = .ok (.iload_n 3, 1) := by decide +kernel
theorem d_R_answered_60 : decode c_R_answered 60 = .ok (.invokevirtual 149, 3) := by decide +kernel
theorem d_R_answered_63 : decode c_R_answered 63 = .ok (.invokevirtual 159, 3) := by decide +kernel
theorem d_R_answered_66 : decode c_R_answered 66 = .ok (.ifCond .ne 9, 3) := by decide +kernel
theorem d_R_answered_69 : decode c_R_answered 69 = .ok (.aload_n 0, 1) := by decide +kernel
theorem d_R_answered_70 : decode c_R_answered 70 = .ok (.iload_n 1, 1) := by decide +kernel
theorem d_R_answered_71 : decode c_R_answered 71 = .ok (.invokevirtual 162, 3) := by decide +kernel
theorem d_R_answered_74 : decode c_R_answered 74 = .ok (.return_, 1) := by decide +kernel
theorem d_R_answered_75 : decode c_R_answered 75 = .ok (.iconst 0, 1) := by decide +kernel
theorem d_R_answered_76 : decode c_R_answered 76 = .ok (.istore 4, 2) := by decide +kernel
theorem d_R_answered_78 : decode c_R_answered 78 = .ok (.iload 4, 2) := by decide +kernel
theorem d_R_answered_80 : decode c_R_answered 80 = .ok (.iconst 4, 1) := by decide +kernel
theorem d_R_answered_81 : decode c_R_answered 81 = .ok (.if_icmp .ge 23, 3) := by decide +kernel
theorem d_R_answered_84 : decode c_R_answered 84 = .ok (.aload_n 0, 1) := by decide +kernel
theorem d_R_answered_85 : decode c_R_answered 85 = .ok (.getfield 89, 3) := by decide +kernel
theorem d_R_answered_88 : decode c_R_answered 88 = .ok (.iload 4, 2) := by decide +kernel
theorem d_R_answered_90 : decode c_R_answered 90 = .ok (.aload_n 0, 1) := by decide +kernel
theorem d_R_answered_91 : decode c_R_answered 91 = .ok (.getfield 86, 3) := by decide +kernel
theorem d_R_answered_94 : decode c_R_answered 94 = .ok (.iload 4, 2) := by decide +kernel
theorem d_R_answered_96 : decode c_R_answered 96 = .ok (.iaload, 1) := by decide +kernel
theorem d_R_answered_97 : decode c_R_answered 97 = .ok (.iastore, 1) := by decide +kernel
theorem d_R_answered_98 : decode c_R_answered 98 = .ok (.iinc 4 1, 3) := by decide +kernel
theorem d_R_answered_101 : decode c_R_answered 101 = .ok (.goto (-23), 3) := by decide +kernel
theorem d_R_answered_104 : decode c_R_answered 104 = .ok (.aload_n 0, 1) := by decide +kernel
theorem d_R_answered_105 : decode c_R_answered 105 = .ok (.iload_n 1, 1) := by decide +kernel
theorem d_R_answered_106 : decode c_R_answered 106 = .ok (.iconst 2, 1) := by decide +kernel
theorem d_R_answered_107 : decode c_R_answered 107 = .ok (.iload_n 1, 1) := by decide +kernel
theorem d_R_answered_108 : decode c_R_answered 108 = .ok (.iload_n 3, 1) := by decide +kernel
theorem d_R_answered_109 : decode c_R_answered 109 = .ok (.aload_n 0, 1) := by decide +kernel
theorem d_R_answered_110 : decode c_R_answered 110 = .ok (.getfield 89, 3) := by decide +kernel
theorem d_R_answered_113 : decode c_R_answered 113 = .ok (.iconst 0, 1) := by decide +kernel
theorem d_R_answered_114 : decode c_R_answered 114 = .ok (.iaload, 1) := by decide +kernel
theorem d_R_answered_115 : decode c_R_answered 115 = .ok (.bipush 64, 2) := by decide +kernel
theorem d_R_answered_117 : decode c_R_answered 117 = .ok (.aload_n 0, 1) := by decide +kernel
theorem d_R_answered_118 : decode c_R_answered 118 = .ok (.getfield 89, 3) := by decide +kernel
theorem d_R_answered_121 : decode c_R_answered 121 = .ok (.iconst 1, 1) := by decide +kernel
theorem d_R_answered_122 : decode c_R_answered 122 = .ok (.iaload, 1) := by decide +kernel
theorem d_R_answered_123 : decode c_R_answered 123 = .ok (.imul, 1) := by decide +kernel
theorem d_R_answered_124 : decode c_R_answered 124 = .ok (.iadd, 1) := by decide +kernel
theorem d_R_answered_125 : decode c_R_answered 125 = .ok (.aload_n 0, 1) := by decide +kernel
theorem d_R_answered_126 : decode c_R_answered 126 = .ok (.getfield 89, 3) := by decide +kernel
theorem d_R_answered_129 : decode c_R_answered 129 = .ok (.iconst 2, 1) := by decide +kernel
theorem d_R_answered_130 : decode c_R_answered 130 = .ok (.iaload, 1) := by decide +kernel
theorem d_R_answered_131 : decode c_R_answered 131 = .ok (.bipush 64, 2) := by decide +kernel
theorem d_R_answered_133 : decode c_R_answered 133 = .ok (.aload_n 0, 1) := by decide +kernel
theorem d_R_answered_134 : decode c_R_answered 134 = .ok (.getfield 89, 3) := by decide +kernel
theorem d_R_answered_137 : decode c_R_answered 137 = .ok (.iconst 3, 1) := by decide +kernel
theorem d_R_answered_138 : decode c_R_answered 138 = .ok (.iaload, 1) := by decide +kernel
theorem d_R_answered_139 : decode c_R_answered 139 = .ok (.imul, 1) := by decide +kernel
theorem d_R_answered_140 : decode c_R_answered 140 = .ok (.iadd, 1) := by decide +kernel
theorem d_R_answered_141 : decode c_R_answered 141 = .ok (.iconst 0, 1) := by decide +kernel
theorem d_R_answered_142 : decode c_R_answered 142 = .ok (.invokevirtual 138, 3) := by decide +kernel
theorem d_R_answered_145 : decode c_R_answered 145 = .ok (.aload_n 0, 1) := by decide +kernel
theorem d_R_answered_146 : decode c_R_answered 146 = .ok (.iload_n 1, 1) := by decide +kernel
theorem d_R_answered_147 : decode c_R_answered 147 = .ok (.iload_n 3, 1) := by decide +kernel
theorem d_R_answered_148 : decode c_R_answered 148 = .ok (.invokevirtual 166, 3) := by decide +kernel
theorem d_R_answered_151 : decode c_R_answered 151 = .ok (.aload_n 0, 1) := by decide +kernel
theorem d_R_answered_152 : decode c_R_answered 152 = .ok (.iload_n 1, 1) := by decide +kernel
theorem d_R_answered_153 : decode c_R_answered 153 = .ok (.iload_n 3, 1) := by decide +kernel
theorem d_R_answered_154 : decode c_R_answered 154 = .ok (.aload_n 0, 1) := by decide +kernel
theorem d_R_answered_155 : decode c_R_answered 155 = .ok (.getfield 56, 3) := by decide +kernel
theorem d_R_answered_158 : decode c_R_answered 158 = .ok (.iload_n 1, 1) := by decide +kernel
theorem d_R_answered_159 : decode c_R_answered 159 = .ok (.iaload, 1) := by decide +kernel
theorem d_R_answered_160 : decode c_R_answered 160 = .ok (.invokevirtual 169, 3) := by decide +kernel
theorem d_R_answered_163 : decode c_R_answered 163 = .ok (.aload_n 0, 1) := by decide +kernel
theorem d_R_answered_164 : decode c_R_answered 164 = .ok (.getfield 41, 3) := by decide +kernel
theorem d_R_answered_167 : decode c_R_answered 167 = .ok (.iload_n 1, 1) := by decide +kernel
theorem d_R_answered_168 : decode c_R_answered 168 = .ok (.iconst 1, 1) := by decide +kernel
theorem d_R_answered_169 : decode c_R_answered 169 = .ok (.iastore, 1) := by decide +kernel
theorem d_R_answered_170 : decode c_R_answered 170 = .ok (.return_, 1) := by decide +kernel
def m_R_answered : XM := ("CashLinkModel", c_R_answered, 5, none, "answered", [], 9, 166)
def b_R_answered : XB := [(0, X_aload 0 1),
  (1, X_get 10 22),
  (4, X_iload 2 1),
  (5, X_ald 0),
  (6, X_istore 3 1),
  (7, X_aload 0 1),
  (8, X_get 10 10),
  (11, X_iload 1 1),
  (12, X_ald 0),
  (13, X_push (xv_i 4) 1),
  (14, X_icmp (fun x y => ¬ x = y) 26),
  (17, X_iload 3 1),
  (18, X_aload 0 1),
  (19, X_iload 1 1),
  (20, X_invV 10 Y_R_lastTrace 1 []),
  (23, X_icmp (fun x y => x = y) 27),
  (26, X_vret),
  (27, X_aload 0 1),
  (28, X_get 10 23),
  (31, X_iload 2 1),
  (32, X_ald 0),
  (33, X_if (fun x => x = 0) 55),
  (36, X_aload 0 1),
  (37, X_iload 1 1),
  (38, X_push (xv_i 5) 1),
  (39, X_iload 1 1),
  (40, X_iload 3 1),
  (41, X_push (xv_i 0) 1),
  (42, X_push (xv_i 0) 1),
  (43, X_push (xv_i 0) 1),
  (44, X_invV 10 Y_R_record 7 []),
  (47, X_aload 0 1),
  (48, X_get 10 10),
  (51, X_iload 1 1),
  (52, X_push (xv_i 1) 1),
  (53, X_ast 0 (fun x => x)),
  (54, X_vret),
  (55, X_aload 0 1),
  (56, X_iload 1 1),
  (57, X_aload 0 1),
  (58, X_iload 1 1),
  (59, X_iload 3 1),
  (60, X_invV 10 Y_R_amountOf 2 []),
  (63, X_invV 10 Y_R_mixed 2 []),
  (66, X_if (fun x => ¬ x = 0) 75),
  (69, X_aload 0 1),
  (70, X_iload 1 1),
  (71, X_invV 10 Y_R_late 1 []),
  (74, X_vret),
  (75, X_push (xv_i 0) 1),
  (76, X_istore 4 2),
  (78, X_iload 4 2),
  (80, X_push (xv_i 4) 1),
  (81, X_icmp (fun x y => y ≤ x) 104),
  (84, X_aload 0 1),
  (85, X_get 10 28),
  (88, X_iload 4 2),
  (90, X_aload 0 1),
  (91, X_get 10 27),
  (94, X_iload 4 2),
  (96, X_ald 0),
  (97, X_ast 0 (fun x => x)),
  (98, X_iinc 4 1),
  (101, X_goto 78),
  (104, X_aload 0 1),
  (105, X_iload 1 1),
  (106, X_push (xv_i 2) 1),
  (107, X_iload 1 1),
  (108, X_iload 3 1),
  (109, X_aload 0 1),
  (110, X_get 10 28),
  (113, X_push (xv_i 0) 1),
  (114, X_ald 0),
  (115, X_push (xv_i 64) 2),
  (117, X_aload 0 1),
  (118, X_get 10 28),
  (121, X_push (xv_i 1) 1),
  (122, X_ald 0),
  (123, X_bin (fun x y => x * y)),
  (124, X_bin (fun x y => x + y)),
  (125, X_aload 0 1),
  (126, X_get 10 28),
  (129, X_push (xv_i 2) 1),
  (130, X_ald 0),
  (131, X_push (xv_i 64) 2),
  (133, X_aload 0 1),
  (134, X_get 10 28),
  (137, X_push (xv_i 3) 1),
  (138, X_ald 0),
  (139, X_bin (fun x y => x * y)),
  (140, X_bin (fun x y => x + y)),
  (141, X_push (xv_i 0) 1),
  (142, X_invV 10 Y_R_record 7 []),
  (145, X_aload 0 1),
  (146, X_iload 1 1),
  (147, X_iload 3 1),
  (148, X_invV 10 Y_R_dispense 2 []),
  (151, X_aload 0 1),
  (152, X_iload 1 1),
  (153, X_iload 3 1),
  (154, X_aload 0 1),
  (155, X_get 10 15),
  (158, X_iload 1 1),
  (159, X_ald 0),
  (160, X_invV 10 Y_R_paid 3 []),
  (163, X_aload 0 1),
  (164, X_get 10 10),
  (167, X_iload 1 1),
  (168, X_push (xv_i 1) 1),
  (169, X_ast 0 (fun x => x)),
  (170, X_vret)]
set_option maxRecDepth 100000 in
theorem k_R_answered : x_bok m_R_answered b_R_answered := by
  unfold b_R_answered
  refine x_bok.cons (xs_aload_n d_R_answered_0 rfl) ?_
  refine x_bok.cons (xs_get d_R_answered_1 xc10 xw10 (by decide) q5_227 (Or.inl rfl)) ?_
  refine x_bok.cons (xs_iload_n d_R_answered_4 rfl) ?_
  refine x_bok.cons (xs_iald d_R_answered_5 rfl) ?_
  refine x_bok.cons (xs_istore_n d_R_answered_6 rfl (by decide)) ?_
  refine x_bok.cons (xs_aload_n d_R_answered_7 rfl) ?_
  refine x_bok.cons (xs_get d_R_answered_8 xc10 xw10 (by decide) q5_215 (Or.inl rfl)) ?_
  refine x_bok.cons (xs_iload_n d_R_answered_11 rfl) ?_
  refine x_bok.cons (xs_iald d_R_answered_12 rfl) ?_
  refine x_bok.cons (xs_iconst d_R_answered_13 (by decide)) ?_
  refine x_bok.cons (xs_icmp_ne d_R_answered_14 (by decide)) ?_
  refine x_bok.cons (xs_iload_n d_R_answered_17 rfl) ?_
  refine x_bok.cons (xs_aload_n d_R_answered_18 rfl) ?_
  refine x_bok.cons (xs_iload_n d_R_answered_19 rfl) ?_
  refine x_bok.cons (xs_invV d_R_answered_20 xc10 sn_R_lastTrace is_R_lastTrace ⟨q6_103, q6_105, (x_sel (x_p3 (List.mem_of_getElem? (i := 2) rfl))), q1_12⟩ (by decide) (by decide) rfl) ?_
  refine x_bok.cons (xs_icmp_eq d_R_answered_23 (by decide)) ?_
  refine x_bok.cons (xs_vret d_R_answered_26 rfl) ?_
  refine x_bok.cons (xs_aload_n d_R_answered_27 rfl) ?_
  refine x_bok.cons (xs_get d_R_answered_28 xc10 xw10 (by decide) q5_228 (Or.inl rfl)) ?_
  refine x_bok.cons (xs_iload_n d_R_answered_31 rfl) ?_
  refine x_bok.cons (xs_iald d_R_answered_32 rfl) ?_
  refine x_bok.cons (xs_if_eq d_R_answered_33 (by decide)) ?_
  refine x_bok.cons (xs_aload_n d_R_answered_36 rfl) ?_
  refine x_bok.cons (xs_iload_n d_R_answered_37 rfl) ?_
  refine x_bok.cons (xs_iconst d_R_answered_38 (by decide)) ?_
  refine x_bok.cons (xs_iload_n d_R_answered_39 rfl) ?_
  refine x_bok.cons (xs_iload_n d_R_answered_40 rfl) ?_
  refine x_bok.cons (xs_iconst d_R_answered_41 (by decide)) ?_
  refine x_bok.cons (xs_iconst d_R_answered_42 (by decide)) ?_
  refine x_bok.cons (xs_iconst d_R_answered_43 (by decide)) ?_
  refine x_bok.cons (xs_invV d_R_answered_44 xc10 sn_R_record is_R_record ⟨q6_107, q6_109, (x_sel (x_p3 (List.mem_of_getElem? (i := 3) rfl))), q1_12⟩ (by decide) (by decide) rfl) ?_
  refine x_bok.cons (xs_aload_n d_R_answered_47 rfl) ?_
  refine x_bok.cons (xs_get d_R_answered_48 xc10 xw10 (by decide) q5_215 (Or.inl rfl)) ?_
  refine x_bok.cons (xs_iload_n d_R_answered_51 rfl) ?_
  refine x_bok.cons (xs_iconst d_R_answered_52 (by decide)) ?_
  refine x_bok.cons (xs_iast d_R_answered_53 rfl) ?_
  refine x_bok.cons (xs_vret d_R_answered_54 rfl) ?_
  refine x_bok.cons (xs_aload_n d_R_answered_55 rfl) ?_
  refine x_bok.cons (xs_iload_n d_R_answered_56 rfl) ?_
  refine x_bok.cons (xs_aload_n d_R_answered_57 rfl) ?_
  refine x_bok.cons (xs_iload_n d_R_answered_58 rfl) ?_
  refine x_bok.cons (xs_iload_n d_R_answered_59 rfl) ?_
  refine x_bok.cons (xs_invV d_R_answered_60 xc10 sn_R_amountOf is_R_amountOf ⟨q6_133, q6_135, (x_sel (x_p3 (List.mem_of_getElem? (i := 6) rfl))), q1_12⟩ (by decide) (by decide) rfl) ?_
  refine x_bok.cons (xs_invV d_R_answered_63 xc10 sn_R_mixed is_R_mixed ⟨q6_79, q6_81, (x_sel (x_p2 (List.mem_of_getElem? (i := 13) rfl))), q1_12⟩ (by decide) (by decide) rfl) ?_
  refine x_bok.cons (xs_if_ne d_R_answered_66 (by decide)) ?_
  refine x_bok.cons (xs_aload_n d_R_answered_69 rfl) ?_
  refine x_bok.cons (xs_iload_n d_R_answered_70 rfl) ?_
  refine x_bok.cons (xs_invV d_R_answered_71 xc10 sn_R_late is_R_late ⟨q6_129, q6_131, (x_sel (x_p3 (List.mem_of_getElem? (i := 5) rfl))), q1_12⟩ (by decide) (by decide) rfl) ?_
  refine x_bok.cons (xs_vret d_R_answered_74 rfl) ?_
  refine x_bok.cons (xs_iconst d_R_answered_75 (by decide)) ?_
  refine x_bok.cons (xs_istore d_R_answered_76 (by decide)) ?_
  refine x_bok.cons (xs_iload d_R_answered_78) ?_
  refine x_bok.cons (xs_iconst d_R_answered_80 (by decide)) ?_
  refine x_bok.cons (xs_icmp_ge d_R_answered_81 (by decide)) ?_
  refine x_bok.cons (xs_aload_n d_R_answered_84 rfl) ?_
  refine x_bok.cons (xs_get d_R_answered_85 xc10 xw10 (by decide) q5_233 (Or.inl rfl)) ?_
  refine x_bok.cons (xs_iload d_R_answered_88) ?_
  refine x_bok.cons (xs_aload_n d_R_answered_90 rfl) ?_
  refine x_bok.cons (xs_get d_R_answered_91 xc10 xw10 (by decide) q5_232 (Or.inl rfl)) ?_
  refine x_bok.cons (xs_iload d_R_answered_94) ?_
  refine x_bok.cons (xs_iald d_R_answered_96 rfl) ?_
  refine x_bok.cons (xs_iast d_R_answered_97 rfl) ?_
  refine x_bok.cons (xs_iinc d_R_answered_98 (by decide) (by decide)) ?_
  refine x_bok.cons (xs_goto d_R_answered_101 (by decide)) ?_
  refine x_bok.cons (xs_aload_n d_R_answered_104 rfl) ?_
  refine x_bok.cons (xs_iload_n d_R_answered_105 rfl) ?_
  refine x_bok.cons (xs_iconst d_R_answered_106 (by decide)) ?_
  refine x_bok.cons (xs_iload_n d_R_answered_107 rfl) ?_
  refine x_bok.cons (xs_iload_n d_R_answered_108 rfl) ?_
  refine x_bok.cons (xs_aload_n d_R_answered_109 rfl) ?_
  refine x_bok.cons (xs_get d_R_answered_110 xc10 xw10 (by decide) q5_233 (Or.inl rfl)) ?_
  refine x_bok.cons (xs_iconst d_R_answered_113 (by decide)) ?_
  refine x_bok.cons (xs_iald d_R_answered_114 rfl) ?_
  refine x_bok.cons (xs_bipush d_R_answered_115 (by decide)) ?_
  refine x_bok.cons (xs_aload_n d_R_answered_117 rfl) ?_
  refine x_bok.cons (xs_get d_R_answered_118 xc10 xw10 (by decide) q5_233 (Or.inl rfl)) ?_
  refine x_bok.cons (xs_iconst d_R_answered_121 (by decide)) ?_
  refine x_bok.cons (xs_iald d_R_answered_122 rfl) ?_
  refine x_bok.cons (xs_imul d_R_answered_123) ?_
  refine x_bok.cons (xs_iadd d_R_answered_124) ?_
  refine x_bok.cons (xs_aload_n d_R_answered_125 rfl) ?_
  refine x_bok.cons (xs_get d_R_answered_126 xc10 xw10 (by decide) q5_233 (Or.inl rfl)) ?_
  refine x_bok.cons (xs_iconst d_R_answered_129 (by decide)) ?_
  refine x_bok.cons (xs_iald d_R_answered_130 rfl) ?_
  refine x_bok.cons (xs_bipush d_R_answered_131 (by decide)) ?_
  refine x_bok.cons (xs_aload_n d_R_answered_133 rfl) ?_
  refine x_bok.cons (xs_get d_R_answered_134 xc10 xw10 (by decide) q5_233 (Or.inl rfl)) ?_
  refine x_bok.cons (xs_iconst d_R_answered_137 (by decide)) ?_
  refine x_bok.cons (xs_iald d_R_answered_138 rfl) ?_
  refine x_bok.cons (xs_imul d_R_answered_139) ?_
  refine x_bok.cons (xs_iadd d_R_answered_140) ?_
  refine x_bok.cons (xs_iconst d_R_answered_141 (by decide)) ?_
  refine x_bok.cons (xs_invV d_R_answered_142 xc10 sn_R_record is_R_record ⟨q6_107, q6_109, (x_sel (x_p3 (List.mem_of_getElem? (i := 3) rfl))), q1_12⟩ (by decide) (by decide) rfl) ?_
  refine x_bok.cons (xs_aload_n d_R_answered_145 rfl) ?_
  refine x_bok.cons (xs_iload_n d_R_answered_146 rfl) ?_
  refine x_bok.cons (xs_iload_n d_R_answered_147 rfl) ?_
  refine x_bok.cons (xs_invV d_R_answered_148 xc10 sn_R_dispense is_R_dispense ⟨q6_165, q6_167, (x_sel (x_p3 (List.mem_of_getElem? (i := 11) rfl))), q1_12⟩ (by decide) (by decide) rfl) ?_
  refine x_bok.cons (xs_aload_n d_R_answered_151 rfl) ?_
  refine x_bok.cons (xs_iload_n d_R_answered_152 rfl) ?_
  refine x_bok.cons (xs_iload_n d_R_answered_153 rfl) ?_
  refine x_bok.cons (xs_aload_n d_R_answered_154 rfl) ?_
  refine x_bok.cons (xs_get d_R_answered_155 xc10 xw10 (by decide) q5_220 (Or.inl rfl)) ?_
  refine x_bok.cons (xs_iload_n d_R_answered_158 rfl) ?_
  refine x_bok.cons (xs_iald d_R_answered_159 rfl) ?_
  refine x_bok.cons (xs_invV d_R_answered_160 xc10 sn_R_paid is_R_paid ⟨q6_171, q6_173, (x_sel (x_p3 (List.mem_of_getElem? (i := 12) rfl))), q1_12⟩ (by decide) (by decide) rfl) ?_
  refine x_bok.cons (xs_aload_n d_R_answered_163 rfl) ?_
  refine x_bok.cons (xs_get d_R_answered_164 xc10 xw10 (by decide) q5_215 (Or.inl rfl)) ?_
  refine x_bok.cons (xs_iload_n d_R_answered_167 rfl) ?_
  refine x_bok.cons (xs_iconst d_R_answered_168 (by decide)) ?_
  refine x_bok.cons (xs_iast d_R_answered_169 rfl) ?_
  refine x_bok.cons (xs_vret d_R_answered_170 rfl) ?_
  exact x_bok.nil
set_option maxRecDepth 100000 in
theorem mn_R_answered : x_bmn b_R_answered := by
  unfold b_R_answered
  refine x_bmn.cons (xm_aload) ?_
  refine x_bmn.cons (xm_get) ?_
  refine x_bmn.cons (xm_iload) ?_
  refine x_bmn.cons (xm_ald) ?_
  refine x_bmn.cons (xm_istore) ?_
  refine x_bmn.cons (xm_aload) ?_
  refine x_bmn.cons (xm_get) ?_
  refine x_bmn.cons (xm_iload) ?_
  refine x_bmn.cons (xm_ald) ?_
  refine x_bmn.cons (xm_push) ?_
  refine x_bmn.cons (xm_icmp) ?_
  refine x_bmn.cons (xm_iload) ?_
  refine x_bmn.cons (xm_aload) ?_
  refine x_bmn.cons (xm_iload) ?_
  refine x_bmn.cons (xm_invV ym_R_lastTrace) ?_
  refine x_bmn.cons (xm_icmp) ?_
  refine x_bmn.cons (xm_vret) ?_
  refine x_bmn.cons (xm_aload) ?_
  refine x_bmn.cons (xm_get) ?_
  refine x_bmn.cons (xm_iload) ?_
  refine x_bmn.cons (xm_ald) ?_
  refine x_bmn.cons (xm_if) ?_
  refine x_bmn.cons (xm_aload) ?_
  refine x_bmn.cons (xm_iload) ?_
  refine x_bmn.cons (xm_push) ?_
  refine x_bmn.cons (xm_iload) ?_
  refine x_bmn.cons (xm_iload) ?_
  refine x_bmn.cons (xm_push) ?_
  refine x_bmn.cons (xm_push) ?_
  refine x_bmn.cons (xm_push) ?_
  refine x_bmn.cons (xm_invV ym_R_record) ?_
  refine x_bmn.cons (xm_aload) ?_
  refine x_bmn.cons (xm_get) ?_
  refine x_bmn.cons (xm_iload) ?_
  refine x_bmn.cons (xm_push) ?_
  refine x_bmn.cons (xm_ast) ?_
  refine x_bmn.cons (xm_vret) ?_
  refine x_bmn.cons (xm_aload) ?_
  refine x_bmn.cons (xm_iload) ?_
  refine x_bmn.cons (xm_aload) ?_
  refine x_bmn.cons (xm_iload) ?_
  refine x_bmn.cons (xm_iload) ?_
  refine x_bmn.cons (xm_invV ym_R_amountOf) ?_
  refine x_bmn.cons (xm_invV ym_R_mixed) ?_
  refine x_bmn.cons (xm_if) ?_
  refine x_bmn.cons (xm_aload) ?_
  refine x_bmn.cons (xm_iload) ?_
  refine x_bmn.cons (xm_invV ym_R_late) ?_
  refine x_bmn.cons (xm_vret) ?_
  refine x_bmn.cons (xm_push) ?_
  refine x_bmn.cons (xm_istore) ?_
  refine x_bmn.cons (xm_iload) ?_
  refine x_bmn.cons (xm_push) ?_
  refine x_bmn.cons (xm_icmp) ?_
  refine x_bmn.cons (xm_aload) ?_
  refine x_bmn.cons (xm_get) ?_
  refine x_bmn.cons (xm_iload) ?_
  refine x_bmn.cons (xm_aload) ?_
  refine x_bmn.cons (xm_get) ?_
  refine x_bmn.cons (xm_iload) ?_
  refine x_bmn.cons (xm_ald) ?_
  refine x_bmn.cons (xm_ast) ?_
  refine x_bmn.cons (xm_iinc) ?_
  refine x_bmn.cons (xm_goto) ?_
  refine x_bmn.cons (xm_aload) ?_
  refine x_bmn.cons (xm_iload) ?_
  refine x_bmn.cons (xm_push) ?_
  refine x_bmn.cons (xm_iload) ?_
  refine x_bmn.cons (xm_iload) ?_
  refine x_bmn.cons (xm_aload) ?_
  refine x_bmn.cons (xm_get) ?_
  refine x_bmn.cons (xm_push) ?_
  refine x_bmn.cons (xm_ald) ?_
  refine x_bmn.cons (xm_push) ?_
  refine x_bmn.cons (xm_aload) ?_
  refine x_bmn.cons (xm_get) ?_
  refine x_bmn.cons (xm_push) ?_
  refine x_bmn.cons (xm_ald) ?_
  refine x_bmn.cons (xm_bin) ?_
  refine x_bmn.cons (xm_bin) ?_
  refine x_bmn.cons (xm_aload) ?_
  refine x_bmn.cons (xm_get) ?_
  refine x_bmn.cons (xm_push) ?_
  refine x_bmn.cons (xm_ald) ?_
  refine x_bmn.cons (xm_push) ?_
  refine x_bmn.cons (xm_aload) ?_
  refine x_bmn.cons (xm_get) ?_
  refine x_bmn.cons (xm_push) ?_
  refine x_bmn.cons (xm_ald) ?_
  refine x_bmn.cons (xm_bin) ?_
  refine x_bmn.cons (xm_bin) ?_
  refine x_bmn.cons (xm_push) ?_
  refine x_bmn.cons (xm_invV ym_R_record) ?_
  refine x_bmn.cons (xm_aload) ?_
  refine x_bmn.cons (xm_iload) ?_
  refine x_bmn.cons (xm_iload) ?_
  refine x_bmn.cons (xm_invV ym_R_dispense) ?_
  refine x_bmn.cons (xm_aload) ?_
  refine x_bmn.cons (xm_iload) ?_
  refine x_bmn.cons (xm_iload) ?_
  refine x_bmn.cons (xm_aload) ?_
  refine x_bmn.cons (xm_get) ?_
  refine x_bmn.cons (xm_iload) ?_
  refine x_bmn.cons (xm_ald) ?_
  refine x_bmn.cons (xm_invV ym_R_paid) ?_
  refine x_bmn.cons (xm_aload) ?_
  refine x_bmn.cons (xm_get) ?_
  refine x_bmn.cons (xm_iload) ?_
  refine x_bmn.cons (xm_push) ?_
  refine x_bmn.cons (xm_ast) ?_
  refine x_bmn.cons (xm_vret) ?_
  exact x_bmn.nil
theorem is_R_answered : x_Is y_R_answered m_R_answered := x_is_code q6_164
def Y_R_answered : XMeth := x_do 5 b_R_answered
theorem sn_R_answered : x_Snd y_R_answered m_R_answered Y_R_answered := x_snd_of (by decide) rfl rfl is_R_answered k_R_answered
theorem ym_R_answered : x_Ymn Y_R_answered := x_ymn_of mn_R_answered
