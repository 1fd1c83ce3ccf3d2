/- CashLinkModel.digits(II)V -/
abbrev c_R_digits : ByteArray := prog_12_method_13_code
def y_R_digits : MethodName := ⟨"CashLinkModel", "digits", "(II)V"⟩
theorem d_R_digits_0 : decode c_R_digits 0 = .ok (.iconst 1, 1) := by decide +kernel
theorem d_R_digits_1 : decode c_R_digits 1 = .ok (.istore_n 3, 1) := by decide +kernel
theorem d_R_digits_2 : decode c_R_digits 2 = .ok (.iconst 1, 1) := by decide +kernel
theorem d_R_digits_3 : decode c_R_digits 3 = .ok (.istore 4, 2) := by decide +kernel
theorem d_R_digits_5 : decode c_R_digits 5 = .ok (.iload 4, 2) := by decide +kernel
theorem d_R_digits_7 : decode c_R_digits 7 = .ok (.iload_n 2, 1) := by decide +kernel
theorem d_R_digits_8 : decode c_R_digits 8 = .ok (.if_icmp .ge 21, 3) := by decide +kernel
theorem d_R_digits_11 : decode c_R_digits 11 = .ok (.iload 4, 2) := by decide +kernel
theorem d_R_digits_13 : decode c_R_digits 13 = .ok (.bipush 9, 2) := by decide +kernel
theorem d_R_digits_15 : decode c_R_digits 15 = .ok (.if_icmp .ge 14, 3) := by decide +kernel
theorem d_R_digits_18 : decode c_R_digits 18 = .ok (.iload_n 3, 1) := by decide +kernel
theorem d_R_digits_19 : decode c_R_digits 19 = .ok (.bipush 10, 2) := by decide +kernel
theorem d_R_digits_21 : decode c_R_digits 21 = .ok (.imul, 1) := by decide +kernel
theorem d_R_digits_22 : decode c_R_digits 22 = .ok (.istore_n 3, 1) := by decide +kernel
theorem d_R_digits_23 : decode c_R_digits 23 = .ok (.iinc 4 1, 3) := by decide +kernel
theorem d_R_digits_26 : decode c_R_digits 26 = .ok (.goto (-21), 3) := by decide +kernel
theorem d_R_digits_29 : decode c_R_digits 29 = .ok (.bipush 9, 2) := by decide +kernel
theorem d_R_digits_31 : decode c_R_digits 31 = .ok (.istore 4, 2) := by decide +kernel
theorem d_R_digits_33 : decode c_R_digits 33 = .ok (.iload 4, 2) := by decide +kernel
theorem d_R_digits_35 : decode c_R_digits 35 = .ok (.iload_n 2, 1) := by decide +kernel
theorem d_R_digits_36 : decode c_R_digits 36 = .ok (.if_icmp .ge 27, 3) := by decide +kernel
theorem d_R_digits_39 : decode c_R_digits 39 = .ok (.aload_n 0, 1) := by decide +kernel
theorem d_R_digits_40 : decode c_R_digits 40 = .ok (.getfield 92, 3) := by decide +kernel
theorem d_R_digits_43 : decode c_R_digits 43 = .ok (.aload_n 0, 1) := by decide +kernel
theorem d_R_digits_44 : decode c_R_digits 44 = .ok (.dup, 1) := by decide +kernel
theorem d_R_digits_45 : decode c_R_digits 45 = .ok (.getfield 122, 3) := by decide +kernel
theorem d_R_digits_48 : decode c_R_digits 48 = .ok (.dup_x1, 1) := by decide +kernel
theorem d_R_digits_49 : decode c_R_digits 49 = .ok (.iconst 1, 1) := by decide +kernel
theorem d_R_digits_50 : decode c_R_digits 50 = .ok (.iadd, 1) := by decide +kernel
theorem d_R_digits_51 : decode c_R_digits 51 = .ok (.putfield 122, 3) := by decide +kernel
theorem d_R_digits_54 : decode c_R_digits 54 = .ok (.bipush 48, 2) := by decide +kernel
theorem d_R_digits_56 : decode c_R_digits 56 = .ok (.bastore, 1) := by decide +kernel
theorem d_R_digits_57 : decode c_R_digits 57 = .ok (.iinc 4 1, 3) := by decide +kernel
theorem d_R_digits_60 : decode c_R_digits 60 = .ok (.goto (-27), 3) := by decide +kernel
theorem d_R_digits_63 : decode c_R_digits 63 = .ok (.iload_n 3, 1) := by decide +kernel
theorem d_R_digits_64 : decode c_R_digits 64 = .ok (.ifCond .le 37, 3) := by decide +kernel
theorem d_R_digits_67 : decode c_R_digits 67 = .ok (.aload_n 0, 1) := by decide +kernel
theorem d_R_digits_68 : decode c_R_digits 68 = .ok (.getfield 92, 3) := by decide +kernel
theorem d_R_digits_71 : decode c_R_digits 71 = .ok (.aload_n 0, 1) := by decide +kernel
theorem d_R_digits_72 : decode c_R_digits 72 = .ok (.dup, 1) := by decide +kernel
theorem d_R_digits_73 : decode c_R_digits 73 = .ok (.getfield 122, 3) := by decide +kernel
theorem d_R_digits_76 : decode c_R_digits 76 = .ok (.dup_x1, 1) := by decide +kernel
theorem d_R_digits_77 : decode c_R_digits 77 = .ok (.iconst 1, 1) := by decide +kernel
theorem d_R_digits_78 : decode c_R_digits 78 = .ok (.iadd, 1) := by decide +kernel
theorem d_R_digits_79 : decode c_R_digits 79 = .ok (.putfield 122, 3) := by decide +kernel
theorem d_R_digits_82 : decode c_R_digits 82 = .ok (.bipush 48, 2) := by decide +kernel
theorem d_R_digits_84 : decode c_R_digits 84 = .ok (.iload_n 1, 1) := by decide +kernel
theorem d_R_digits_85 : decode c_R_digits 85 = .ok (.iload_n 3, 1) := by decide +kernel
theorem d_R_digits_86 : decode c_R_digits 86 = .ok (.idiv, 1) := by decide +kernel
theorem d_R_digits_87 : decode c_R_digits 87 = .ok (.bipush 10, 2) := by decide +kernel
theorem d_R_digits_89 : decode c_R_digits 89 = .ok (.irem, 1) := by decide +kernel
theorem d_R_digits_90 : decode c_R_digits 90 = .ok (.iadd, 1) := by decide +kernel
theorem d_R_digits_91 : decode c_R_digits 91 = .ok (.i2b, 1) := by decide +kernel
theorem d_R_digits_92 : decode c_R_digits 92 = .ok (.bastore, 1) := by decide +kernel
theorem d_R_digits_93 : decode c_R_digits 93 = .ok (.iload_n 3, 1) := by decide +kernel
theorem d_R_digits_94 : decode c_R_digits 94 = .ok (.bipush 10, 2) := by decide +kernel
theorem d_R_digits_96 : decode c_R_digits 96 = .ok (.idiv, 1) := by decide +kernel
theorem d_R_digits_97 : decode c_R_digits 97 = .ok (.istore_n 3, 1) := by decide +kernel
theorem d_R_digits_98 : decode c_R_digits 98 = .ok (.goto (-35), 3) := by decide +kernel
theorem d_R_digits_101 : decode c_R_digits 101 = .ok (.return_, 1) := by decide +kernel
def m_R_digits : XM := ("CashLinkModel", c_R_digits, 5, none, "digits", [], 0, 0)
def b_R_digits : XB := [(0, X_push (xv_i 1) 1),
  (1, X_istore 3 1),
  (2, X_push (xv_i 1) 1),
  (3, X_istore 4 2),
  (5, X_iload 4 2),
  (7, X_iload 2 1),
  (8, X_icmp (fun x y => y ≤ x) 29),
  (11, X_iload 4 2),
  (13, X_push (xv_i 9) 2),
  (15, X_icmp (fun x y => y ≤ x) 29),
  (18, X_iload 3 1),
  (19, X_push (xv_i 10) 2),
  (21, X_bin (fun x y => x * y)),
  (22, X_istore 3 1),
  (23, X_iinc 4 1),
  (26, X_goto 5),
  (29, X_push (xv_i 9) 2),
  (31, X_istore 4 2),
  (33, X_iload 4 2),
  (35, X_iload 2 1),
  (36, X_icmp (fun x y => y ≤ x) 63),
  (39, X_aload 0 1),
  (40, X_get 10 29),
  (43, X_aload 0 1),
  (44, X_dup),
  (45, X_get 10 30),
  (48, X_dup_x1),
  (49, X_push (xv_i 1) 1),
  (50, X_bin (fun x y => x + y)),
  (51, X_put x_tI 10 30),
  (54, X_push (xv_i 48) 2),
  (56, X_ast 2 (fun x => x.toInt8.toInt32)),
  (57, X_iinc 4 1),
  (60, X_goto 33),
  (63, X_iload 3 1),
  (64, X_if (fun x => x ≤ 0) 101),
  (67, X_aload 0 1),
  (68, X_get 10 29),
  (71, X_aload 0 1),
  (72, X_dup),
  (73, X_get 10 30),
  (76, X_dup_x1),
  (77, X_push (xv_i 1) 1),
  (78, X_bin (fun x y => x + y)),
  (79, X_put x_tI 10 30),
  (82, X_push (xv_i 48) 2),
  (84, X_iload 1 1),
  (85, X_iload 3 1),
  (86, X_div),
  (87, X_push (xv_i 10) 2),
  (89, X_rem),
  (90, X_bin (fun x y => x + y)),
  (91, X_un (fun x => x.toInt8.toInt32)),
  (92, X_ast 2 (fun x => x.toInt8.toInt32)),
  (93, X_iload 3 1),
  (94, X_push (xv_i 10) 2),
  (96, X_div),
  (97, X_istore 3 1),
  (98, X_goto 63),
  (101, X_vret)]
set_option maxRecDepth 100000 in
theorem k_R_digits : x_bok m_R_digits b_R_digits := by
  unfold b_R_digits
  refine x_bok.cons (xs_iconst d_R_digits_0 (by decide)) ?_
  refine x_bok.cons (xs_istore_n d_R_digits_1 rfl (by decide)) ?_
  refine x_bok.cons (xs_iconst d_R_digits_2 (by decide)) ?_
  refine x_bok.cons (xs_istore d_R_digits_3 (by decide)) ?_
  refine x_bok.cons (xs_iload d_R_digits_5) ?_
  refine x_bok.cons (xs_iload_n d_R_digits_7 rfl) ?_
  refine x_bok.cons (xs_icmp_ge d_R_digits_8 (by decide)) ?_
  refine x_bok.cons (xs_iload d_R_digits_11) ?_
  refine x_bok.cons (xs_bipush d_R_digits_13 (by decide)) ?_
  refine x_bok.cons (xs_icmp_ge d_R_digits_15 (by decide)) ?_
  refine x_bok.cons (xs_iload_n d_R_digits_18 rfl) ?_
  refine x_bok.cons (xs_bipush d_R_digits_19 (by decide)) ?_
  refine x_bok.cons (xs_imul d_R_digits_21) ?_
  refine x_bok.cons (xs_istore_n d_R_digits_22 rfl (by decide)) ?_
  refine x_bok.cons (xs_iinc d_R_digits_23 (by decide) (by decide)) ?_
  refine x_bok.cons (xs_goto d_R_digits_26 (by decide)) ?_
  refine x_bok.cons (xs_bipush d_R_digits_29 (by decide)) ?_
  refine x_bok.cons (xs_istore d_R_digits_31 (by decide)) ?_
  refine x_bok.cons (xs_iload d_R_digits_33) ?_
  refine x_bok.cons (xs_iload_n d_R_digits_35 rfl) ?_
  refine x_bok.cons (xs_icmp_ge d_R_digits_36 (by decide)) ?_
  refine x_bok.cons (xs_aload_n d_R_digits_39 rfl) ?_
  refine x_bok.cons (xs_get d_R_digits_40 xc10 xw10 (by decide) q5_234 (Or.inl rfl)) ?_
  refine x_bok.cons (xs_aload_n d_R_digits_43 rfl) ?_
  refine x_bok.cons (xs_dup d_R_digits_44) ?_
  refine x_bok.cons (xs_get d_R_digits_45 xc10 xw10 (by decide) q5_235 (Or.inl rfl)) ?_
  refine x_bok.cons (xs_dup_x1 d_R_digits_48) ?_
  refine x_bok.cons (xs_iconst d_R_digits_49 (by decide)) ?_
  refine x_bok.cons (xs_iadd d_R_digits_50) ?_
  refine x_bok.cons (xs_put d_R_digits_51 xc10 xw10 xt10 xn10 (by decide) q5_235 (Or.inl rfl) rfl rfl x_fitI) ?_
  refine x_bok.cons (xs_bipush d_R_digits_54 (by decide)) ?_
  refine x_bok.cons (xs_bast d_R_digits_56 rfl) ?_
  refine x_bok.cons (xs_iinc d_R_digits_57 (by decide) (by decide)) ?_
  refine x_bok.cons (xs_goto d_R_digits_60 (by decide)) ?_
  refine x_bok.cons (xs_iload_n d_R_digits_63 rfl) ?_
  refine x_bok.cons (xs_if_le d_R_digits_64 (by decide)) ?_
  refine x_bok.cons (xs_aload_n d_R_digits_67 rfl) ?_
  refine x_bok.cons (xs_get d_R_digits_68 xc10 xw10 (by decide) q5_234 (Or.inl rfl)) ?_
  refine x_bok.cons (xs_aload_n d_R_digits_71 rfl) ?_
  refine x_bok.cons (xs_dup d_R_digits_72) ?_
  refine x_bok.cons (xs_get d_R_digits_73 xc10 xw10 (by decide) q5_235 (Or.inl rfl)) ?_
  refine x_bok.cons (xs_dup_x1 d_R_digits_76) ?_
  refine x_bok.cons (xs_iconst d_R_digits_77 (by decide)) ?_
  refine x_bok.cons (xs_iadd d_R_digits_78) ?_
  refine x_bok.cons (xs_put d_R_digits_79 xc10 xw10 xt10 xn10 (by decide) q5_235 (Or.inl rfl) rfl rfl x_fitI) ?_
  refine x_bok.cons (xs_bipush d_R_digits_82 (by decide)) ?_
  refine x_bok.cons (xs_iload_n d_R_digits_84 rfl) ?_
  refine x_bok.cons (xs_iload_n d_R_digits_85 rfl) ?_
  refine x_bok.cons (xs_idiv d_R_digits_86) ?_
  refine x_bok.cons (xs_bipush d_R_digits_87 (by decide)) ?_
  refine x_bok.cons (xs_irem d_R_digits_89) ?_
  refine x_bok.cons (xs_iadd d_R_digits_90) ?_
  refine x_bok.cons (xs_i2b d_R_digits_91) ?_
  refine x_bok.cons (xs_bast d_R_digits_92 rfl) ?_
  refine x_bok.cons (xs_iload_n d_R_digits_93 rfl) ?_
  refine x_bok.cons (xs_bipush d_R_digits_94 (by decide)) ?_
  refine x_bok.cons (xs_idiv d_R_digits_96) ?_
  refine x_bok.cons (xs_istore_n d_R_digits_97 rfl (by decide)) ?_
  refine x_bok.cons (xs_goto d_R_digits_98 (by decide)) ?_
  refine x_bok.cons (xs_vret d_R_digits_101 rfl) ?_
  exact x_bok.nil
set_option maxRecDepth 100000 in
theorem mn_R_digits : x_bmn b_R_digits := by
  unfold b_R_digits
  refine x_bmn.cons (xm_push) ?_
  refine x_bmn.cons (xm_istore) ?_
  refine x_bmn.cons (xm_push) ?_
  refine x_bmn.cons (xm_istore) ?_
  refine x_bmn.cons (xm_iload) ?_
  refine x_bmn.cons (xm_iload) ?_
  refine x_bmn.cons (xm_icmp) ?_
  refine x_bmn.cons (xm_iload) ?_
  refine x_bmn.cons (xm_push) ?_
  refine x_bmn.cons (xm_icmp) ?_
  refine x_bmn.cons (xm_iload) ?_
  refine x_bmn.cons (xm_push) ?_
  refine x_bmn.cons (xm_bin) ?_
  refine x_bmn.cons (xm_istore) ?_
  refine x_bmn.cons (xm_iinc) ?_
  refine x_bmn.cons (xm_goto) ?_
  refine x_bmn.cons (xm_push) ?_
  refine x_bmn.cons (xm_istore) ?_
  refine x_bmn.cons (xm_iload) ?_
  refine x_bmn.cons (xm_iload) ?_
  refine x_bmn.cons (xm_icmp) ?_
  refine x_bmn.cons (xm_aload) ?_
  refine x_bmn.cons (xm_get) ?_
  refine x_bmn.cons (xm_aload) ?_
  refine x_bmn.cons (xm_dup) ?_
  refine x_bmn.cons (xm_get) ?_
  refine x_bmn.cons (xm_dup_x1) ?_
  refine x_bmn.cons (xm_push) ?_
  refine x_bmn.cons (xm_bin) ?_
  refine x_bmn.cons (xm_put) ?_
  refine x_bmn.cons (xm_push) ?_
  refine x_bmn.cons (xm_ast) ?_
  refine x_bmn.cons (xm_iinc) ?_
  refine x_bmn.cons (xm_goto) ?_
  refine x_bmn.cons (xm_iload) ?_
  refine x_bmn.cons (xm_if) ?_
  refine x_bmn.cons (xm_aload) ?_
  refine x_bmn.cons (xm_get) ?_
  refine x_bmn.cons (xm_aload) ?_
  refine x_bmn.cons (xm_dup) ?_
  refine x_bmn.cons (xm_get) ?_
  refine x_bmn.cons (xm_dup_x1) ?_
  refine x_bmn.cons (xm_push) ?_
  refine x_bmn.cons (xm_bin) ?_
  refine x_bmn.cons (xm_put) ?_
  refine x_bmn.cons (xm_push) ?_
  refine x_bmn.cons (xm_iload) ?_
  refine x_bmn.cons (xm_iload) ?_
  refine x_bmn.cons (xm_div) ?_
  refine x_bmn.cons (xm_push) ?_
  refine x_bmn.cons (xm_rem) ?_
  refine x_bmn.cons (xm_bin) ?_
  refine x_bmn.cons (xm_un) ?_
  refine x_bmn.cons (xm_ast) ?_
  refine x_bmn.cons (xm_iload) ?_
  refine x_bmn.cons (xm_push) ?_
  refine x_bmn.cons (xm_div) ?_
  refine x_bmn.cons (xm_istore) ?_
  refine x_bmn.cons (xm_goto) ?_
  refine x_bmn.cons (xm_vret) ?_
  exact x_bmn.nil
theorem is_R_digits : x_Is y_R_digits m_R_digits := x_is_code q6_218
def Y_R_digits : XMeth := x_do 5 b_R_digits
theorem sn_R_digits : x_Snd y_R_digits m_R_digits Y_R_digits := x_snd_of (by decide) rfl rfl is_R_digits k_R_digits
theorem ym_R_digits : x_Ymn Y_R_digits := x_ymn_of mn_R_digits
/- CashLinkModel.isField(II)Z -/
abbrev c_R_isField : ByteArray := prog_12_method_14_code
def y_R_isField : MethodName := ⟨"CashLinkModel", "isField", "(II)Z"⟩
theorem d_R_isField_0 : decode c_R_isField 0 = .ok (.iload_n 2, 1) := by decide +kernel
theorem d_R_isField_1 : decode c_R_isField 1 = .ok (.bipush 11, 2) := by decide +kernel
theorem d_R_isField_3 : decode c_R_isField 3 = .ok (.if_icmp .eq 9, 3) := by decide +kernel
theorem d_R_isField_6 : decode c_R_isField 6 = .ok (.iload_n 2, 1) := by decide +kernel
theorem d_R_isField_7 : decode c_R_isField 7 = .ok (.bipush 41, 2) := by decide +kernel
theorem d_R_isField_9 : decode c_R_isField 9 = .ok (.if_icmp .ne 5, 3) := by decide +kernel
theorem d_R_isField_12 : decode c_R_isField 12 = .ok (.iconst 1, 1) := by decide +kernel
theorem d_R_isField_13 : decode c_R_isField 13 = .ok (.ireturn, 1) := by decide +kernel
theorem d_R_isField_14 : decode c_R_isField 14 = .ok (.iload_n 2, 1) := by decide +kernel
theorem d_R_isField_15 : decode c_R_isField 15 = .ok (.iconst 2, 1) := by decide +kernel
theorem d_R_isField_16 : decode c_R_isField 16 = .ok (.if_icmp .ne 16, 3) := by decide +kernel
theorem d_R_isField_19 : decode c_R_isField 19 = .ok (.iload_n 1, 1) := by decide +kernel
theorem d_R_isField_20 : decode c_R_isField 20 = .ok (.sipush 200, 3) := by decide +kernel
theorem d_R_isField_23 : decode c_R_isField 23 = .ok (.if_icmp .ne 7, 3) := by decide +kernel
theorem d_R_isField_26 : decode c_R_isField 26 = .ok (.iconst 1, 1) := by decide +kernel
theorem d_R_isField_27 : decode c_R_isField 27 = .ok (.goto 4, 3) := by decide +kernel
theorem d_R_isField_30 : decode c_R_isField 30 = .ok (.iconst 0, 1) := by decide +kernel
theorem d_R_isField_31 : decode c_R_isField 31 = .ok (.ireturn, 1) := by decide +kernel
theorem d_R_isField_32 : decode c_R_isField 32 = .ok (.iload_n 2, 1) := by decide +kernel
theorem d_R_isField_33 : decode c_R_isField 33 = .ok (.iconst 4, 1) := by decide +kernel
theorem d_R_isField_34 : decode c_R_isField 34 = .ok (.if_icmp .ne 30, 3) := by decide +kernel
theorem d_R_isField_37 : decode c_R_isField 37 = .ok (.iload_n 1, 1) := by decide +kernel
theorem d_R_isField_38 : decode c_R_isField 38 = .ok (.sipush 200, 3) := by decide +kernel
theorem d_R_isField_41 : decode c_R_isField 41 = .ok (.if_icmp .eq 17, 3) := by decide +kernel
theorem d_R_isField_44 : decode c_R_isField 44 = .ok (.iload_n 1, 1) := by decide +kernel
theorem d_R_isField_45 : decode c_R_isField 45 = .ok (.sipush 420, 3) := by decide +kernel
theorem d_R_isField_48 : decode c_R_isField 48 = .ok (.if_icmp .eq 10, 3) := by decide +kernel
theorem d_R_isField_51 : decode c_R_isField 51 = .ok (.iload_n 1, 1) := by decide +kernel
theorem d_R_isField_52 : decode c_R_isField 52 = .ok (.sipush 500, 3) := by decide +kernel
theorem d_R_isField_55 : decode c_R_isField 55 = .ok (.if_icmp .ne 7, 3) := by decide +kernel
theorem d_R_isField_58 : decode c_R_isField 58 = .ok (.iconst 1, 1) := by decide +kernel
theorem d_R_isField_59 : decode c_R_isField 59 = .ok (.goto 4, 3) := by decide +kernel
theorem d_R_isField_62 : decode c_R_isField 62 = .ok (.iconst 0, 1) := by decide +kernel
theorem d_R_isField_63 : decode c_R_isField 63 = .ok (.ireturn, 1) := by decide +kernel
theorem d_R_isField_64 : decode c_R_isField 64 = .ok (.iload_n 2, 1) := by decide +kernel
theorem d_R_isField_65 : decode c_R_isField 65 = .ok (.bipush 39, 2) := by decide +kernel
theorem d_R_isField_67 : decode c_R_isField 67 = .ok (.if_icmp .ne 21, 3) := by decide +kernel
theorem d_R_isField_70 : decode c_R_isField 70 = .ok (.iload_n 1, 1) := by decide +kernel
theorem d_R_isField_71 : decode c_R_isField 71 = .ok (.sipush 210, 3) := by decide +kernel
theorem d_R_isField_74 : decode c_R_isField 74 = .ok (.if_icmp .eq 10, 3) := by decide +kernel
theorem d_R_isField_77 : decode c_R_isField 77 = .ok (.iload_n 1, 1) := by decide +kernel
theorem d_R_isField_78 : decode c_R_isField 78 = .ok (.sipush 510, 3) := by decide +kernel
theorem d_R_isField_81 : decode c_R_isField 81 = .ok (.if_icmp .ne 7, 3) := by decide +kernel
theorem d_R_isField_84 : decode c_R_isField 84 = .ok (.iconst 1, 1) := by decide +kernel
theorem d_R_isField_85 : decode c_R_isField 85 = .ok (.goto 4, 3) := by decide +kernel
theorem d_R_isField_88 : decode c_R_isField 88 = .ok (.iconst 0, 1) := by decide +kernel
theorem d_R_isField_89 : decode c_R_isField 89 = .ok (.ireturn, 1) := by decide +kernel
def m_R_isField : XM := ("CashLinkModel", c_R_isField, 3, (some .boolean), "isField", [], 0, 0)
def b_R_isField : XB := [(0, X_iload 2 1),
  (1, X_push (xv_i 11) 2),
  (3, X_icmp (fun x y => x = y) 12),
  (6, X_iload 2 1),
  (7, X_push (xv_i 41) 2),
  (9, X_icmp (fun x y => ¬ x = y) 14),
  (12, X_push (xv_i 1) 1),
  (13, X_zret),
  (14, X_iload 2 1),
  (15, X_push (xv_i 2) 1),
  (16, X_icmp (fun x y => ¬ x = y) 32),
  (19, X_iload 1 1),
  (20, X_push (xv_i 200) 3),
  (23, X_icmp (fun x y => ¬ x = y) 30),
  (26, X_push (xv_i 1) 1),
  (27, X_goto 31),
  (30, X_push (xv_i 0) 1),
  (31, X_zret),
  (32, X_iload 2 1),
  (33, X_push (xv_i 4) 1),
  (34, X_icmp (fun x y => ¬ x = y) 64),
  (37, X_iload 1 1),
  (38, X_push (xv_i 200) 3),
  (41, X_icmp (fun x y => x = y) 58),
  (44, X_iload 1 1),
  (45, X_push (xv_i 420) 3),
  (48, X_icmp (fun x y => x = y) 58),
  (51, X_iload 1 1),
  (52, X_push (xv_i 500) 3),
  (55, X_icmp (fun x y => ¬ x = y) 62),
  (58, X_push (xv_i 1) 1),
  (59, X_goto 63),
  (62, X_push (xv_i 0) 1),
  (63, X_zret),
  (64, X_iload 2 1),
  (65, X_push (xv_i 39) 2),
  (67, X_icmp (fun x y => ¬ x = y) 88),
  (70, X_iload 1 1),
  (71, X_push (xv_i 210) 3),
  (74, X_icmp (fun x y => x = y) 84),
  (77, X_iload 1 1),
  (78, X_push (xv_i 510) 3),
  (81, X_icmp (fun x y => ¬ x = y) 88),
  (84, X_push (xv_i 1) 1),
  (85, X_goto 89),
  (88, X_push (xv_i 0) 1),
  (89, X_zret)]
set_option maxRecDepth 100000 in
theorem k_R_isField : x_bok m_R_isField b_R_isField := by
  unfold b_R_isField
  refine x_bok.cons (xs_iload_n d_R_isField_0 rfl) ?_
  refine x_bok.cons (xs_bipush d_R_isField_1 (by decide)) ?_
  refine x_bok.cons (xs_icmp_eq d_R_isField_3 (by decide)) ?_
  refine x_bok.cons (xs_iload_n d_R_isField_6 rfl) ?_
  refine x_bok.cons (xs_bipush d_R_isField_7 (by decide)) ?_
  refine x_bok.cons (xs_icmp_ne d_R_isField_9 (by decide)) ?_
  refine x_bok.cons (xs_iconst d_R_isField_12 (by decide)) ?_
  refine x_bok.cons (xs_zret d_R_isField_13 rfl) ?_
  refine x_bok.cons (xs_iload_n d_R_isField_14 rfl) ?_
  refine x_bok.cons (xs_iconst d_R_isField_15 (by decide)) ?_
  refine x_bok.cons (xs_icmp_ne d_R_isField_16 (by decide)) ?_
  refine x_bok.cons (xs_iload_n d_R_isField_19 rfl) ?_
  refine x_bok.cons (xs_sipush d_R_isField_20 (by decide)) ?_
  refine x_bok.cons (xs_icmp_ne d_R_isField_23 (by decide)) ?_
  refine x_bok.cons (xs_iconst d_R_isField_26 (by decide)) ?_
  refine x_bok.cons (xs_goto d_R_isField_27 (by decide)) ?_
  refine x_bok.cons (xs_iconst d_R_isField_30 (by decide)) ?_
  refine x_bok.cons (xs_zret d_R_isField_31 rfl) ?_
  refine x_bok.cons (xs_iload_n d_R_isField_32 rfl) ?_
  refine x_bok.cons (xs_iconst d_R_isField_33 (by decide)) ?_
  refine x_bok.cons (xs_icmp_ne d_R_isField_34 (by decide)) ?_
  refine x_bok.cons (xs_iload_n d_R_isField_37 rfl) ?_
  refine x_bok.cons (xs_sipush d_R_isField_38 (by decide)) ?_
  refine x_bok.cons (xs_icmp_eq d_R_isField_41 (by decide)) ?_
  refine x_bok.cons (xs_iload_n d_R_isField_44 rfl) ?_
  refine x_bok.cons (xs_sipush d_R_isField_45 (by decide)) ?_
  refine x_bok.cons (xs_icmp_eq d_R_isField_48 (by decide)) ?_
  refine x_bok.cons (xs_iload_n d_R_isField_51 rfl) ?_
  refine x_bok.cons (xs_sipush d_R_isField_52 (by decide)) ?_
  refine x_bok.cons (xs_icmp_ne d_R_isField_55 (by decide)) ?_
  refine x_bok.cons (xs_iconst d_R_isField_58 (by decide)) ?_
  refine x_bok.cons (xs_goto d_R_isField_59 (by decide)) ?_
  refine x_bok.cons (xs_iconst d_R_isField_62 (by decide)) ?_
  refine x_bok.cons (xs_zret d_R_isField_63 rfl) ?_
  refine x_bok.cons (xs_iload_n d_R_isField_64 rfl) ?_
  refine x_bok.cons (xs_bipush d_R_isField_65 (by decide)) ?_
  refine x_bok.cons (xs_icmp_ne d_R_isField_67 (by decide)) ?_
  refine x_bok.cons (xs_iload_n d_R_isField_70 rfl) ?_
  refine x_bok.cons (xs_sipush d_R_isField_71 (by decide)) ?_
  refine x_bok.cons (xs_icmp_eq d_R_isField_74 (by decide)) ?_
  refine x_bok.cons (xs_iload_n d_R_isField_77 rfl) ?_
  refine x_bok.cons (xs_sipush d_R_isField_78 (by decide)) ?_
  refine x_bok.cons (xs_icmp_ne d_R_isField_81 (by decide)) ?_
  refine x_bok.cons (xs_iconst d_R_isField_84 (by decide)) ?_
  refine x_bok.cons (xs_goto d_R_isField_85 (by decide)) ?_
  refine x_bok.cons (xs_iconst d_R_isField_88 (by decide)) ?_
  refine x_bok.cons (xs_zret d_R_isField_89 rfl) ?_
  exact x_bok.nil
set_option maxRecDepth 100000 in
theorem mn_R_isField : x_bmn b_R_isField := by
  unfold b_R_isField
  refine x_bmn.cons (xm_iload) ?_
  refine x_bmn.cons (xm_push) ?_
  refine x_bmn.cons (xm_icmp) ?_
  refine x_bmn.cons (xm_iload) ?_
  refine x_bmn.cons (xm_push) ?_
  refine x_bmn.cons (xm_icmp) ?_
  refine x_bmn.cons (xm_push) ?_
  refine x_bmn.cons (xm_zret) ?_
  refine x_bmn.cons (xm_iload) ?_
  refine x_bmn.cons (xm_push) ?_
  refine x_bmn.cons (xm_icmp) ?_
  refine x_bmn.cons (xm_iload) ?_
  refine x_bmn.cons (xm_push) ?_
  refine x_bmn.cons (xm_icmp) ?_
  refine x_bmn.cons (xm_push) ?_
  refine x_bmn.cons (xm_goto) ?_
  refine x_bmn.cons (xm_push) ?_
  refine x_bmn.cons (xm_zret) ?_
  refine x_bmn.cons (xm_iload) ?_
  refine x_bmn.cons (xm_push) ?_
  refine x_bmn.cons (xm_icmp) ?_
  refine x_bmn.cons (xm_iload) ?_
  refine x_bmn.cons (xm_push) ?_
  refine x_bmn.cons (xm_icmp) ?_
  refine x_bmn.cons (xm_iload) ?_
  refine x_bmn.cons (xm_push) ?_
  refine x_bmn.cons (xm_icmp) ?_
  refine x_bmn.cons (xm_iload) ?_
  refine x_bmn.cons (xm_push) ?_
  refine x_bmn.cons (xm_icmp) ?_
  refine x_bmn.cons (xm_push) ?_
  refine x_bmn.cons (xm_goto) ?_
  refine x_bmn.cons (xm_push) ?_
  refine x_bmn.cons (xm_zret) ?_
  refine x_bmn.cons (xm_iload) ?_
  refine x_bmn.cons (xm_push) ?_
  refine x_bmn.cons (xm_icmp) ?_
  refine x_bmn.cons (xm_iload) ?_
  refine x_bmn.cons (xm_push) ?_
  refine x_bmn.cons (xm_icmp) ?_
  refine x_bmn.cons (xm_iload) ?_
  refine x_bmn.cons (xm_push) ?_
  refine x_bmn.cons (xm_icmp) ?_
  refine x_bmn.cons (xm_push) ?_
  refine x_bmn.cons (xm_goto) ?_
  refine x_bmn.cons (xm_push) ?_
  refine x_bmn.cons (xm_zret) ?_
  exact x_bmn.nil
theorem is_R_isField : x_Is y_R_isField m_R_isField := x_is_code q6_222
def Y_R_isField : XMeth := x_do 3 b_R_isField
theorem sn_R_isField : x_Snd y_R_isField m_R_isField Y_R_isField := x_snd_of (by decide) rfl rfl is_R_isField k_R_isField
theorem ym_R_isField : x_Ymn Y_R_isField := x_ymn_of mn_R_isField
/- CashLinkModel.lay(I)V -/
abbrev c_R_lay : ByteArray := prog_12_method_15_code
def y_R_lay : MethodName := ⟨"CashLinkModel", "lay", "(I)V"⟩
theorem d_R_lay_0 : decode c_R_lay 0 = .ok (.aload_n 0, 1) := by decide +kernel
theorem d_R_lay_1 : decode c_R_lay 1 = .ok (.iconst 0, 1) := by decide +kernel
theorem d_R_lay_2 : decode c_R_lay 2 = .ok (.putfield 122, 3) := by decide +kernel
theorem d_R_lay_5 : decode c_R_lay 5 = .ok (.aload_n 0, 1) := by decide +kernel
theorem d_R_lay_6 : decode c_R_lay 6 = .ok (.aload_n 0, 1) := by decide +kernel
theorem d_R_lay_7 : decode c_R_lay 7 = .ok (.getfield 68, 3) := by decide +kernel
theorem d_R_lay_10 : decode c_R_lay 10 = .ok (.iload_n 1, 1) := by decide +kernel
theorem d_R_lay_11 : decode c_R_lay 11 = .ok (.iaload, 1) := by decide +kernel
theorem d_R_lay_12 : decode c_R_lay 12 = .ok (.iconst 4, 1) := by decide +kernel
theorem d_R_lay_13 : decode c_R_lay 13 = .ok (.invokevirtual 125, 3) := by decide +kernel
theorem d_R_lay_16 : decode c_R_lay 16 = .ok (.iconst 0, 1) := by decide +kernel
theorem d_R_lay_17 : decode c_R_lay 17 = .ok (.istore_n 2, 1) := by decide +kernel
theorem d_R_lay_18 : decode c_R_lay 18 = .ok (.iload_n 2, 1) := by decide +kernel
theorem d_R_lay_19 : decode c_R_lay 19 = .ok (.bipush 8, 2) := by decide +kernel
theorem d_R_lay_21 : decode c_R_lay 21 = .ok (.if_icmp .ge 77, 3) := by decide +kernel
theorem d_R_lay_24 : decode c_R_lay 24 = .ok (.iconst 0, 1) := by decide +kernel
theorem d_R_lay_25 : decode c_R_lay 25 = .ok (.istore_n 3, 1) := by decide +kernel
theorem d_R_lay_26 : decode c_R_lay 26 = .ok (.iconst 0, 1) := by decide +kernel
theorem d_R_lay_27 : decode c_R_lay 27 = .ok (.istore 4, 2) := by decide +kernel
theorem d_R_lay_29 : decode c_R_lay 29 = .ok (.iload 4, 2) := by decide +kernel
theorem d_R_lay_31 : decode c_R_lay 31 = .ok (.bipush 8, 2) := by decide +kernel
theorem d_R_lay_33 : decode c_R_lay 33 = .ok (.if_icmp .ge 41, 3) := by decide +kernel
theorem d_R_lay_36 : decode c_R_lay 36 = .ok (.iconst 2, 1) := by decide +kernel
theorem d_R_lay_37 : decode c_R_lay 37 = .ok (.iload_n 3, 1) := by decide +kernel
theorem d_R_lay_38 : decode c_R_lay 38 = .ok (.imul, 1) := by decide +kernel
theorem d_R_lay_39 : decode c_R_lay 39 = .ok (.aload_n 0, 1) := by decide +kernel
theorem d_R_lay_40 : decode c_R_lay 40 = .ok (.aload_n 0, 1) := by decide +kernel
theorem d_R_lay_41 : decode c_R_lay 41 = .ok (.getfield 68, 3) := by decide +kernel
theorem d_R_lay_44 : decode c_R_lay 44 = .ok (.iload_n 1, 1) := by decide +kernel
theorem d_R_lay_45 : decode c_R_lay 45 = .ok (.iaload, 1) := by decide +kernel
theorem d_R_lay_46 : decode c_R_lay 46 = .ok (.bipush 8, 2) := by decide +kernel
theorem d_R_lay_48 : decode c_R_lay 48 = .ok (.iload_n 2, 1) := by decide +kernel
theorem d_R_lay_49 : decode c_R_lay 49 = .ok (.imul, 1) := by decide +kernel
theorem d_R_lay_50 : decode c_R_lay 50 = .ok (.iload 4, 2) := by decide +kernel
theorem d_R_lay_52 : decode c_R_lay 52 = .ok (.iadd, 1) := by decide +kernel
theorem d_R_lay_53 : decode c_R_lay 53 = .ok (.iconst 1, 1) := by decide +kernel
theorem d_R_lay_54 : decode c_R_lay 54 = .ok (.iadd, 1) := by decide +kernel
theorem d_R_lay_55 : decode c_R_lay 55 = .ok (.invokevirtual 129, 3) := by decide +kernel
theorem d_R_lay_58 : decode c_R_lay 58 = .ok (.ifCond .eq 7, 3) := by decide +kernel
theorem d_R_lay_61 : decode c_R_lay 61 = .ok (.iconst 1, 1) := by decide +kernel
theorem d_R_lay_62 : decode c_R_lay 62 = .ok (.goto 4, 3) := by decide +kernel
theorem d_R_lay_65 : decode c_R_lay 65 = .ok (.iconst 0, 1) := by decide +kernel
theorem d_R_lay_66 : decode c_R_lay 66 = .ok (.iadd, 1) := by decide +kernel
theorem d_R_lay_67 : decode c_R_lay 67 = .ok (.istore_n 3, 1) := by decide +kernel
theorem d_R_lay_68 : decode c_R_lay 68 = .ok (.iinc 4 1, 3) := by decide +kernel
theorem d_R_lay_71 : decode c_R_lay 71 = .ok (.goto (-42), 3) := by decide +kernel
theorem d_R_lay_74 : decode c_R_lay 74 = .ok (.aload_n 0, 1) := by decide +kernel
theorem d_R_lay_75 : decode c_R_lay 75 = .ok (.getfield 92, 3) := by decide +kernel
theorem d_R_lay_78 : decode c_R_lay 78 = .ok (.aload_n 0, 1) := by decide +kernel
theorem d_R_lay_79 : decode c_R_lay 79 = .ok (.dup, 1) := by decide +kernel
theorem d_R_lay_80 : decode c_R_lay 80 = .ok (.getfield 122, 3) := by decide +kernel
theorem d_R_lay_83 : decode c_R_lay 83 = .ok (.dup_x1, 1) := by decide +kernel
theorem d_R_lay_84 : decode c_R_lay 84 = .ok (.iconst 1, 1) := by decide +kernel
theorem d_R_lay_85 : decode c_R_lay 85 = .ok (.iadd, 1) := by decide +kernel
theorem d_R_lay_86 : decode c_R_lay 86 = .ok (.putfield 122, 3) := by decide +kernel
theorem d_R_lay_89 : decode c_R_lay 89 = .ok (.iload_n 3, 1) := by decide +kernel
theorem d_R_lay_90 : decode c_R_lay 90 = .ok (.i2b, 1) := by decide +kernel
theorem d_R_lay_91 : decode c_R_lay 91 = .ok (.bastore, 1) := by decide +kernel
theorem d_R_lay_92 : decode c_R_lay 92 = .ok (.iinc 2 1, 3) := by decide +kernel
theorem d_R_lay_95 : decode c_R_lay 95 = .ok (.goto (-77), 3) := by decide +kernel
theorem d_R_lay_98 : decode c_R_lay 98 = .ok (.aload_n 0, 1) := by decide +kernel
theorem d_R_lay_99 : decode c_R_lay 99 = .ok (.aload_n 0, 1) := by decide +kernel
theorem d_R_lay_100 : decode c_R_lay 100 = .ok (.getfield 68, 3) := by decide +kernel
theorem d_R_lay_103 : decode c_R_lay 103 = .ok (.iload_n 1, 1) := by decide +kernel
theorem d_R_lay_104 : decode c_R_lay 104 = .ok (.iaload, 1) := by decide +kernel
theorem d_R_lay_105 : decode c_R_lay 105 = .ok (.iconst 2, 1) := by decide +kernel
theorem d_R_lay_106 : decode c_R_lay 106 = .ok (.invokevirtual 129, 3) := by decide +kernel
theorem d_R_lay_109 : decode c_R_lay 109 = .ok (.ifCond .eq 20, 3) := by decide +kernel
theorem d_R_lay_112 : decode c_R_lay 112 = .ok (.aload_n 0, 1) := by decide +kernel
theorem d_R_lay_113 : decode c_R_lay 113 = .ok (.iconst 3, 1) := by decide +kernel
theorem d_R_lay_114 : decode c_R_lay 114 = .ok (.iconst 2, 1) := by decide +kernel
theorem d_R_lay_115 : decode c_R_lay 115 = .ok (.invokevirtual 125, 3) := by decide +kernel
theorem d_R_lay_118 : decode c_R_lay 118 = .ok (.aload_n 0, 1) := by decide +kernel
theorem d_R_lay_119 : decode c_R_lay 119 = .ok (.aload_n 0, 1) := by decide +kernel
theorem d_R_lay_120 : decode c_R_lay 120 = .ok (.getfield 71, 3) := by decide +kernel
theorem d_R_lay_123 : decode c_R_lay 123 = .ok (.iload_n 1, 1) := by decide +kernel
theorem d_R_lay_124 : decode c_R_lay 124 = .ok (.iaload, 1) := by decide +kernel
theorem d_R_lay_125 : decode c_R_lay 125 = .ok (.iconst 3, 1) := by decide +kernel
theorem d_R_lay_126 : decode c_R_lay 126 = .ok (.invokevirtual 125, 3) := by decide +kernel
theorem d_R_lay_129 : decode c_R_lay 129 = .ok (.aload_n 0, 1) := by decide +kernel
theorem d_R_lay_130 : decode c_R_lay 130 = .ok (.aload_n 0, 1) := by decide +kernel
theorem d_R_lay_131 : decode c_R_lay 131 = .ok (.getfield 68, 3) := by decide +kernel
theorem d_R_lay_134 : decode c_R_lay 134 = .ok (.iload_n 1, 1) := by decide +kernel
theorem d_R_lay_135 : decode c_R_lay 135 = .ok (.iaload, 1) := by decide +kernel
theorem d_R_lay_136 : decode c_R_lay 136 = .ok (.iconst 4, 1) := by decide +kernel
theorem d_R_lay_137 : decode c_R_lay 137 = .ok (.invokevirtual 129, 3) := by decide +kernel
theorem d_R_lay_140 : decode c_R_lay 140 = .ok (.ifCond .eq 15, 3) := by decide +kernel
theorem d_R_lay_143 : decode c_R_lay 143 = .ok (.aload_n 0, 1) := by decide +kernel
theorem d_R_lay_144 : decode c_R_lay 144 = .ok (.aload_n 0, 1) := by decide +kernel
theorem d_R_lay_145 : decode c_R_lay 145 = .ok (.getfield 74, 3) := by decide +kernel
theorem d_R_lay_148 : decode c_R_lay 148 = .ok (.iload_n 1, 1) := by decide +kernel
theorem d_R_lay_149 : decode c_R_lay 149 = .ok (.iaload, 1) := by decide +kernel
theorem d_R_lay_150 : decode c_R_lay 150 = .ok (.bipush 12, 2) := by decide +kernel
theorem d_R_lay_152 : decode c_R_lay 152 = .ok (.invokevirtual 125, 3) := by decide +kernel
theorem d_R_lay_155 : decode c_R_lay 155 = .ok (.aload_n 0, 1) := by decide +kernel
theorem d_R_lay_156 : decode c_R_lay 156 = .ok (.aload_n 0, 1) := by decide +kernel
theorem d_R_lay_157 : decode c_R_lay 157 = .ok (.getfield 77, 3) := by decide +kernel
theorem d_R_lay_160 : decode c_R_lay 160 = .ok (.iload_n 1, 1) := by decide +kernel
theorem d_R_lay_161 : decode c_R_lay 161 = .ok (.iaload, 1) := by decide +kernel
theorem d_R_lay_162 : decode c_R_lay 162 = .ok (.bipush 6, 2) := by decide +kernel
theorem d_R_lay_164 : decode c_R_lay 164 = .ok (.invokevirtual 125, 3) := by decide +kernel
theorem d_R_lay_167 : decode c_R_lay 167 = .ok (.aload_n 0, 1) := by decide +kernel
theorem d_R_lay_168 : decode c_R_lay 168 = .ok (.aload_n 0, 1) := by decide +kernel
theorem d_R_lay_169 : decode c_R_lay 169 = .ok (.getfield 68, 3) := by decide +kernel
theorem d_R_lay_172 : decode c_R_lay 172 = .ok (.iload_n 1, 1) := by decide +kernel
theorem d_R_lay_173 : decode c_R_lay 173 = .ok (.iaload, 1) := by decide +kernel
theorem d_R_lay_174 : decode c_R_lay 174 = .ok (.bipush 39, 2) := by decide +kernel
theorem d_R_lay_176 : decode c_R_lay 176 = .ok (.invokevirtual 129, 3) := by decide +kernel
theorem d_R_lay_179 : decode c_R_lay 179 = .ok (.ifCond .eq 14, 3) := by decide +kernel
theorem d_R_lay_182 : decode c_R_lay 182 = .ok (.aload_n 0, 1) := by decide +kernel
theorem d_R_lay_183 : decode c_R_lay 183 = .ok (.aload_n 0, 1) := by decide +kernel
theorem d_R_lay_184 : decode c_R_lay 184 = .ok (.getfield 80, 3) := by decide +kernel
theorem d_R_lay_187 : decode c_R_lay 187 = .ok (.iload_n 1, 1) := by decide +kernel
theorem d_R_lay_188 : decode c_R_lay 188 = .ok (.iaload, 1) := by decide +kernel
theorem d_R_lay_189 : decode c_R_lay 189 = .ok (.iconst 2, 1) := by decide +kernel
theorem d_R_lay_190 : decode c_R_lay 190 = .ok (.invokevirtual 125, 3) := by decide +kernel
theorem d_R_lay_193 : decode c_R_lay 193 = .ok (.aload_n 0, 1) := by decide +kernel
theorem d_R_lay_194 : decode c_R_lay 194 = .ok (.aload_n 0, 1) := by decide +kernel
theorem d_R_lay_195 : decode c_R_lay 195 = .ok (.getfield 83, 3) := by decide +kernel
theorem d_R_lay_198 : decode c_R_lay 198 = .ok (.iload_n 1, 1) := by decide +kernel
theorem d_R_lay_199 : decode c_R_lay 199 = .ok (.iaload, 1) := by decide +kernel
theorem d_R_lay_200 : decode c_R_lay 200 = .ok (.bipush 8, 2) := by decide +kernel
theorem d_R_lay_202 : decode c_R_lay 202 = .ok (.invokevirtual 125, 3) := by decide +kernel
theorem d_R_lay_205 : decode c_R_lay 205 = .ok (.return_, 1) := by decide +kernel
def m_R_lay : XM := ("CashLinkModel", c_R_lay, 5, none, "lay", [], 1, 24)
def b_R_lay : XB := [(0, X_aload 0 1),
  (1, X_push (xv_i 0) 1),
  (2, X_put x_tI 10 30),
  (5, X_aload 0 1),
  (6, X_aload 0 1),
  (7, X_get 10 19),
  (10, X_iload 1 1),
  (11, X_ald 0),
  (12, X_push (xv_i 4) 1),
  (13, X_invV 10 Y_R_digits 2 []),
  (16, X_push (xv_i 0) 1),
  (17, X_istore 2 1),
  (18, X_iload 2 1),
  (19, X_push (xv_i 8) 2),
  (21, X_icmp (fun x y => y ≤ x) 98),
  (24, X_push (xv_i 0) 1),
  (25, X_istore 3 1),
  (26, X_push (xv_i 0) 1),
  (27, X_istore 4 2),
  (29, X_iload 4 2),
  (31, X_push (xv_i 8) 2),
  (33, X_icmp (fun x y => y ≤ x) 74),
  (36, X_push (xv_i 2) 1),
  (37, X_iload 3 1),
  (38, X_bin (fun x y => x * y)),
  (39, X_aload 0 1),
  (40, X_aload 0 1),
  (41, X_get 10 19),
  (44, X_iload 1 1),
  (45, X_ald 0),
  (46, X_push (xv_i 8) 2),
  (48, X_iload 2 1),
  (49, X_bin (fun x y => x * y)),
  (50, X_iload 4 2),
  (52, X_bin (fun x y => x + y)),
  (53, X_push (xv_i 1) 1),
  (54, X_bin (fun x y => x + y)),
  (55, X_invV 10 Y_R_isField 2 []),
  (58, X_if (fun x => x = 0) 65),
  (61, X_push (xv_i 1) 1),
  (62, X_goto 66),
  (65, X_push (xv_i 0) 1),
  (66, X_bin (fun x y => x + y)),
  (67, X_istore 3 1),
  (68, X_iinc 4 1),
  (71, X_goto 29),
  (74, X_aload 0 1),
  (75, X_get 10 29),
  (78, X_aload 0 1),
  (79, X_dup),
  (80, X_get 10 30),
  (83, X_dup_x1),
  (84, X_push (xv_i 1) 1),
  (85, X_bin (fun x y => x + y)),
  (86, X_put x_tI 10 30),
  (89, X_iload 3 1),
  (90, X_un (fun x => x.toInt8.toInt32)),
  (91, X_ast 2 (fun x => x.toInt8.toInt32)),
  (92, X_iinc 2 1),
  (95, X_goto 18),
  (98, X_aload 0 1),
  (99, X_aload 0 1),
  (100, X_get 10 19),
  (103, X_iload 1 1),
  (104, X_ald 0),
  (105, X_push (xv_i 2) 1),
  (106, X_invV 10 Y_R_isField 2 []),
  (109, X_if (fun x => x = 0) 129),
  (112, X_aload 0 1),
  (113, X_push (xv_i 3) 1),
  (114, X_push (xv_i 2) 1),
  (115, X_invV 10 Y_R_digits 2 []),
  (118, X_aload 0 1),
  (119, X_aload 0 1),
  (120, X_get 10 20),
  (123, X_iload 1 1),
  (124, X_ald 0),
  (125, X_push (xv_i 3) 1),
  (126, X_invV 10 Y_R_digits 2 []),
  (129, X_aload 0 1),
  (130, X_aload 0 1),
  (131, X_get 10 19),
  (134, X_iload 1 1),
  (135, X_ald 0),
  (136, X_push (xv_i 4) 1),
  (137, X_invV 10 Y_R_isField 2 []),
  (140, X_if (fun x => x = 0) 155),
  (143, X_aload 0 1),
  (144, X_aload 0 1),
  (145, X_get 10 21),
  (148, X_iload 1 1),
  (149, X_ald 0),
  (150, X_push (xv_i 12) 2),
  (152, X_invV 10 Y_R_digits 2 []),
  (155, X_aload 0 1),
  (156, X_aload 0 1),
  (157, X_get 10 22),
  (160, X_iload 1 1),
  (161, X_ald 0),
  (162, X_push (xv_i 6) 2),
  (164, X_invV 10 Y_R_digits 2 []),
  (167, X_aload 0 1),
  (168, X_aload 0 1),
  (169, X_get 10 19),
  (172, X_iload 1 1),
  (173, X_ald 0),
  (174, X_push (xv_i 39) 2),
  (176, X_invV 10 Y_R_isField 2 []),
  (179, X_if (fun x => x = 0) 193),
  (182, X_aload 0 1),
  (183, X_aload 0 1),
  (184, X_get 10 23),
  (187, X_iload 1 1),
  (188, X_ald 0),
  (189, X_push (xv_i 2) 1),
  (190, X_invV 10 Y_R_digits 2 []),
  (193, X_aload 0 1),
  (194, X_aload 0 1),
  (195, X_get 10 24),
  (198, X_iload 1 1),
  (199, X_ald 0),
  (200, X_push (xv_i 8) 2),
  (202, X_invV 10 Y_R_digits 2 []),
  (205, X_vret)]
set_option maxRecDepth 100000 in
theorem k_R_lay : x_bok m_R_lay b_R_lay := by
  unfold b_R_lay
  refine x_bok.cons (xs_aload_n d_R_lay_0 rfl) ?_
  refine x_bok.cons (xs_iconst d_R_lay_1 (by decide)) ?_
  refine x_bok.cons (xs_put d_R_lay_2 xc10 xw10 xt10 xn10 (by decide) q5_235 (Or.inl rfl) rfl rfl x_fitI) ?_
  refine x_bok.cons (xs_aload_n d_R_lay_5 rfl) ?_
  refine x_bok.cons (xs_aload_n d_R_lay_6 rfl) ?_
  refine x_bok.cons (xs_get d_R_lay_7 xc10 xw10 (by decide) q5_224 (Or.inl rfl)) ?_
  refine x_bok.cons (xs_iload_n d_R_lay_10 rfl) ?_
  refine x_bok.cons (xs_iald d_R_lay_11 rfl) ?_
  refine x_bok.cons (xs_iconst d_R_lay_12 (by decide)) ?_
  refine x_bok.cons (xs_invV d_R_lay_13 xc10 sn_R_digits is_R_digits ⟨q6_215, q6_217, (x_sel (x_p3 (List.mem_of_getElem? (i := 15) rfl))), q1_12⟩ (by decide) (by decide) rfl) ?_
  refine x_bok.cons (xs_iconst d_R_lay_16 (by decide)) ?_
  refine x_bok.cons (xs_istore_n d_R_lay_17 rfl (by decide)) ?_
  refine x_bok.cons (xs_iload_n d_R_lay_18 rfl) ?_
  refine x_bok.cons (xs_bipush d_R_lay_19 (by decide)) ?_
  refine x_bok.cons (xs_icmp_ge d_R_lay_21 (by decide)) ?_
  refine x_bok.cons (xs_iconst d_R_lay_24 (by decide)) ?_
  refine x_bok.cons (xs_istore_n d_R_lay_25 rfl (by decide)) ?_
  refine x_bok.cons (xs_iconst d_R_lay_26 (by decide)) ?_
  refine x_bok.cons (xs_istore d_R_lay_27 (by decide)) ?_
  refine x_bok.cons (xs_iload d_R_lay_29) ?_
  refine x_bok.cons (xs_bipush d_R_lay_31 (by decide)) ?_
  refine x_bok.cons (xs_icmp_ge d_R_lay_33 (by decide)) ?_
  refine x_bok.cons (xs_iconst d_R_lay_36 (by decide)) ?_
  refine x_bok.cons (xs_iload_n d_R_lay_37 rfl) ?_
  refine x_bok.cons (xs_imul d_R_lay_38) ?_
  refine x_bok.cons (xs_aload_n d_R_lay_39 rfl) ?_
  refine x_bok.cons (xs_aload_n d_R_lay_40 rfl) ?_
  refine x_bok.cons (xs_get d_R_lay_41 xc10 xw10 (by decide) q5_224 (Or.inl rfl)) ?_
  refine x_bok.cons (xs_iload_n d_R_lay_44 rfl) ?_
  refine x_bok.cons (xs_iald d_R_lay_45 rfl) ?_
  refine x_bok.cons (xs_bipush d_R_lay_46 (by decide)) ?_
  refine x_bok.cons (xs_iload_n d_R_lay_48 rfl) ?_
  refine x_bok.cons (xs_imul d_R_lay_49) ?_
  refine x_bok.cons (xs_iload d_R_lay_50) ?_
  refine x_bok.cons (xs_iadd d_R_lay_52) ?_
  refine x_bok.cons (xs_iconst d_R_lay_53 (by decide)) ?_
  refine x_bok.cons (xs_iadd d_R_lay_54) ?_
  refine x_bok.cons (xs_invV d_R_lay_55 xc10 sn_R_isField is_R_isField ⟨q6_219, q6_221, (x_sel (x_p4 (List.mem_of_getElem? (i := 0) rfl))), q1_12⟩ (by decide) (by decide) rfl) ?_
  refine x_bok.cons (xs_if_eq d_R_lay_58 (by decide)) ?_
  refine x_bok.cons (xs_iconst d_R_lay_61 (by decide)) ?_
  refine x_bok.cons (xs_goto d_R_lay_62 (by decide)) ?_
  refine x_bok.cons (xs_iconst d_R_lay_65 (by decide)) ?_
  refine x_bok.cons (xs_iadd d_R_lay_66) ?_
  refine x_bok.cons (xs_istore_n d_R_lay_67 rfl (by decide)) ?_
  refine x_bok.cons (xs_iinc d_R_lay_68 (by decide) (by decide)) ?_
  refine x_bok.cons (xs_goto d_R_lay_71 (by decide)) ?_
  refine x_bok.cons (xs_aload_n d_R_lay_74 rfl) ?_
  refine x_bok.cons (xs_get d_R_lay_75 xc10 xw10 (by decide) q5_234 (Or.inl rfl)) ?_
  refine x_bok.cons (xs_aload_n d_R_lay_78 rfl) ?_
  refine x_bok.cons (xs_dup d_R_lay_79) ?_
  refine x_bok.cons (xs_get d_R_lay_80 xc10 xw10 (by decide) q5_235 (Or.inl rfl)) ?_
  refine x_bok.cons (xs_dup_x1 d_R_lay_83) ?_
  refine x_bok.cons (xs_iconst d_R_lay_84 (by decide)) ?_
  refine x_bok.cons (xs_iadd d_R_lay_85) ?_
  refine x_bok.cons (xs_put d_R_lay_86 xc10 xw10 xt10 xn10 (by decide) q5_235 (Or.inl rfl) rfl rfl x_fitI) ?_
  refine x_bok.cons (xs_iload_n d_R_lay_89 rfl) ?_
  refine x_bok.cons (xs_i2b d_R_lay_90) ?_
  refine x_bok.cons (xs_bast d_R_lay_91 rfl) ?_
  refine x_bok.cons (xs_iinc d_R_lay_92 (by decide) (by decide)) ?_
  refine x_bok.cons (xs_goto d_R_lay_95 (by decide)) ?_
  refine x_bok.cons (xs_aload_n d_R_lay_98 rfl) ?_
  refine x_bok.cons (xs_aload_n d_R_lay_99 rfl) ?_
  refine x_bok.cons (xs_get d_R_lay_100 xc10 xw10 (by decide) q5_224 (Or.inl rfl)) ?_
  refine x_bok.cons (xs_iload_n d_R_lay_103 rfl) ?_
  refine x_bok.cons (xs_iald d_R_lay_104 rfl) ?_
  refine x_bok.cons (xs_iconst d_R_lay_105 (by decide)) ?_
  refine x_bok.cons (xs_invV d_R_lay_106 xc10 sn_R_isField is_R_isField ⟨q6_219, q6_221, (x_sel (x_p4 (List.mem_of_getElem? (i := 0) rfl))), q1_12⟩ (by decide) (by decide) rfl) ?_
  refine x_bok.cons (xs_if_eq d_R_lay_109 (by decide)) ?_
  refine x_bok.cons (xs_aload_n d_R_lay_112 rfl) ?_
  refine x_bok.cons (xs_iconst d_R_lay_113 (by decide)) ?_
  refine x_bok.cons (xs_iconst d_R_lay_114 (by decide)) ?_
  refine x_bok.cons (xs_invV d_R_lay_115 xc10 sn_R_digits is_R_digits ⟨q6_215, q6_217, (x_sel (x_p3 (List.mem_of_getElem? (i := 15) rfl))), q1_12⟩ (by decide) (by decide) rfl) ?_
  refine x_bok.cons (xs_aload_n d_R_lay_118 rfl) ?_
  refine x_bok.cons (xs_aload_n d_R_lay_119 rfl) ?_
  refine x_bok.cons (xs_get d_R_lay_120 xc10 xw10 (by decide) q5_225 (Or.inl rfl)) ?_
  refine x_bok.cons (xs_iload_n d_R_lay_123 rfl) ?_
  refine x_bok.cons (xs_iald d_R_lay_124 rfl) ?_
  refine x_bok.cons (xs_iconst d_R_lay_125 (by decide)) ?_
  refine x_bok.cons (xs_invV d_R_lay_126 xc10 sn_R_digits is_R_digits ⟨q6_215, q6_217, (x_sel (x_p3 (List.mem_of_getElem? (i := 15) rfl))), q1_12⟩ (by decide) (by decide) rfl) ?_
  refine x_bok.cons (xs_aload_n d_R_lay_129 rfl) ?_
  refine x_bok.cons (xs_aload_n d_R_lay_130 rfl) ?_
  refine x_bok.cons (xs_get d_R_lay_131 xc10 xw10 (by decide) q5_224 (Or.inl rfl)) ?_
  refine x_bok.cons (xs_iload_n d_R_lay_134 rfl) ?_
  refine x_bok.cons (xs_iald d_R_lay_135 rfl) ?_
  refine x_bok.cons (xs_iconst d_R_lay_136 (by decide)) ?_
  refine x_bok.cons (xs_invV d_R_lay_137 xc10 sn_R_isField is_R_isField ⟨q6_219, q6_221, (x_sel (x_p4 (List.mem_of_getElem? (i := 0) rfl))), q1_12⟩ (by decide) (by decide) rfl) ?_
  refine x_bok.cons (xs_if_eq d_R_lay_140 (by decide)) ?_
  refine x_bok.cons (xs_aload_n d_R_lay_143 rfl) ?_
  refine x_bok.cons (xs_aload_n d_R_lay_144 rfl) ?_
  refine x_bok.cons (xs_get d_R_lay_145 xc10 xw10 (by decide) q5_226 (Or.inl rfl)) ?_
  refine x_bok.cons (xs_iload_n d_R_lay_148 rfl) ?_
  refine x_bok.cons (xs_iald d_R_lay_149 rfl) ?_
  refine x_bok.cons (xs_bipush d_R_lay_150 (by decide)) ?_
  refine x_bok.cons (xs_invV d_R_lay_152 xc10 sn_R_digits is_R_digits ⟨q6_215, q6_217, (x_sel (x_p3 (List.mem_of_getElem? (i := 15) rfl))), q1_12⟩ (by decide) (by decide) rfl) ?_
  refine x_bok.cons (xs_aload_n d_R_lay_155 rfl) ?_
  refine x_bok.cons (xs_aload_n d_R_lay_156 rfl) ?_
  refine x_bok.cons (xs_get d_R_lay_157 xc10 xw10 (by decide) q5_227 (Or.inl rfl)) ?_
  refine x_bok.cons (xs_iload_n d_R_lay_160 rfl) ?_
  refine x_bok.cons (xs_iald d_R_lay_161 rfl) ?_
  refine x_bok.cons (xs_bipush d_R_lay_162 (by decide)) ?_
  refine x_bok.cons (xs_invV d_R_lay_164 xc10 sn_R_digits is_R_digits ⟨q6_215, q6_217, (x_sel (x_p3 (List.mem_of_getElem? (i := 15) rfl))), q1_12⟩ (by decide) (by decide) rfl) ?_
  refine x_bok.cons (xs_aload_n d_R_lay_167 rfl) ?_
  refine x_bok.cons (xs_aload_n d_R_lay_168 rfl) ?_
  refine x_bok.cons (xs_get d_R_lay_169 xc10 xw10 (by decide) q5_224 (Or.inl rfl)) ?_
  refine x_bok.cons (xs_iload_n d_R_lay_172 rfl) ?_
  refine x_bok.cons (xs_iald d_R_lay_173 rfl) ?_
  refine x_bok.cons (xs_bipush d_R_lay_174 (by decide)) ?_
  refine x_bok.cons (xs_invV d_R_lay_176 xc10 sn_R_isField is_R_isField ⟨q6_219, q6_221, (x_sel (x_p4 (List.mem_of_getElem? (i := 0) rfl))), q1_12⟩ (by decide) (by decide) rfl) ?_
  refine x_bok.cons (xs_if_eq d_R_lay_179 (by decide)) ?_
  refine x_bok.cons (xs_aload_n d_R_lay_182 rfl) ?_
  refine x_bok.cons (xs_aload_n d_R_lay_183 rfl) ?_
  refine x_bok.cons (xs_get d_R_lay_184 xc10 xw10 (by decide) q5_228 (Or.inl rfl)) ?_
  refine x_bok.cons (xs_iload_n d_R_lay_187 rfl) ?_
  refine x_bok.cons (xs_iald d_R_lay_188 rfl) ?_
  refine x_bok.cons (xs_iconst d_R_lay_189 (by decide)) ?_
  refine x_bok.cons (xs_invV d_R_lay_190 xc10 sn_R_digits is_R_digits ⟨q6_215, q6_217, (x_sel (x_p3 (List.mem_of_getElem? (i := 15) rfl))), q1_12⟩ (by decide) (by decide) rfl) ?_
  refine x_bok.cons (xs_aload_n d_R_lay_193 rfl) ?_
  refine x_bok.cons (xs_aload_n d_R_lay_194 rfl) ?_
  refine x_bok.cons (xs_get d_R_lay_195 xc10 xw10 (by decide) q5_229 (Or.inl rfl)) ?_
  refine x_bok.cons (xs_iload_n d_R_lay_198 rfl) ?_
  refine x_bok.cons (xs_iald d_R_lay_199 rfl) ?_
  refine x_bok.cons (xs_bipush d_R_lay_200 (by decide)) ?_
  refine x_bok.cons (xs_invV d_R_lay_202 xc10 sn_R_digits is_R_digits ⟨q6_215, q6_217, (x_sel (x_p3 (List.mem_of_getElem? (i := 15) rfl))), q1_12⟩ (by decide) (by decide) rfl) ?_
  refine x_bok.cons (xs_vret d_R_lay_205 rfl) ?_
  exact x_bok.nil
set_option maxRecDepth 100000 in
theorem mn_R_lay : x_bmn b_R_lay := by
  unfold b_R_lay
  refine x_bmn.cons (xm_aload) ?_
  refine x_bmn.cons (xm_push) ?_
  refine x_bmn.cons (xm_put) ?_
  refine x_bmn.cons (xm_aload) ?_
  refine x_bmn.cons (xm_aload) ?_
  refine x_bmn.cons (xm_get) ?_
  refine x_bmn.cons (xm_iload) ?_
  refine x_bmn.cons (xm_ald) ?_
  refine x_bmn.cons (xm_push) ?_
  refine x_bmn.cons (xm_invV ym_R_digits) ?_
  refine x_bmn.cons (xm_push) ?_
  refine x_bmn.cons (xm_istore) ?_
  refine x_bmn.cons (xm_iload) ?_
  refine x_bmn.cons (xm_push) ?_
  refine x_bmn.cons (xm_icmp) ?_
  refine x_bmn.cons (xm_push) ?_
  refine x_bmn.cons (xm_istore) ?_
  refine x_bmn.cons (xm_push) ?_
  refine x_bmn.cons (xm_istore) ?_
  refine x_bmn.cons (xm_iload) ?_
  refine x_bmn.cons (xm_push) ?_
  refine x_bmn.cons (xm_icmp) ?_
  refine x_bmn.cons (xm_push) ?_
  refine x_bmn.cons (xm_iload) ?_
  refine x_bmn.cons (xm_bin) ?_
  refine x_bmn.cons (xm_aload) ?_
  refine x_bmn.cons (xm_aload) ?_
  refine x_bmn.cons (xm_get) ?_
  refine x_bmn.cons (xm_iload) ?_
  refine x_bmn.cons (xm_ald) ?_
  refine x_bmn.cons (xm_push) ?_
  refine x_bmn.cons (xm_iload) ?_
  refine x_bmn.cons (xm_bin) ?_
  refine x_bmn.cons (xm_iload) ?_
  refine x_bmn.cons (xm_bin) ?_
  refine x_bmn.cons (xm_push) ?_
  refine x_bmn.cons (xm_bin) ?_
  refine x_bmn.cons (xm_invV ym_R_isField) ?_
  refine x_bmn.cons (xm_if) ?_
  refine x_bmn.cons (xm_push) ?_
  refine x_bmn.cons (xm_goto) ?_
  refine x_bmn.cons (xm_push) ?_
  refine x_bmn.cons (xm_bin) ?_
  refine x_bmn.cons (xm_istore) ?_
  refine x_bmn.cons (xm_iinc) ?_
  refine x_bmn.cons (xm_goto) ?_
  refine x_bmn.cons (xm_aload) ?_
  refine x_bmn.cons (xm_get) ?_
  refine x_bmn.cons (xm_aload) ?_
  refine x_bmn.cons (xm_dup) ?_
  refine x_bmn.cons (xm_get) ?_
  refine x_bmn.cons (xm_dup_x1) ?_
  refine x_bmn.cons (xm_push) ?_
  refine x_bmn.cons (xm_bin) ?_
  refine x_bmn.cons (xm_put) ?_
  refine x_bmn.cons (xm_iload) ?_
  refine x_bmn.cons (xm_un) ?_
  refine x_bmn.cons (xm_ast) ?_
  refine x_bmn.cons (xm_iinc) ?_
  refine x_bmn.cons (xm_goto) ?_
  refine x_bmn.cons (xm_aload) ?_
  refine x_bmn.cons (xm_aload) ?_
  refine x_bmn.cons (xm_get) ?_
  refine x_bmn.cons (xm_iload) ?_
  refine x_bmn.cons (xm_ald) ?_
  refine x_bmn.cons (xm_push) ?_
  refine x_bmn.cons (xm_invV ym_R_isField) ?_
  refine x_bmn.cons (xm_if) ?_
  refine x_bmn.cons (xm_aload) ?_
  refine x_bmn.cons (xm_push) ?_
  refine x_bmn.cons (xm_push) ?_
  refine x_bmn.cons (xm_invV ym_R_digits) ?_
  refine x_bmn.cons (xm_aload) ?_
  refine x_bmn.cons (xm_aload) ?_
  refine x_bmn.cons (xm_get) ?_
  refine x_bmn.cons (xm_iload) ?_
  refine x_bmn.cons (xm_ald) ?_
  refine x_bmn.cons (xm_push) ?_
  refine x_bmn.cons (xm_invV ym_R_digits) ?_
  refine x_bmn.cons (xm_aload) ?_
  refine x_bmn.cons (xm_aload) ?_
  refine x_bmn.cons (xm_get) ?_
  refine x_bmn.cons (xm_iload) ?_
  refine x_bmn.cons (xm_ald) ?_
  refine x_bmn.cons (xm_push) ?_
  refine x_bmn.cons (xm_invV ym_R_isField) ?_
  refine x_bmn.cons (xm_if) ?_
  refine x_bmn.cons (xm_aload) ?_
  refine x_bmn.cons (xm_aload) ?_
  refine x_bmn.cons (xm_get) ?_
  refine x_bmn.cons (xm_iload) ?_
  refine x_bmn.cons (xm_ald) ?_
  refine x_bmn.cons (xm_push) ?_
  refine x_bmn.cons (xm_invV ym_R_digits) ?_
  refine x_bmn.cons (xm_aload) ?_
  refine x_bmn.cons (xm_aload) ?_
  refine x_bmn.cons (xm_get) ?_
  refine x_bmn.cons (xm_iload) ?_
  refine x_bmn.cons (xm_ald) ?_
  refine x_bmn.cons (xm_push) ?_
  refine x_bmn.cons (xm_invV ym_R_digits) ?_
  refine x_bmn.cons (xm_aload) ?_
  refine x_bmn.cons (xm_aload) ?_
  refine x_bmn.cons (xm_get) ?_
  refine x_bmn.cons (xm_iload) ?_
  refine x_bmn.cons (xm_ald) ?_
  refine x_bmn.cons (xm_push) ?_
  refine x_bmn.cons (xm_invV ym_R_isField) ?_
  refine x_bmn.cons (xm_if) ?_
  refine x_bmn.cons (xm_aload) ?_
  refine x_bmn.cons (xm_aload) ?_
  refine x_bmn.cons (xm_get) ?_
  refine x_bmn.cons (xm_iload) ?_
  refine x_bmn.cons (xm_ald) ?_
  refine x_bmn.cons (xm_push) ?_
  refine x_bmn.cons (xm_invV ym_R_digits) ?_
  refine x_bmn.cons (xm_aload) ?_
  refine x_bmn.cons (xm_aload) ?_
  refine x_bmn.cons (xm_get) ?_
  refine x_bmn.cons (xm_iload) ?_
  refine x_bmn.cons (xm_ald) ?_
  refine x_bmn.cons (xm_push) ?_
  refine x_bmn.cons (xm_invV ym_R_digits) ?_
  refine x_bmn.cons (xm_vret) ?_
  exact x_bmn.nil
theorem is_R_lay : x_Is y_R_lay m_R_lay := x_is_code q6_214
def Y_R_lay : XMeth := x_do 5 b_R_lay
theorem sn_R_lay : x_Snd y_R_lay m_R_lay Y_R_lay := x_snd_of (by decide) rfl rfl is_R_lay k_R_lay
theorem ym_R_lay : x_Ymn Y_R_lay := x_ymn_of mn_R_lay
/- CashLinkModel.byteAt(II)I -/
abbrev c_R_byteAt : ByteArray := prog_12_method_39_code
def y_R_byteAt : MethodName := ⟨"CashLinkModel", "byteAt", "(II)I"⟩
theorem d_R_byteAt_0 : decode c_R_byteAt 0 = .ok (.aload_n 0, 1) := by decide +kernel
theorem d_R_byteAt_1 : decode c_R_byteAt 1 = .ok (.iload_n 1, 1) := by decide +kernel
theorem d_R_byteAt_2 : decode c_R_byteAt 2 = .ok (.iconst 0, 1) := by decide +kernel
theorem d_R_byteAt_3 : decode c_R_byteAt 3 = .ok (.aload_n 0, 1) := by decide +kernel
theorem d_R_byteAt_4 : decode c_R_byteAt 4 = .ok (.getfield 119, 3) := by decide +kernel
theorem d_R_byteAt_7 : decode c_R_byteAt 7 = .ok (.iconst 1, 1) := by decide +kernel
theorem d_R_byteAt_8 : decode c_R_byteAt 8 = .ok (.isub, 1) := by decide +kernel
theorem d_R_byteAt_9 : decode c_R_byteAt 9 = .ok (.invokestatic 175, 3) := by decide +kernel
theorem d_R_byteAt_12 : decode c_R_byteAt 12 = .ok (.ifCond .eq 11, 3) := by decide +kernel
theorem d_R_byteAt_15 : decode c_R_byteAt 15 = .ok (.iload_n 2, 1) := by decide +kernel
theorem d_R_byteAt_16 : decode c_R_byteAt 16 = .ok (.ifCond .lt 7, 3) := by decide +kernel
theorem d_R_byteAt_19 : decode c_R_byteAt 19 = .ok (.iconst 0, 1) := by decide +kernel
theorem d_R_byteAt_20 : decode c_R_byteAt 20 = .ok (.goto 4, 3) := by decide +kernel
theorem d_R_byteAt_23 : decode c_R_byteAt 23 = .ok (.iconst 1, 1) := by decide +kernel
theorem d_R_byteAt_24 : decode c_R_byteAt 24 = .ok (.putfield 96, 3) := by decide +kernel
theorem d_R_byteAt_27 : decode c_R_byteAt 27 = .ok (.aload_n 0, 1) := by decide +kernel
theorem d_R_byteAt_28 : decode c_R_byteAt 28 = .ok (.getfield 96, 3) := by decide +kernel
theorem d_R_byteAt_31 : decode c_R_byteAt 31 = .ok (.ifCond .le 5, 3) := by decide +kernel
theorem d_R_byteAt_34 : decode c_R_byteAt 34 = .ok (.iconst 0, 1) := by decide +kernel
theorem d_R_byteAt_35 : decode c_R_byteAt 35 = .ok (.ireturn, 1) := by decide +kernel
theorem d_R_byteAt_36 : decode c_R_byteAt 36 = .ok (.aload_n 0, 1) := by decide +kernel
theorem d_R_byteAt_37 : decode c_R_byteAt 37 = .ok (.iload_n 1, 1) := by decide +kernel
theorem d_R_byteAt_38 : decode c_R_byteAt 38 = .ok (.invokevirtual 190, 3) := by decide +kernel
theorem d_R_byteAt_41 : decode c_R_byteAt 41 = .ok (.iload_n 2, 1) := by decide +kernel
theorem d_R_byteAt_42 : decode c_R_byteAt 42 = .ok (.aload_n 0, 1) := by decide +kernel
theorem d_R_byteAt_43 : decode c_R_byteAt 43 = .ok (.getfield 122, 3) := by decide +kernel
theorem d_R_byteAt_46 : decode c_R_byteAt 46 = .ok (.if_icmp .ge 16, 3) := by decide +kernel
theorem d_R_byteAt_49 : decode c_R_byteAt 49 = .ok (.aload_n 0, 1) := by decide +kernel
theorem d_R_byteAt_50 : decode c_R_byteAt 50 = .ok (.getfield 92, 3) := by decide +kernel
theorem d_R_byteAt_53 : decode c_R_byteAt 53 = .ok (.iload_n 2, 1) := by decide +kernel
theorem d_R_byteAt_54 : decode c_R_byteAt 54 = .ok (.baload, 1) := by decide +kernel
theorem d_R_byteAt_55 : decode c_R_byteAt 55 = .ok (.sipush 255, 3) := by decide +kernel
theorem d_R_byteAt_58 : decode c_R_byteAt 58 = .ok (.iand, 1) := by decide +kernel
theorem d_R_byteAt_59 : decode c_R_byteAt 59 = .ok (.goto 4, 3) := by decide +kernel
theorem d_R_byteAt_62 : decode c_R_byteAt 62 = .ok (.iconst (-1), 1) := by decide +kernel
theorem d_R_byteAt_63 : decode c_R_byteAt 63 = .ok (.ireturn, 1) := by decide +kernel
def m_R_byteAt : XM := ("CashLinkModel", c_R_byteAt, 3, (some .int), "byteAt", [], 2, 48)
def b_R_byteAt : XB := [(0, X_aload 0 1),
  (1, X_iload 1 1),
  (2, X_push (xv_i 0) 1),
  (3, X_aload 0 1),
  (4, X_get 10 25),
  (7, X_push (xv_i 1) 1),
  (8, X_bin (fun x y => x - y)),
  (9, X_invS Y_R_in 3 []),
  (12, X_if (fun x => x = 0) 23),
  (15, X_iload 2 1),
  (16, X_if (fun x => x < 0) 23),
  (19, X_push (xv_i 0) 1),
  (20, X_goto 24),
  (23, X_push (xv_i 1) 1),
  (24, X_put x_tI 10 26),
  (27, X_aload 0 1),
  (28, X_get 10 26),
  (31, X_if (fun x => x ≤ 0) 36),
  (34, X_push (xv_i 0) 1),
  (35, X_iret),
  (36, X_aload 0 1),
  (37, X_iload 1 1),
  (38, X_invV 10 Y_R_lay 1 []),
  (41, X_iload 2 1),
  (42, X_aload 0 1),
  (43, X_get 10 30),
  (46, X_icmp (fun x y => y ≤ x) 62),
  (49, X_aload 0 1),
  (50, X_get 10 29),
  (53, X_iload 2 1),
  (54, X_ald 2),
  (55, X_push (xv_i 255) 3),
  (58, X_bin (fun x y => x &&& y)),
  (59, X_goto 63),
  (62, X_push (xv_i (-1)) 1),
  (63, X_iret)]
set_option maxRecDepth 100000 in
theorem k_R_byteAt : x_bok m_R_byteAt b_R_byteAt := by
  unfold b_R_byteAt
  refine x_bok.cons (xs_aload_n d_R_byteAt_0 rfl) ?_
  refine x_bok.cons (xs_iload_n d_R_byteAt_1 rfl) ?_
  refine x_bok.cons (xs_iconst d_R_byteAt_2 (by decide)) ?_
  refine x_bok.cons (xs_aload_n d_R_byteAt_3 rfl) ?_
  refine x_bok.cons (xs_get d_R_byteAt_4 xc10 xw10 (by decide) q5_230 (Or.inl rfl)) ?_
  refine x_bok.cons (xs_iconst d_R_byteAt_7 (by decide)) ?_
  refine x_bok.cons (xs_isub d_R_byteAt_8) ?_
  refine x_bok.cons (xs_invS d_R_byteAt_9 sn_R_in is_R_in ⟨q6_67, q6_68, q1_12⟩ (by decide) (by decide) rfl) ?_
  refine x_bok.cons (xs_if_eq d_R_byteAt_12 (by decide)) ?_
  refine x_bok.cons (xs_iload_n d_R_byteAt_15 rfl) ?_
  refine x_bok.cons (xs_if_lt d_R_byteAt_16 (by decide)) ?_
  refine x_bok.cons (xs_iconst d_R_byteAt_19 (by decide)) ?_
  refine x_bok.cons (xs_goto d_R_byteAt_20 (by decide)) ?_
  refine x_bok.cons (xs_iconst d_R_byteAt_23 (by decide)) ?_
  refine x_bok.cons (xs_put d_R_byteAt_24 xc10 xw10 xt10 xn10 (by decide) q5_231 (Or.inl rfl) rfl rfl x_fitI) ?_
  refine x_bok.cons (xs_aload_n d_R_byteAt_27 rfl) ?_
  refine x_bok.cons (xs_get d_R_byteAt_28 xc10 xw10 (by decide) q5_231 (Or.inl rfl)) ?_
  refine x_bok.cons (xs_if_le d_R_byteAt_31 (by decide)) ?_
  refine x_bok.cons (xs_iconst d_R_byteAt_34 (by decide)) ?_
  refine x_bok.cons (xs_iret d_R_byteAt_35 rfl) ?_
  refine x_bok.cons (xs_aload_n d_R_byteAt_36 rfl) ?_
  refine x_bok.cons (xs_iload_n d_R_byteAt_37 rfl) ?_
  refine x_bok.cons (xs_invV d_R_byteAt_38 xc10 sn_R_lay is_R_lay ⟨q6_211, q6_213, (x_sel (x_p3 (List.mem_of_getElem? (i := 14) rfl))), q1_12⟩ (by decide) (by decide) rfl) ?_
  refine x_bok.cons (xs_iload_n d_R_byteAt_41 rfl) ?_
  refine x_bok.cons (xs_aload_n d_R_byteAt_42 rfl) ?_
  refine x_bok.cons (xs_get d_R_byteAt_43 xc10 xw10 (by decide) q5_235 (Or.inl rfl)) ?_
  refine x_bok.cons (xs_icmp_ge d_R_byteAt_46 (by decide)) ?_
  refine x_bok.cons (xs_aload_n d_R_byteAt_49 rfl) ?_
  refine x_bok.cons (xs_get d_R_byteAt_50 xc10 xw10 (by decide) q5_234 (Or.inl rfl)) ?_
  refine x_bok.cons (xs_iload_n d_R_byteAt_53 rfl) ?_
  refine x_bok.cons (xs_bald d_R_byteAt_54 rfl) ?_
  refine x_bok.cons (xs_sipush d_R_byteAt_55 (by decide)) ?_
  refine x_bok.cons (xs_iand d_R_byteAt_58) ?_
  refine x_bok.cons (xs_goto d_R_byteAt_59 (by decide)) ?_
  refine x_bok.cons (xs_iconst d_R_byteAt_62 (by decide)) ?_
  refine x_bok.cons (xs_iret d_R_byteAt_63 rfl) ?_
  exact x_bok.nil
set_option maxRecDepth 100000 in
theorem mn_R_byteAt : x_bmn b_R_byteAt := by
  unfold b_R_byteAt
  refine x_bmn.cons (xm_aload) ?_
  refine x_bmn.cons (xm_iload) ?_
  refine x_bmn.cons (xm_push) ?_
  refine x_bmn.cons (xm_aload) ?_
  refine x_bmn.cons (xm_get) ?_
  refine x_bmn.cons (xm_push) ?_
  refine x_bmn.cons (xm_bin) ?_
  refine x_bmn.cons (xm_invS ym_R_in) ?_
  refine x_bmn.cons (xm_if) ?_
  refine x_bmn.cons (xm_iload) ?_
  refine x_bmn.cons (xm_if) ?_
  refine x_bmn.cons (xm_push) ?_
  refine x_bmn.cons (xm_goto) ?_
  refine x_bmn.cons (xm_push) ?_
  refine x_bmn.cons (xm_put) ?_
  refine x_bmn.cons (xm_aload) ?_
  refine x_bmn.cons (xm_get) ?_
  refine x_bmn.cons (xm_if) ?_
  refine x_bmn.cons (xm_push) ?_
  refine x_bmn.cons (xm_iret) ?_
  refine x_bmn.cons (xm_aload) ?_
  refine x_bmn.cons (xm_iload) ?_
  refine x_bmn.cons (xm_invV ym_R_lay) ?_
  refine x_bmn.cons (xm_iload) ?_
  refine x_bmn.cons (xm_aload) ?_
  refine x_bmn.cons (xm_get) ?_
  refine x_bmn.cons (xm_icmp) ?_
  refine x_bmn.cons (xm_aload) ?_
  refine x_bmn.cons (xm_get) ?_
  refine x_bmn.cons (xm_iload) ?_
  refine x_bmn.cons (xm_ald) ?_
  refine x_bmn.cons (xm_push) ?_
  refine x_bmn.cons (xm_bin) ?_
  refine x_bmn.cons (xm_goto) ?_
  refine x_bmn.cons (xm_push) ?_
  refine x_bmn.cons (xm_iret) ?_
  exact x_bmn.nil
theorem is_R_byteAt : x_Is y_R_byteAt m_R_byteAt := x_is_code q6_210
def Y_R_byteAt : XMeth := x_do 3 b_R_byteAt
theorem sn_R_byteAt : x_Snd y_R_byteAt m_R_byteAt Y_R_byteAt := x_snd_of (by decide) rfl rfl is_R_byteAt k_R_byteAt
theorem ym_R_byteAt : x_Ymn Y_R_byteAt := x_ymn_of mn_R_byteAt
