/- CashLink$Machine.payOut()V -/
abbrev c_M_payOut : ByteArray := prog_6_method_10_code
def y_M_payOut : MethodName := ⟨"CashLink$Machine", "payOut", "()V"⟩
theorem d_M_payOut_0 : decode c_M_payOut 0 = .ok (.aload_n 0, 1) := by decide +kernel
theorem d_M_payOut_1 : decode c_M_payOut 1 = .ok (.getfield 21, 3) := by decide +kernel
theorem d_M_payOut_4 : decode c_M_payOut 4 = .ok (.aload_n 0, 1) := by decide +kernel
theorem d_M_payOut_5 : decode c_M_payOut 5 = .ok (.getfield 106, 3) := by decide +kernel
theorem d_M_payOut_8 : decode c_M_payOut 8 = .ok (.invokevirtual 75, 3) := by decide +kernel
theorem d_M_payOut_11 : decode c_M_payOut 11 = .ok (.istore_n 1, 1) := by decide +kernel
theorem d_M_payOut_12 : decode c_M_payOut 12 = .ok (.iload_n 1, 1) := by decide +kernel
theorem d_M_payOut_13 : decode c_M_payOut 13 = .ok (.iconst (-1), 1) := by decide +kernel
theorem d_M_payOut_14 : decode c_M_payOut 14 = .ok (.if_icmp .ne 9, 3) := by decide +kernel
theorem d_M_payOut_17 : decode c_M_payOut 17 = .ok (.aload_n 0, 1) := by decide +kernel
theorem d_M_payOut_18 : decode c_M_payOut 18 = .ok (.iconst 0, 1) := by decide +kernel
theorem d_M_payOut_19 : decode c_M_payOut 19 = .ok (.invokevirtual 124, 3) := by decide +kernel
theorem d_M_payOut_22 : decode c_M_payOut 22 = .ok (.return_, 1) := by decide +kernel
theorem d_M_payOut_23 : decode c_M_payOut 23 = .ok (.aload_n 0, 1) := by decide +kernel
theorem d_M_payOut_24 : decode c_M_payOut 24 = .ok (.getfield 14, 3) := by decide +kernel
theorem d_M_payOut_27 : decode c_M_payOut 27 = .ok (.new 94, 3) := by decide +kernel
theorem d_M_payOut_30 : decode c_M_payOut 30 = .ok (.dup, 1) := by decide +kernel
theorem d_M_payOut_31 : decode c_M_payOut 31 = .ok (.iconst 2, 1) := by decide +kernel
theorem d_M_payOut_32 : decode c_M_payOut 32 = .ok (.aload_n 0, 1) := by decide +kernel
theorem d_M_payOut_33 : decode c_M_payOut 33 = .ok (.getfield 41, 3) := by decide +kernel
theorem d_M_payOut_36 : decode c_M_payOut 36 = .ok (.aload_n 0, 1) := by decide +kernel
theorem d_M_payOut_37 : decode c_M_payOut 37 = .ok (.getfield 96, 3) := by decide +kernel
theorem d_M_payOut_40 : decode c_M_payOut 40 = .ok (.iload_n 1, 1) := by decide +kernel
theorem d_M_payOut_41 : decode c_M_payOut 41 = .ok (.invokespecial 178, 3) := by decide +kernel
theorem d_M_payOut_44 : decode c_M_payOut 44 = .ok (.invokevirtual 102, 3) := by decide +kernel
theorem d_M_payOut_47 : decode c_M_payOut 47 = .ok (.aload_n 0, 1) := by decide +kernel
theorem d_M_payOut_48 : decode c_M_payOut 48 = .ok (.getfield 49, 3) := by decide +kernel
theorem d_M_payOut_51 : decode c_M_payOut 51 = .ok (.aload_n 0, 1) := by decide +kernel
theorem d_M_payOut_52 : decode c_M_payOut 52 = .ok (.getfield 63, 3) := by decide +kernel
theorem d_M_payOut_55 : decode c_M_payOut 55 = .ok (.dup2, 1) := by decide +kernel
theorem d_M_payOut_56 : decode c_M_payOut 56 = .ok (.iaload, 1) := by decide +kernel
theorem d_M_payOut_57 : decode c_M_payOut 57 = .ok (.aload_n 0, 1) := by decide +kernel
theorem d_M_payOut_58 : decode c_M_payOut 58 = .ok (.getfield 21, 3) := by decide +kernel
theorem d_M_payOut_61 : decode c_M_payOut 61 = .ok (.aload_n 0, 1) := by decide +kernel
theorem d_M_payOut_62 : decode c_M_payOut 62 = .ok (.getfield 96, 3) := by decide +kernel
theorem d_M_payOut_65 : decode c_M_payOut 65 = .ok (.iload_n 1, 1) := by decide +kernel
theorem d_M_payOut_66 : decode c_M_payOut 66 = .ok (.invokevirtual 181, 3) := by decide +kernel
theorem d_M_payOut_69 : decode c_M_payOut 69 = .ok (.iadd, 1) := by decide +kernel
theorem d_M_payOut_70 : decode c_M_payOut 70 = .ok (.iastore, 1) := by decide +kernel
theorem d_M_payOut_71 : decode c_M_payOut 71 = .ok (.aload_n 0, 1) := by decide +kernel
theorem d_M_payOut_72 : decode c_M_payOut 72 = .ok (.invokevirtual 185, 3) := by decide +kernel
theorem d_M_payOut_75 : decode c_M_payOut 75 = .ok (.return_, 1) := by decide +kernel
def m_M_payOut : XM := ("CashLink$Machine", c_M_payOut, 2, none, "payOut", [], 10, 227)
def b_M_payOut : XB := [(0, X_aload 0 1),
  (1, X_get 3 4),
  (4, X_aload 0 1),
  (5, X_get 3 9),
  (8, X_invV 5 Y_D_mixOf 1 []),
  (11, X_istore 1 1),
  (12, X_iload 1 1),
  (13, X_push (xv_i (-1)) 1),
  (14, X_icmp (fun x y => ¬ x = y) 23),
  (17, X_aload 0 1),
  (18, X_push (xv_i 0) 1),
  (19, X_invV 3 Y_M_voidRest 1 []),
  (22, X_vret),
  (23, X_aload 0 1),
  (24, X_get 3 3),
  (27, X_new 6 6 xD6),
  (30, X_dup),
  (31, X_push (xv_i 2) 1),
  (32, X_aload 0 1),
  (33, X_get 3 0),
  (36, X_aload 0 1),
  (37, X_get 3 8),
  (40, X_iload 1 1),
  (41, X_invI Y_E_init_2 4 []),
  (44, X_invV 4 Y_J_write 1 []),
  (47, X_aload 0 1),
  (48, X_get 3 2),
  (51, X_aload 0 1),
  (52, X_get 3 6),
  (55, X_dup2),
  (56, X_ald 0),
  (57, X_aload 0 1),
  (58, X_get 3 4),
  (61, X_aload 0 1),
  (62, X_get 3 8),
  (65, X_iload 1 1),
  (66, X_invV 5 Y_D_dispense 2 []),
  (69, X_bin (fun x y => x + y)),
  (70, X_ast 0 (fun x => x)),
  (71, X_aload 0 1),
  (72, X_invV 3 Y_M_endPayment 0 []),
  (75, X_vret)]
set_option maxRecDepth 100000 in
theorem k_M_payOut : x_bok m_M_payOut b_M_payOut := by
  unfold b_M_payOut
  refine x_bok.cons (xs_aload_n d_M_payOut_0 rfl) ?_
  refine x_bok.cons (xs_get d_M_payOut_1 xc3 xw3 (by decide) q1_170 (Or.inl rfl)) ?_
  refine x_bok.cons (xs_aload_n d_M_payOut_4 rfl) ?_
  refine x_bok.cons (xs_get d_M_payOut_5 xc3 xw3 (by decide) q1_176 (Or.inl rfl)) ?_
  refine x_bok.cons (xs_invV d_M_payOut_8 xc5 sn_D_mixOf is_D_mixOf ⟨q2_118, q2_119, q2_120, q1_9⟩ (by decide) (by decide) rfl) ?_
  refine x_bok.cons (xs_istore_n d_M_payOut_11 rfl (by decide)) ?_
  refine x_bok.cons (xs_iload_n d_M_payOut_12 rfl) ?_
  refine x_bok.cons (xs_iconst d_M_payOut_13 (by decide)) ?_
  refine x_bok.cons (xs_icmp_ne d_M_payOut_14 (by decide)) ?_
  refine x_bok.cons (xs_aload_n d_M_payOut_17 rfl) ?_
  refine x_bok.cons (xs_iconst d_M_payOut_18 (by decide)) ?_
  refine x_bok.cons (xs_invV d_M_payOut_19 xc3 sn_M_voidRest is_M_voidRest ⟨q3_67, q3_69, (x_sel (x_p1 (List.mem_of_getElem? (i := 5) rfl))), q1_8⟩ (by decide) (by decide) rfl) ?_
  refine x_bok.cons (xs_vret d_M_payOut_22 rfl) ?_
  refine x_bok.cons (xs_aload_n d_M_payOut_23 rfl) ?_
  refine x_bok.cons (xs_get d_M_payOut_24 xc3 xw3 (by decide) q1_168 (Or.inl rfl)) ?_
  refine x_bok.cons (xs_new d_M_payOut_27 xc6 xw6 xt6 q2_150 q2_151 q1_21 xd6 rfl) ?_
  refine x_bok.cons (xs_dup d_M_payOut_30) ?_
  refine x_bok.cons (xs_iconst d_M_payOut_31 (by decide)) ?_
  refine x_bok.cons (xs_aload_n d_M_payOut_32 rfl) ?_
  refine x_bok.cons (xs_get d_M_payOut_33 xc3 xw3 (by decide) q1_165 (Or.inl rfl)) ?_
  refine x_bok.cons (xs_aload_n d_M_payOut_36 rfl) ?_
  refine x_bok.cons (xs_get d_M_payOut_37 xc3 xw3 (by decide) q1_175 (Or.inl rfl)) ?_
  refine x_bok.cons (xs_iload_n d_M_payOut_40 rfl) ?_
  refine x_bok.cons (xs_invI d_M_payOut_41 sn_E_init_2 is_E_init_2 ⟨q3_71, q3_72, q3_73, q1_21⟩ (by decide) rfl (by decide) rfl) ?_
  refine x_bok.cons (xs_invV d_M_payOut_44 xc4 sn_J_write is_J_write ⟨q2_178, q2_179, q2_180, q1_7⟩ (by decide) (by decide) rfl) ?_
  refine x_bok.cons (xs_aload_n d_M_payOut_47 rfl) ?_
  refine x_bok.cons (xs_get d_M_payOut_48 xc3 xw3 (by decide) q1_167 (Or.inl rfl)) ?_
  refine x_bok.cons (xs_aload_n d_M_payOut_51 rfl) ?_
  refine x_bok.cons (xs_get d_M_payOut_52 xc3 xw3 (by decide) q1_173 (Or.inl rfl)) ?_
  refine x_bok.cons (xs_dup2 d_M_payOut_55) ?_
  refine x_bok.cons (xs_iald d_M_payOut_56 rfl) ?_
  refine x_bok.cons (xs_aload_n d_M_payOut_57 rfl) ?_
  refine x_bok.cons (xs_get d_M_payOut_58 xc3 xw3 (by decide) q1_170 (Or.inl rfl)) ?_
  refine x_bok.cons (xs_aload_n d_M_payOut_61 rfl) ?_
  refine x_bok.cons (xs_get d_M_payOut_62 xc3 xw3 (by decide) q1_175 (Or.inl rfl)) ?_
  refine x_bok.cons (xs_iload_n d_M_payOut_65 rfl) ?_
  refine x_bok.cons (xs_invV d_M_payOut_66 xc5 sn_D_dispense is_D_dispense ⟨q4_88, q4_89, q4_90, q1_9⟩ (by decide) (by decide) rfl) ?_
  refine x_bok.cons (xs_iadd d_M_payOut_69) ?_
  refine x_bok.cons (xs_iast d_M_payOut_70 rfl) ?_
  refine x_bok.cons (xs_aload_n d_M_payOut_71 rfl) ?_
  refine x_bok.cons (xs_invV d_M_payOut_72 xc3 sn_M_endPayment is_M_endPayment ⟨q4_97, q4_99, (x_sel (x_p2 (List.mem_of_getElem? (i := 5) rfl))), q1_8⟩ (by decide) (by decide) rfl) ?_
  refine x_bok.cons (xs_vret d_M_payOut_75 rfl) ?_
  exact x_bok.nil
set_option maxRecDepth 100000 in
theorem mn_M_payOut : x_bmn b_M_payOut := by
  unfold b_M_payOut
  refine x_bmn.cons (xm_aload) ?_
  refine x_bmn.cons (xm_get) ?_
  refine x_bmn.cons (xm_aload) ?_
  refine x_bmn.cons (xm_get) ?_
  refine x_bmn.cons (xm_invV ym_D_mixOf) ?_
  refine x_bmn.cons (xm_istore) ?_
  refine x_bmn.cons (xm_iload) ?_
  refine x_bmn.cons (xm_push) ?_
  refine x_bmn.cons (xm_icmp) ?_
  refine x_bmn.cons (xm_aload) ?_
  refine x_bmn.cons (xm_push) ?_
  refine x_bmn.cons (xm_invV ym_M_voidRest) ?_
  refine x_bmn.cons (xm_vret) ?_
  refine x_bmn.cons (xm_aload) ?_
  refine x_bmn.cons (xm_get) ?_
  refine x_bmn.cons (xm_new) ?_
  refine x_bmn.cons (xm_dup) ?_
  refine x_bmn.cons (xm_push) ?_
  refine x_bmn.cons (xm_aload) ?_
  refine x_bmn.cons (xm_get) ?_
  refine x_bmn.cons (xm_aload) ?_
  refine x_bmn.cons (xm_get) ?_
  refine x_bmn.cons (xm_iload) ?_
  refine x_bmn.cons (xm_invI ym_E_init_2) ?_
  refine x_bmn.cons (xm_invV ym_J_write) ?_
  refine x_bmn.cons (xm_aload) ?_
  refine x_bmn.cons (xm_get) ?_
  refine x_bmn.cons (xm_aload) ?_
  refine x_bmn.cons (xm_get) ?_
  refine x_bmn.cons (xm_dup2) ?_
  refine x_bmn.cons (xm_ald) ?_
  refine x_bmn.cons (xm_aload) ?_
  refine x_bmn.cons (xm_get) ?_
  refine x_bmn.cons (xm_aload) ?_
  refine x_bmn.cons (xm_get) ?_
  refine x_bmn.cons (xm_iload) ?_
  refine x_bmn.cons (xm_invV ym_D_dispense) ?_
  refine x_bmn.cons (xm_bin) ?_
  refine x_bmn.cons (xm_ast) ?_
  refine x_bmn.cons (xm_aload) ?_
  refine x_bmn.cons (xm_invV ym_M_endPayment) ?_
  refine x_bmn.cons (xm_vret) ?_
  exact x_bmn.nil
theorem is_M_payOut : x_Is y_M_payOut m_M_payOut := x_is_code q4_87
def Y_M_payOut : XMeth := x_do 2 b_M_payOut
theorem sn_M_payOut : x_Snd y_M_payOut m_M_payOut Y_M_payOut := x_snd_of (by decide) rfl rfl is_M_payOut k_M_payOut
theorem ym_M_payOut : x_Ymn Y_M_payOut := x_ymn_of mn_M_payOut
/- CashLink$Machine.receive(LCashLink$Message;)V -/
abbrev c_M_receive : ByteArray := prog_6_method_8_code
def y_M_receive : MethodName := ⟨"CashLink$Machine", "receive", "(LCashLink$Message;)V"⟩
theorem d_M_receive_0 : decode c_M_receive 0 = .ok (.aload_n 0, 1) := by decide +kernel
theorem d_M_receive_1 : decode c_M_receive 1 = .ok (.getfield 14, 3) := by decide +kernel
theorem d_M_receive_4 : decode c_M_receive 4 = .ok (.invokevirtual 53, 3) := by decide +kernel
theorem d_M_receive_7 : decode c_M_receive 7 = .ok (.ifCond .ne 4, 3) := by decide +kernel
theorem d_M_receive_10 : decode c_M_receive 10 = .ok (.return_, 1) := by decide +kernel
theorem d_M_receive_11 : decode c_M_receive 11 = .ok (.aload_n 1, 1) := by decide +kernel
theorem d_M_receive_12 : decode c_M_receive 12 = .ok (.invokevirtual 153, 3) := by decide +kernel
theorem d_M_receive_15 : decode c_M_receive 15 = .ok (.getstatic 159, 3) := by decide +kernel
theorem d_M_receive_18 : decode c_M_receive 18 = .ok (.if_acmp .ne 14, 3) := by decide +kernel
theorem d_M_receive_21 : decode c_M_receive 21 = .ok (.aload_n 0, 1) := by decide +kernel
theorem d_M_receive_22 : decode c_M_receive 22 = .ok (.aload_n 1, 1) := by decide +kernel
theorem d_M_receive_23 : decode c_M_receive 23 = .ok (.invokevirtual 162, 3) := by decide +kernel
theorem d_M_receive_26 : decode c_M_receive 26 = .ok (.invokevirtual 163, 3) := by decide +kernel
theorem d_M_receive_29 : decode c_M_receive 29 = .ok (.goto 69, 3) := by decide +kernel
theorem d_M_receive_32 : decode c_M_receive 32 = .ok (.aload_n 1, 1) := by decide +kernel
theorem d_M_receive_33 : decode c_M_receive 33 = .ok (.invokevirtual 153, 3) := by decide +kernel
theorem d_M_receive_36 : decode c_M_receive 36 = .ok (.getstatic 166, 3) := by decide +kernel
theorem d_M_receive_39 : decode c_M_receive 39 = .ok (.if_acmp .ne 59, 3) := by decide +kernel
theorem d_M_receive_42 : decode c_M_receive 42 = .ok (.aload_n 0, 1) := by decide +kernel
theorem d_M_receive_43 : decode c_M_receive 43 = .ok (.aload_n 1, 1) := by decide +kernel
theorem d_M_receive_44 : decode c_M_receive 44 = .ok (.invokevirtual 162, 3) := by decide +kernel
theorem d_M_receive_47 : decode c_M_receive 47 = .ok (.invokevirtual 169, 3) := by decide +kernel
theorem d_M_receive_50 : decode c_M_receive 50 = .ok (.ifCond .eq 48, 3) := by decide +kernel
theorem d_M_receive_53 : decode c_M_receive 53 = .ok (.aload_n 1, 1) := by decide +kernel
theorem d_M_receive_54 : decode c_M_receive 54 = .ok (.invokevirtual 172, 3) := by decide +kernel
theorem d_M_receive_57 : decode c_M_receive 57 = .ok (.ifCond .ne 10, 3) := by decide +kernel
theorem d_M_receive_60 : decode c_M_receive 60 = .ok (.aload_n 0, 1) := by decide +kernel
theorem d_M_receive_61 : decode c_M_receive 61 = .ok (.invokevirtual 175, 3) := by decide +kernel
theorem d_M_receive_64 : decode c_M_receive 64 = .ok (.goto 27, 3) := by decide +kernel
theorem d_M_receive_67 : decode c_M_receive 67 = .ok (.aload_n 0, 1) := by decide +kernel
theorem d_M_receive_68 : decode c_M_receive 68 = .ok (.getfield 14, 3) := by decide +kernel
theorem d_M_receive_71 : decode c_M_receive 71 = .ok (.new 94, 3) := by decide +kernel
theorem d_M_receive_74 : decode c_M_receive 74 = .ok (.dup, 1) := by decide +kernel
theorem d_M_receive_75 : decode c_M_receive 75 = .ok (.iconst 5, 1) := by decide +kernel
theorem d_M_receive_76 : decode c_M_receive 76 = .ok (.aload_n 0, 1) := by decide +kernel
theorem d_M_receive_77 : decode c_M_receive 77 = .ok (.getfield 41, 3) := by decide +kernel
theorem d_M_receive_80 : decode c_M_receive 80 = .ok (.aload_n 0, 1) := by decide +kernel
theorem d_M_receive_81 : decode c_M_receive 81 = .ok (.getfield 96, 3) := by decide +kernel
theorem d_M_receive_84 : decode c_M_receive 84 = .ok (.iconst 0, 1) := by decide +kernel
theorem d_M_receive_85 : decode c_M_receive 85 = .ok (.invokespecial 178, 3) := by decide +kernel
theorem d_M_receive_88 : decode c_M_receive 88 = .ok (.invokevirtual 102, 3) := by decide +kernel
theorem d_M_receive_91 : decode c_M_receive 91 = .ok (.aload_n 0, 1) := by decide +kernel
theorem d_M_receive_92 : decode c_M_receive 92 = .ok (.getstatic 25, 3) := by decide +kernel
theorem d_M_receive_95 : decode c_M_receive 95 = .ok (.putfield 31, 3) := by decide +kernel
theorem d_M_receive_98 : decode c_M_receive 98 = .ok (.return_, 1) := by decide +kernel
def m_M_receive : XM := ("CashLink$Machine", c_M_receive, 2, none, "receive", [], 11, 248)
def b_M_receive : XB := [(0, X_aload 0 1),
  (1, X_get 3 3),
  (4, X_invV 4 Y_J_isOn 0 []),
  (7, X_if (fun x => ¬ x = 0) 11),
  (10, X_vret),
  (11, X_aload 1 1),
  (12, X_invV 7 Y_G_type 0 []),
  (15, X_push (xv_r 50 3) 3),
  (18, X_acmp (fun q => ¬ q) 32),
  (21, X_aload 0 1),
  (22, X_aload 1 1),
  (23, X_invV 7 Y_G_trace 0 []),
  (26, X_invV 3 Y_M_endVoid 1 []),
  (29, X_goto 98),
  (32, X_aload 1 1),
  (33, X_invV 7 Y_G_type 0 []),
  (36, X_push (xv_r 50 1) 3),
  (39, X_acmp (fun q => ¬ q) 98),
  (42, X_aload 0 1),
  (43, X_aload 1 1),
  (44, X_invV 7 Y_G_trace 0 []),
  (47, X_invV 3 Y_M_isAwaited 1 []),
  (50, X_if (fun x => x = 0) 98),
  (53, X_aload 1 1),
  (54, X_invV 7 Y_G_answer 0 []),
  (57, X_if (fun x => ¬ x = 0) 67),
  (60, X_aload 0 1),
  (61, X_invV 3 Y_M_payOut 0 []),
  (64, X_goto 91),
  (67, X_aload 0 1),
  (68, X_get 3 3),
  (71, X_new 6 6 xD6),
  (74, X_dup),
  (75, X_push (xv_i 5) 1),
  (76, X_aload 0 1),
  (77, X_get 3 0),
  (80, X_aload 0 1),
  (81, X_get 3 8),
  (84, X_push (xv_i 0) 1),
  (85, X_invI Y_E_init_2 4 []),
  (88, X_invV 4 Y_J_write 1 []),
  (91, X_aload 0 1),
  (92, X_push (xv_r 49 0) 3),
  (95, X_put x_tR 3 5),
  (98, X_vret)]
set_option maxRecDepth 100000 in
theorem k_M_receive : x_bok m_M_receive b_M_receive := by
  unfold b_M_receive
  refine x_bok.cons (xs_aload_n d_M_receive_0 rfl) ?_
  refine x_bok.cons (xs_get d_M_receive_1 xc3 xw3 (by decide) q1_168 (Or.inl rfl)) ?_
  refine x_bok.cons (xs_invV d_M_receive_4 xc4 sn_J_isOn is_J_isOn ⟨q2_67, q2_68, q2_69, q1_7⟩ (by decide) (by decide) rfl) ?_
  refine x_bok.cons (xs_if_ne d_M_receive_7 (by decide)) ?_
  refine x_bok.cons (xs_vret d_M_receive_10 rfl) ?_
  refine x_bok.cons (xs_aload_n d_M_receive_11 rfl) ?_
  refine x_bok.cons (xs_invV d_M_receive_12 xc7 sn_G_type is_G_type ⟨q4_51, q3_184, q3_185, q1_27⟩ (by decide) (by decide) rfl) ?_
  refine x_bok.cons (xs_gets d_M_receive_15 (List.mem_of_getElem? (i := 7) rfl) q4_52 (Or.inl rfl)) ?_
  refine x_bok.cons (xs_acmp_ne d_M_receive_18 (by decide)) ?_
  refine x_bok.cons (xs_aload_n d_M_receive_21 rfl) ?_
  refine x_bok.cons (xs_aload_n d_M_receive_22 rfl) ?_
  refine x_bok.cons (xs_invV d_M_receive_23 xc7 sn_G_trace is_G_trace ⟨q4_53, q3_207, q3_208, q1_27⟩ (by decide) (by decide) rfl) ?_
  refine x_bok.cons (xs_invV d_M_receive_26 xc3 sn_M_endVoid is_M_endVoid ⟨q4_54, q4_56, (x_sel (x_p1 (List.mem_of_getElem? (i := 15) rfl))), q1_8⟩ (by decide) (by decide) rfl) ?_
  refine x_bok.cons (xs_goto d_M_receive_29 (by decide)) ?_
  refine x_bok.cons (xs_aload_n d_M_receive_32 rfl) ?_
  refine x_bok.cons (xs_invV d_M_receive_33 xc7 sn_G_type is_G_type ⟨q4_51, q3_184, q3_185, q1_27⟩ (by decide) (by decide) rfl) ?_
  refine x_bok.cons (xs_gets d_M_receive_36 (List.mem_of_getElem? (i := 5) rfl) q4_75 (Or.inl rfl)) ?_
  refine x_bok.cons (xs_acmp_ne d_M_receive_39 (by decide)) ?_
  refine x_bok.cons (xs_aload_n d_M_receive_42 rfl) ?_
  refine x_bok.cons (xs_aload_n d_M_receive_43 rfl) ?_
  refine x_bok.cons (xs_invV d_M_receive_44 xc7 sn_G_trace is_G_trace ⟨q4_53, q3_207, q3_208, q1_27⟩ (by decide) (by decide) rfl) ?_
  refine x_bok.cons (xs_invV d_M_receive_47 xc3 sn_M_isAwaited is_M_isAwaited ⟨q4_76, q4_78, (x_sel (x_p2 (List.mem_of_getElem? (i := 3) rfl))), q1_8⟩ (by decide) (by decide) rfl) ?_
  refine x_bok.cons (xs_if_eq d_M_receive_50 (by decide)) ?_
  refine x_bok.cons (xs_aload_n d_M_receive_53 rfl) ?_
  refine x_bok.cons (xs_invV d_M_receive_54 xc7 sn_G_answer is_G_answer ⟨q4_80, q4_81, q4_82, q1_27⟩ (by decide) (by decide) rfl) ?_
  refine x_bok.cons (xs_if_ne d_M_receive_57 (by decide)) ?_
  refine x_bok.cons (xs_aload_n d_M_receive_60 rfl) ?_
  refine x_bok.cons (xs_invV d_M_receive_61 xc3 sn_M_payOut is_M_payOut ⟨q4_84, q4_86, (x_sel (x_p2 (List.mem_of_getElem? (i := 4) rfl))), q1_8⟩ (by decide) (by decide) rfl) ?_
  refine x_bok.cons (xs_goto d_M_receive_64 (by decide)) ?_
  refine x_bok.cons (xs_aload_n d_M_receive_67 rfl) ?_
  refine x_bok.cons (xs_get d_M_receive_68 xc3 xw3 (by decide) q1_168 (Or.inl rfl)) ?_
  refine x_bok.cons (xs_new d_M_receive_71 xc6 xw6 xt6 q2_150 q2_151 q1_21 xd6 rfl) ?_
  refine x_bok.cons (xs_dup d_M_receive_74) ?_
  refine x_bok.cons (xs_iconst d_M_receive_75 (by decide)) ?_
  refine x_bok.cons (xs_aload_n d_M_receive_76 rfl) ?_
  refine x_bok.cons (xs_get d_M_receive_77 xc3 xw3 (by decide) q1_165 (Or.inl rfl)) ?_
  refine x_bok.cons (xs_aload_n d_M_receive_80 rfl) ?_
  refine x_bok.cons (xs_get d_M_receive_81 xc3 xw3 (by decide) q1_175 (Or.inl rfl)) ?_
  refine x_bok.cons (xs_iconst d_M_receive_84 (by decide)) ?_
  refine x_bok.cons (xs_invI d_M_receive_85 sn_E_init_2 is_E_init_2 ⟨q3_71, q3_72, q3_73, q1_21⟩ (by decide) rfl (by decide) rfl) ?_
  refine x_bok.cons (xs_invV d_M_receive_88 xc4 sn_J_write is_J_write ⟨q2_178, q2_179, q2_180, q1_7⟩ (by decide) (by decide) rfl) ?_
  refine x_bok.cons (xs_aload_n d_M_receive_91 rfl) ?_
  refine x_bok.cons (xs_gets d_M_receive_92 (List.mem_of_getElem? (i := 0) rfl) q1_161 (Or.inl rfl)) ?_
  refine x_bok.cons (xs_put d_M_receive_95 xc3 xw3 xt3 xn3 (by decide) q1_172 (Or.inl rfl) rfl rfl x_fitO) ?_
  refine x_bok.cons (xs_vret d_M_receive_98 rfl) ?_
  exact x_bok.nil
set_option maxRecDepth 100000 in
theorem mn_M_receive : x_bmn b_M_receive := by
  unfold b_M_receive
  refine x_bmn.cons (xm_aload) ?_
  refine x_bmn.cons (xm_get) ?_
  refine x_bmn.cons (xm_invV ym_J_isOn) ?_
  refine x_bmn.cons (xm_if) ?_
  refine x_bmn.cons (xm_vret) ?_
  refine x_bmn.cons (xm_aload) ?_
  refine x_bmn.cons (xm_invV ym_G_type) ?_
  refine x_bmn.cons (xm_push) ?_
  refine x_bmn.cons (xm_acmp) ?_
  refine x_bmn.cons (xm_aload) ?_
  refine x_bmn.cons (xm_aload) ?_
  refine x_bmn.cons (xm_invV ym_G_trace) ?_
  refine x_bmn.cons (xm_invV ym_M_endVoid) ?_
  refine x_bmn.cons (xm_goto) ?_
  refine x_bmn.cons (xm_aload) ?_
  refine x_bmn.cons (xm_invV ym_G_type) ?_
  refine x_bmn.cons (xm_push) ?_
  refine x_bmn.cons (xm_acmp) ?_
  refine x_bmn.cons (xm_aload) ?_
  refine x_bmn.cons (xm_aload) ?_
  refine x_bmn.cons (xm_invV ym_G_trace) ?_
  refine x_bmn.cons (xm_invV ym_M_isAwaited) ?_
  refine x_bmn.cons (xm_if) ?_
  refine x_bmn.cons (xm_aload) ?_
  refine x_bmn.cons (xm_invV ym_G_answer) ?_
  refine x_bmn.cons (xm_if) ?_
  refine x_bmn.cons (xm_aload) ?_
  refine x_bmn.cons (xm_invV ym_M_payOut) ?_
  refine x_bmn.cons (xm_goto) ?_
  refine x_bmn.cons (xm_aload) ?_
  refine x_bmn.cons (xm_get) ?_
  refine x_bmn.cons (xm_new) ?_
  refine x_bmn.cons (xm_dup) ?_
  refine x_bmn.cons (xm_push) ?_
  refine x_bmn.cons (xm_aload) ?_
  refine x_bmn.cons (xm_get) ?_
  refine x_bmn.cons (xm_aload) ?_
  refine x_bmn.cons (xm_get) ?_
  refine x_bmn.cons (xm_push) ?_
  refine x_bmn.cons (xm_invI ym_E_init_2) ?_
  refine x_bmn.cons (xm_invV ym_J_write) ?_
  refine x_bmn.cons (xm_aload) ?_
  refine x_bmn.cons (xm_push) ?_
  refine x_bmn.cons (xm_put) ?_
  refine x_bmn.cons (xm_vret) ?_
  exact x_bmn.nil
theorem is_M_receive : x_Is y_M_receive m_M_receive := x_is_code q4_50
def Y_M_receive : XMeth := x_do 2 b_M_receive
theorem sn_M_receive : x_Snd y_M_receive m_M_receive Y_M_receive := x_snd_of (by decide) rfl rfl is_M_receive k_M_receive
theorem ym_M_receive : x_Ymn Y_M_receive := x_ymn_of mn_M_receive
/- CashLink.deliver(I)I -/
abbrev c_C_deliver : ByteArray := prog_1_method_8_code
def y_C_deliver : MethodName := ⟨"CashLink", "deliver", "(I)I"⟩
theorem d_C_deliver_0 : decode c_C_deliver 0 = .ok (.aload_n 0, 1) := by decide +kernel
theorem d_C_deliver_1 : decode c_C_deliver 1 = .ok (.iload_n 1, 1) := by decide +kernel
theorem d_C_deliver_2 : decode c_C_deliver 2 = .ok (.invokevirtual 71, 3) := by decide +kernel
theorem d_C_deliver_5 : decode c_C_deliver 5 = .ok (.astore_n 2, 1) := by decide +kernel
theorem d_C_deliver_6 : decode c_C_deliver 6 = .ok (.aload_n 0, 1) := by decide +kernel
theorem d_C_deliver_7 : decode c_C_deliver 7 = .ok (.getfield 18, 3) := by decide +kernel
theorem d_C_deliver_10 : decode c_C_deliver 10 = .ok (.invokevirtual 75, 3) := by decide +kernel
theorem d_C_deliver_13 : decode c_C_deliver 13 = .ok (.istore_n 3, 1) := by decide +kernel
theorem d_C_deliver_14 : decode c_C_deliver 14 = .ok (.aload_n 2, 1) := by decide +kernel
theorem d_C_deliver_15 : decode c_C_deliver 15 = .ok (.invokevirtual 78, 3) := by decide +kernel
theorem d_C_deliver_18 : decode c_C_deliver 18 = .ok (.getfield 84, 3) := by decide +kernel
theorem d_C_deliver_21 : decode c_C_deliver 21 = .ok (.ifCond .eq 14, 3) := by decide +kernel
theorem d_C_deliver_24 : decode c_C_deliver 24 = .ok (.aload_n 0, 1) := by decide +kernel
theorem d_C_deliver_25 : decode c_C_deliver 25 = .ok (.getfield 31, 3) := by decide +kernel
theorem d_C_deliver_28 : decode c_C_deliver 28 = .ok (.aload_n 2, 1) := by decide +kernel
theorem d_C_deliver_29 : decode c_C_deliver 29 = .ok (.invokevirtual 90, 3) := by decide +kernel
theorem d_C_deliver_32 : decode c_C_deliver 32 = .ok (.goto 16, 3) := by decide +kernel
theorem d_C_deliver_35 : decode c_C_deliver 35 = .ok (.aload_n 0, 1) := by decide +kernel
theorem d_C_deliver_36 : decode c_C_deliver 36 = .ok (.getfield 11, 3) := by decide +kernel
theorem d_C_deliver_39 : decode c_C_deliver 39 = .ok (.aload_n 2, 1) := by decide +kernel
theorem d_C_deliver_40 : decode c_C_deliver 40 = .ok (.invokevirtual 94, 3) := by decide +kernel
theorem d_C_deliver_43 : decode c_C_deliver 43 = .ok (.aaload, 1) := by decide +kernel
theorem d_C_deliver_44 : decode c_C_deliver 44 = .ok (.aload_n 2, 1) := by decide +kernel
theorem d_C_deliver_45 : decode c_C_deliver 45 = .ok (.invokevirtual 97, 3) := by decide +kernel
theorem d_C_deliver_48 : decode c_C_deliver 48 = .ok (.aload_n 0, 1) := by decide +kernel
theorem d_C_deliver_49 : decode c_C_deliver 49 = .ok (.getfield 18, 3) := by decide +kernel
theorem d_C_deliver_52 : decode c_C_deliver 52 = .ok (.invokevirtual 75, 3) := by decide +kernel
theorem d_C_deliver_55 : decode c_C_deliver 55 = .ok (.iload_n 3, 1) := by decide +kernel
theorem d_C_deliver_56 : decode c_C_deliver 56 = .ok (.isub, 1) := by decide +kernel
theorem d_C_deliver_57 : decode c_C_deliver 57 = .ok (.ireturn, 1) := by decide +kernel
def m_C_deliver : XM := ("CashLink", c_C_deliver, 4, (some .int), "deliver", [], 12, 269)
def b_C_deliver : XB := [(0, X_aload 0 1),
  (1, X_iload 1 1),
  (2, X_invV 0 Y_C_messageAt 1 []),
  (5, X_astore 2 1),
  (6, X_aload 0 1),
  (7, X_get 0 0),
  (10, X_invV 1 Y_N_size 0 []),
  (13, X_istore 3 1),
  (14, X_aload 2 1),
  (15, X_invV 7 Y_G_type 0 []),
  (18, X_getE 21 1),
  (21, X_if (fun x => x = 0) 35),
  (24, X_aload 0 1),
  (25, X_get 0 1),
  (28, X_aload 2 1),
  (29, X_invV 2 Y_B_receive 1 []),
  (32, X_goto 48),
  (35, X_aload 0 1),
  (36, X_get 0 2),
  (39, X_aload 2 1),
  (40, X_invV 7 Y_G_machine 0 []),
  (43, X_aald 4),
  (44, X_aload 2 1),
  (45, X_invV 3 Y_M_receive 1 []),
  (48, X_aload 0 1),
  (49, X_get 0 0),
  (52, X_invV 1 Y_N_size 0 []),
  (55, X_iload 3 1),
  (56, X_bin (fun x y => x - y)),
  (57, X_iret)]
set_option maxRecDepth 100000 in
theorem k_C_deliver : x_bok m_C_deliver b_C_deliver := by
  unfold b_C_deliver
  refine x_bok.cons (xs_aload_n d_C_deliver_0 rfl) ?_
  refine x_bok.cons (xs_iload_n d_C_deliver_1 rfl) ?_
  refine x_bok.cons (xs_invV d_C_deliver_2 xc0 sn_C_messageAt is_C_messageAt ⟨q3_154, q3_156, (x_sel (x_p1 (List.mem_of_getElem? (i := 6) rfl))), q1_1⟩ (by decide) (by decide) rfl) ?_
  refine x_bok.cons (xs_astore_n d_C_deliver_5 rfl (by decide)) ?_
  refine x_bok.cons (xs_aload_n d_C_deliver_6 rfl) ?_
  refine x_bok.cons (xs_get d_C_deliver_7 xc0 xw0 (by decide) q1_201 (Or.inl rfl)) ?_
  refine x_bok.cons (xs_invV d_C_deliver_10 xc1 sn_N_size is_N_size ⟨q3_158, q3_159, q3_160, q1_2⟩ (by decide) (by decide) rfl) ?_
  refine x_bok.cons (xs_istore_n d_C_deliver_13 rfl (by decide)) ?_
  refine x_bok.cons (xs_aload_n d_C_deliver_14 rfl) ?_
  refine x_bok.cons (xs_invV d_C_deliver_15 xc7 sn_G_type is_G_type ⟨q3_183, q3_184, q3_185, q1_27⟩ (by decide) (by decide) rfl) ?_
  refine x_bok.cons (xs_getE d_C_deliver_18 rfl q7_21 (Or.inl rfl)) ?_
  refine x_bok.cons (xs_if_eq d_C_deliver_21 (by decide)) ?_
  refine x_bok.cons (xs_aload_n d_C_deliver_24 rfl) ?_
  refine x_bok.cons (xs_get d_C_deliver_25 xc0 xw0 (by decide) q1_202 (Or.inl rfl)) ?_
  refine x_bok.cons (xs_aload_n d_C_deliver_28 rfl) ?_
  refine x_bok.cons (xs_invV d_C_deliver_29 xc2 sn_B_receive is_B_receive ⟨q3_187, q3_188, q3_189, q1_6⟩ (by decide) (by decide) rfl) ?_
  refine x_bok.cons (xs_goto d_C_deliver_32 (by decide)) ?_
  refine x_bok.cons (xs_aload_n d_C_deliver_35 rfl) ?_
  refine x_bok.cons (xs_get d_C_deliver_36 xc0 xw0 (by decide) q1_203 (Or.inl rfl)) ?_
  refine x_bok.cons (xs_aload_n d_C_deliver_39 rfl) ?_
  refine x_bok.cons (xs_invV d_C_deliver_40 xc7 sn_G_machine is_G_machine ⟨q4_46, q3_203, q3_204, q1_27⟩ (by decide) (by decide) rfl) ?_
  refine x_bok.cons (xs_aald d_C_deliver_43 rfl) ?_
  refine x_bok.cons (xs_aload_n d_C_deliver_44 rfl) ?_
  refine x_bok.cons (xs_invV d_C_deliver_45 xc3 sn_M_receive is_M_receive ⟨q4_47, q4_48, q4_49, q1_8⟩ (by decide) (by decide) rfl) ?_
  refine x_bok.cons (xs_aload_n d_C_deliver_48 rfl) ?_
  refine x_bok.cons (xs_get d_C_deliver_49 xc0 xw0 (by decide) q1_201 (Or.inl rfl)) ?_
  refine x_bok.cons (xs_invV d_C_deliver_52 xc1 sn_N_size is_N_size ⟨q3_158, q3_159, q3_160, q1_2⟩ (by decide) (by decide) rfl) ?_
  refine x_bok.cons (xs_iload_n d_C_deliver_55 rfl) ?_
  refine x_bok.cons (xs_isub d_C_deliver_56) ?_
  refine x_bok.cons (xs_iret d_C_deliver_57 rfl) ?_
  exact x_bok.nil
set_option maxRecDepth 100000 in
theorem mn_C_deliver : x_bmn b_C_deliver := by
  unfold b_C_deliver
  refine x_bmn.cons (xm_aload) ?_
  refine x_bmn.cons (xm_iload) ?_
  refine x_bmn.cons (xm_invV ym_C_messageAt) ?_
  refine x_bmn.cons (xm_astore) ?_
  refine x_bmn.cons (xm_aload) ?_
  refine x_bmn.cons (xm_get) ?_
  refine x_bmn.cons (xm_invV ym_N_size) ?_
  refine x_bmn.cons (xm_istore) ?_
  refine x_bmn.cons (xm_aload) ?_
  refine x_bmn.cons (xm_invV ym_G_type) ?_
  refine x_bmn.cons (xm_getE) ?_
  refine x_bmn.cons (xm_if) ?_
  refine x_bmn.cons (xm_aload) ?_
  refine x_bmn.cons (xm_get) ?_
  refine x_bmn.cons (xm_aload) ?_
  refine x_bmn.cons (xm_invV ym_B_receive) ?_
  refine x_bmn.cons (xm_goto) ?_
  refine x_bmn.cons (xm_aload) ?_
  refine x_bmn.cons (xm_get) ?_
  refine x_bmn.cons (xm_aload) ?_
  refine x_bmn.cons (xm_invV ym_G_machine) ?_
  refine x_bmn.cons (xm_aald) ?_
  refine x_bmn.cons (xm_aload) ?_
  refine x_bmn.cons (xm_invV ym_M_receive) ?_
  refine x_bmn.cons (xm_aload) ?_
  refine x_bmn.cons (xm_get) ?_
  refine x_bmn.cons (xm_invV ym_N_size) ?_
  refine x_bmn.cons (xm_iload) ?_
  refine x_bmn.cons (xm_bin) ?_
  refine x_bmn.cons (xm_iret) ?_
  exact x_bmn.nil
theorem is_C_deliver : x_Is y_C_deliver m_C_deliver := x_is_code q3_153
def Y_C_deliver : XMeth := x_do 4 b_C_deliver
theorem sn_C_deliver : x_Snd y_C_deliver m_C_deliver Y_C_deliver := x_snd_of (by decide) rfl rfl is_C_deliver k_C_deliver
theorem ym_C_deliver : x_Ymn Y_C_deliver := x_ymn_of mn_C_deliver
/- CashLinkLaw.deliver(LCashLink;I[J)I -/
abbrev c_L_deliver : ByteArray := method_9_code
def y_L_deliver : MethodName := ⟨"CashLinkLaw", "deliver", "(LCashLink;I[J)I"⟩
theorem d_L_deliver_0 : decode c_L_deliver 0 = .ok (.aload_n 2, 1) := by decide +kernel
theorem d_L_deliver_1 : decode c_L_deliver 1 = .ok (.iconst 0, 1) := by decide +kernel
theorem d_L_deliver_2 : decode c_L_deliver 2 = .ok (.aload_n 0, 1) := by decide +kernel
theorem d_L_deliver_3 : decode c_L_deliver 3 = .ok (.iload_n 1, 1) := by decide +kernel
theorem d_L_deliver_4 : decode c_L_deliver 4 = .ok (.invokevirtual 40, 3) := by decide +kernel
theorem d_L_deliver_7 : decode c_L_deliver 7 = .ok (.i2l, 1) := by decide +kernel
theorem d_L_deliver_8 : decode c_L_deliver 8 = .ok (.lastore, 1) := by decide +kernel
theorem d_L_deliver_9 : decode c_L_deliver 9 = .ok (.goto 9, 3) := by decide +kernel
theorem d_L_deliver_12 : decode c_L_deliver 12 = .ok (.astore_n 3, 1) := by decide +kernel
theorem d_L_deliver_13 : decode c_L_deliver 13 = .ok (.iconst 1, 1) := by decide +kernel
theorem d_L_deliver_14 : decode c_L_deliver 14 = .ok (.ireturn, 1) := by decide +kernel
theorem d_L_deliver_15 : decode c_L_deliver 15 = .ok (.astore_n 3, 1) := by decide +kernel
theorem d_L_deliver_16 : decode c_L_deliver 16 = .ok (.iconst 2, 1) := by decide +kernel
theorem d_L_deliver_17 : decode c_L_deliver 17 = .ok (.ireturn, 1) := by decide +kernel
theorem d_L_deliver_18 : decode c_L_deliver 18 = .ok (.iconst 0, 1) := by decide +kernel
theorem d_L_deliver_19 : decode c_L_deliver 19 = .ok (.ireturn, 1) := by decide +kernel
def m_L_deliver : XM := ("CashLinkLaw", c_L_deliver, 4, (some .int), "deliver", [(0, 9, 12, 43), (0, 9, 15, 27)], 13, 292)
theorem h_L_deliver_4 : x_hok m_L_deliver 4 [(15, 12), (14, 15)] := by
  intro ci h hc
  by_cases e0 : ci = 15
  · subst e0
    have hh : h = 12 := (Option.some.inj (hc.symm.trans (by rfl : x_catch [(15, 12), (14, 15)] 15 = some 12)))
    subst hh
    refine ⟨"java/lang/IndexOutOfBoundsException", xT15, 0, [], ⟨0, 9, 12, 43⟩, [⟨0, 9, 15, 27⟩], rfl, rfl, rfl, rfl, by decide, q3_149, ?_⟩
    intro z hz
    cases hz
  by_cases e1 : ci = 14
  · subst e1
    have hh : h = 15 := (Option.some.inj (hc.symm.trans (by rfl : x_catch [(15, 12), (14, 15)] 14 = some 15)))
    subst hh
    refine ⟨"java/lang/ArithmeticException", xT14, 0, [⟨0, 9, 12, 43⟩], ⟨0, 9, 15, 27⟩, [], rfl, rfl, rfl, rfl, by decide, q2_109, ?_⟩
    intro z hz
    simp only [List.mem_cons, List.not_mem_nil, or_false] at hz
    rcases hz with rfl
    · exact Or.inr ⟨by decide, "java/lang/IndexOutOfBoundsException", q3_149, x_inN 19 rfl⟩
  exfalso
  simp only [x_catch] at hc
  rw [if_neg (fun q => e0 q.symm)] at hc
  rw [if_neg (fun q => e1 q.symm)] at hc
  cases hc
def b_L_deliver : XB := [(0, X_aload 2 1),
  (1, X_push (xv_i 0) 1),
  (2, X_aload 0 1),
  (3, X_iload 1 1),
  (4, X_invV 0 Y_C_deliver 1 [(15, 12), (14, 15)]),
  (7, X_i2l),
  (8, X_last 1),
  (9, X_goto 18),
  (12, X_astore 3 1),
  (13, X_push (xv_i 1) 1),
  (14, X_iret),
  (15, X_astore 3 1),
  (16, X_push (xv_i 2) 1),
  (17, X_iret),
  (18, X_push (xv_i 0) 1),
  (19, X_iret)]
set_option maxRecDepth 100000 in
theorem k_L_deliver : x_bok m_L_deliver b_L_deliver := by
  unfold b_L_deliver
  refine x_bok.cons (xs_aload_n d_L_deliver_0 rfl) ?_
  refine x_bok.cons (xs_iconst d_L_deliver_1 (by decide)) ?_
  refine x_bok.cons (xs_aload_n d_L_deliver_2 rfl) ?_
  refine x_bok.cons (xs_iload_n d_L_deliver_3 rfl) ?_
  refine x_bok.cons (xs_invV d_L_deliver_4 xc0 sn_C_deliver is_C_deliver ⟨q3_150, q3_151, q3_152, q1_1⟩ (by decide) (by decide) h_L_deliver_4) ?_
  refine x_bok.cons (xs_i2l d_L_deliver_7) ?_
  refine x_bok.cons (xs_last d_L_deliver_8 rfl) ?_
  refine x_bok.cons (xs_goto d_L_deliver_9 (by decide)) ?_
  refine x_bok.cons (xs_astore_n d_L_deliver_12 rfl (by decide)) ?_
  refine x_bok.cons (xs_iconst d_L_deliver_13 (by decide)) ?_
  refine x_bok.cons (xs_iret d_L_deliver_14 rfl) ?_
  refine x_bok.cons (xs_astore_n d_L_deliver_15 rfl (by decide)) ?_
  refine x_bok.cons (xs_iconst d_L_deliver_16 (by decide)) ?_
  refine x_bok.cons (xs_iret d_L_deliver_17 rfl) ?_
  refine x_bok.cons (xs_iconst d_L_deliver_18 (by decide)) ?_
  refine x_bok.cons (xs_iret d_L_deliver_19 rfl) ?_
  exact x_bok.nil
set_option maxRecDepth 100000 in
theorem mn_L_deliver : x_bmn b_L_deliver := by
  unfold b_L_deliver
  refine x_bmn.cons (xm_aload) ?_
  refine x_bmn.cons (xm_push) ?_
  refine x_bmn.cons (xm_aload) ?_
  refine x_bmn.cons (xm_iload) ?_
  refine x_bmn.cons (xm_invV ym_C_deliver) ?_
  refine x_bmn.cons (xm_i2l) ?_
  refine x_bmn.cons (xm_last) ?_
  refine x_bmn.cons (xm_goto) ?_
  refine x_bmn.cons (xm_astore) ?_
  refine x_bmn.cons (xm_push) ?_
  refine x_bmn.cons (xm_iret) ?_
  refine x_bmn.cons (xm_astore) ?_
  refine x_bmn.cons (xm_push) ?_
  refine x_bmn.cons (xm_iret) ?_
  refine x_bmn.cons (xm_push) ?_
  refine x_bmn.cons (xm_iret) ?_
  exact x_bmn.nil
theorem is_L_deliver : x_Is y_L_deliver m_L_deliver := x_is_with q3_148
def Y_L_deliver : XMeth := x_do 4 b_L_deliver
theorem sn_L_deliver : x_Snd y_L_deliver m_L_deliver Y_L_deliver := x_snd_of (by decide) rfl rfl is_L_deliver k_L_deliver
theorem ym_L_deliver : x_Ymn Y_L_deliver := x_ymn_of mn_L_deliver
/- CashLink.jam(II)V -/
abbrev c_C_jam : ByteArray := prog_1_method_9_code
def y_C_jam : MethodName := ⟨"CashLink", "jam", "(II)V"⟩
theorem d_C_jam_0 : decode c_C_jam 0 = .ok (.aload_n 0, 1) := by decide +kernel
theorem d_C_jam_1 : decode c_C_jam 1 = .ok (.iload_n 1, 1) := by decide +kernel
theorem d_C_jam_2 : decode c_C_jam 2 = .ok (.invokevirtual 38, 3) := by decide +kernel
theorem d_C_jam_5 : decode c_C_jam 5 = .ok (.astore_n 3, 1) := by decide +kernel
theorem d_C_jam_6 : decode c_C_jam 6 = .ok (.iload_n 2, 1) := by decide +kernel
theorem d_C_jam_7 : decode c_C_jam 7 = .ok (.ifCond .lt 13, 3) := by decide +kernel
theorem d_C_jam_10 : decode c_C_jam 10 = .ok (.iload_n 2, 1) := by decide +kernel
theorem d_C_jam_11 : decode c_C_jam 11 = .ok (.bipush 41, 2) := by decide +kernel
theorem d_C_jam_13 : decode c_C_jam 13 = .ok (.if_icmp .gt 7, 3) := by decide +kernel
theorem d_C_jam_16 : decode c_C_jam 16 = .ok (.iconst 1, 1) := by decide +kernel
theorem d_C_jam_17 : decode c_C_jam 17 = .ok (.goto 4, 3) := by decide +kernel
theorem d_C_jam_20 : decode c_C_jam 20 = .ok (.iconst 0, 1) := by decide +kernel
theorem d_C_jam_21 : decode c_C_jam 21 = .ok (.invokestatic 46, 3) := by decide +kernel
theorem d_C_jam_24 : decode c_C_jam 24 = .ok (.aload_n 3, 1) := by decide +kernel
theorem d_C_jam_25 : decode c_C_jam 25 = .ok (.getfield 100, 3) := by decide +kernel
theorem d_C_jam_28 : decode c_C_jam 28 = .ok (.iload_n 2, 1) := by decide +kernel
theorem d_C_jam_29 : decode c_C_jam 29 = .ok (.putfield 104, 3) := by decide +kernel
theorem d_C_jam_32 : decode c_C_jam 32 = .ok (.return_, 1) := by decide +kernel
def m_C_jam : XM := ("CashLink", c_C_jam, 4, none, "jam", [], 8, 131)
def b_C_jam : XB := [(0, X_aload 0 1),
  (1, X_iload 1 1),
  (2, X_invV 0 Y_C_machineAt 1 []),
  (5, X_astore 3 1),
  (6, X_iload 2 1),
  (7, X_if (fun x => x < 0) 20),
  (10, X_iload 2 1),
  (11, X_push (xv_i 41) 2),
  (13, X_icmp (fun x y => y < x) 20),
  (16, X_push (xv_i 1) 1),
  (17, X_goto 21),
  (20, X_push (xv_i 0) 1),
  (21, X_invS Y_C_allow 1 []),
  (24, X_aload 3 1),
  (25, X_get 3 4),
  (28, X_iload 2 1),
  (29, X_put x_tI 5 1),
  (32, X_vret)]
set_option maxRecDepth 100000 in
theorem k_C_jam : x_bok m_C_jam b_C_jam := by
  unfold b_C_jam
  refine x_bok.cons (xs_aload_n d_C_jam_0 rfl) ?_
  refine x_bok.cons (xs_iload_n d_C_jam_1 rfl) ?_
  refine x_bok.cons (xs_invV d_C_jam_2 xc0 sn_C_machineAt is_C_machineAt ⟨q1_223, q1_225, (x_sel (x_p1 (List.mem_of_getElem? (i := 0) rfl))), q1_1⟩ (by decide) (by decide) rfl) ?_
  refine x_bok.cons (xs_astore_n d_C_jam_5 rfl (by decide)) ?_
  refine x_bok.cons (xs_iload_n d_C_jam_6 rfl) ?_
  refine x_bok.cons (xs_if_lt d_C_jam_7 (by decide)) ?_
  refine x_bok.cons (xs_iload_n d_C_jam_10 rfl) ?_
  refine x_bok.cons (xs_bipush d_C_jam_11 (by decide)) ?_
  refine x_bok.cons (xs_icmp_gt d_C_jam_13 (by decide)) ?_
  refine x_bok.cons (xs_iconst d_C_jam_16 (by decide)) ?_
  refine x_bok.cons (xs_goto d_C_jam_17 (by decide)) ?_
  refine x_bok.cons (xs_iconst d_C_jam_20 (by decide)) ?_
  refine x_bok.cons (xs_invS d_C_jam_21 sn_C_allow is_C_allow ⟨q1_227, q1_228, q1_1⟩ (by decide) (by decide) rfl) ?_
  refine x_bok.cons (xs_aload_n d_C_jam_24 rfl) ?_
  refine x_bok.cons (xs_get d_C_jam_25 xc3 xw3 (by decide) q1_171 (Or.inl rfl)) ?_
  refine x_bok.cons (xs_iload_n d_C_jam_28 rfl) ?_
  refine x_bok.cons (xs_put d_C_jam_29 xc5 xw5 xt5 xn5 (by decide) q1_146 (Or.inl rfl) rfl rfl x_fitI) ?_
  refine x_bok.cons (xs_vret d_C_jam_32 rfl) ?_
  exact x_bok.nil
set_option maxRecDepth 100000 in
theorem mn_C_jam : x_bmn b_C_jam := by
  unfold b_C_jam
  refine x_bmn.cons (xm_aload) ?_
  refine x_bmn.cons (xm_iload) ?_
  refine x_bmn.cons (xm_invV ym_C_machineAt) ?_
  refine x_bmn.cons (xm_astore) ?_
  refine x_bmn.cons (xm_iload) ?_
  refine x_bmn.cons (xm_if) ?_
  refine x_bmn.cons (xm_iload) ?_
  refine x_bmn.cons (xm_push) ?_
  refine x_bmn.cons (xm_icmp) ?_
  refine x_bmn.cons (xm_push) ?_
  refine x_bmn.cons (xm_goto) ?_
  refine x_bmn.cons (xm_push) ?_
  refine x_bmn.cons (xm_invS ym_C_allow) ?_
  refine x_bmn.cons (xm_aload) ?_
  refine x_bmn.cons (xm_get) ?_
  refine x_bmn.cons (xm_iload) ?_
  refine x_bmn.cons (xm_put) ?_
  refine x_bmn.cons (xm_vret) ?_
  exact x_bmn.nil
theorem is_C_jam : x_Is y_C_jam m_C_jam := x_is_code q4_111
def Y_C_jam : XMeth := x_do 4 b_C_jam
theorem sn_C_jam : x_Snd y_C_jam m_C_jam Y_C_jam := x_snd_of (by decide) rfl rfl is_C_jam k_C_jam
theorem ym_C_jam : x_Ymn Y_C_jam := x_ymn_of mn_C_jam
/- CashLinkLaw.jam(LCashLink;II)I -/
abbrev c_L_jam : ByteArray := method_10_code
def y_L_jam : MethodName := ⟨"CashLinkLaw", "jam", "(LCashLink;II)I"⟩
theorem d_L_jam_0 : decode c_L_jam 0 = .ok (.aload_n 0, 1) := by decide +kernel
theorem d_L_jam_1 : decode c_L_jam 1 = .ok (.iload_n 1, 1) := by decide +kernel
theorem d_L_jam_2 : decode c_L_jam 2 = .ok (.iload_n 2, 1) := by decide +kernel
theorem d_L_jam_3 : decode c_L_jam 3 = .ok (.invokevirtual 45, 3) := by decide +kernel
theorem d_L_jam_6 : decode c_L_jam 6 = .ok (.goto 6, 3) := by decide +kernel
theorem d_L_jam_9 : decode c_L_jam 9 = .ok (.astore_n 3, 1) := by decide +kernel
theorem d_L_jam_10 : decode c_L_jam 10 = .ok (.iconst 1, 1) := by decide +kernel
theorem d_L_jam_11 : decode c_L_jam 11 = .ok (.ireturn, 1) := by decide +kernel
theorem d_L_jam_12 : decode c_L_jam 12 = .ok (.iconst 0, 1) := by decide +kernel
theorem d_L_jam_13 : decode c_L_jam 13 = .ok (.ireturn, 1) := by decide +kernel
def m_L_jam : XM := ("CashLinkLaw", c_L_jam, 4, (some .int), "jam", [(0, 6, 9, 13)], 9, 154)
theorem h_L_jam_3 : x_hok m_L_jam 3 [(11, 9)] := by
  intro ci h hc
  by_cases e0 : ci = 11
  · subst e0
    have hh : h = 9 := (Option.some.inj (hc.symm.trans (by rfl : x_catch [(11, 9)] 11 = some 9)))
    subst hh
    refine ⟨"java/lang/IllegalArgumentException", xT11, 0, [], ⟨0, 6, 9, 13⟩, [], rfl, rfl, rfl, rfl, by decide, q1_217, ?_⟩
    intro z hz
    cases hz
  exfalso
  simp only [x_catch] at hc
  rw [if_neg (fun q => e0 q.symm)] at hc
  cases hc
def b_L_jam : XB := [(0, X_aload 0 1),
  (1, X_iload 1 1),
  (2, X_iload 2 1),
  (3, X_invV 0 Y_C_jam 2 [(11, 9)]),
  (6, X_goto 12),
  (9, X_astore 3 1),
  (10, X_push (xv_i 1) 1),
  (11, X_iret),
  (12, X_push (xv_i 0) 1),
  (13, X_iret)]
set_option maxRecDepth 100000 in
theorem k_L_jam : x_bok m_L_jam b_L_jam := by
  unfold b_L_jam
  refine x_bok.cons (xs_aload_n d_L_jam_0 rfl) ?_
  refine x_bok.cons (xs_iload_n d_L_jam_1 rfl) ?_
  refine x_bok.cons (xs_iload_n d_L_jam_2 rfl) ?_
  refine x_bok.cons (xs_invV d_L_jam_3 xc0 sn_C_jam is_C_jam ⟨q4_108, q4_109, q4_110, q1_1⟩ (by decide) (by decide) h_L_jam_3) ?_
  refine x_bok.cons (xs_goto d_L_jam_6 (by decide)) ?_
  refine x_bok.cons (xs_astore_n d_L_jam_9 rfl (by decide)) ?_
  refine x_bok.cons (xs_iconst d_L_jam_10 (by decide)) ?_
  refine x_bok.cons (xs_iret d_L_jam_11 rfl) ?_
  refine x_bok.cons (xs_iconst d_L_jam_12 (by decide)) ?_
  refine x_bok.cons (xs_iret d_L_jam_13 rfl) ?_
  exact x_bok.nil
set_option maxRecDepth 100000 in
theorem mn_L_jam : x_bmn b_L_jam := by
  unfold b_L_jam
  refine x_bmn.cons (xm_aload) ?_
  refine x_bmn.cons (xm_iload) ?_
  refine x_bmn.cons (xm_iload) ?_
  refine x_bmn.cons (xm_invV ym_C_jam) ?_
  refine x_bmn.cons (xm_goto) ?_
  refine x_bmn.cons (xm_astore) ?_
  refine x_bmn.cons (xm_push) ?_
  refine x_bmn.cons (xm_iret) ?_
  refine x_bmn.cons (xm_push) ?_
  refine x_bmn.cons (xm_iret) ?_
  exact x_bmn.nil
theorem is_L_jam : x_Is y_L_jam m_L_jam := x_is_with q4_107
def Y_L_jam : XMeth := x_do 4 b_L_jam
theorem sn_L_jam : x_Snd y_L_jam m_L_jam Y_L_jam := x_snd_of (by decide) rfl rfl is_L_jam k_L_jam
theorem ym_L_jam : x_Ymn Y_L_jam := x_ymn_of mn_L_jam
/- CashLink.isCassette(I)Z -/
abbrev c_C_isCassette : ByteArray := prog_1_method_25_code
def y_C_isCassette : MethodName := ⟨"CashLink", "isCassette", "(I)Z"⟩
theorem d_C_isCassette_0 : decode c_C_isCassette 0 = .ok (.iload_n 0, 1) := by decide +kernel
theorem d_C_isCassette_1 : decode c_C_isCassette 1 = .ok (.ifCond .lt 12, 3) := by decide +kernel
theorem d_C_isCassette_4 : decode c_C_isCassette 4 = .ok (.iload_n 0, 1) := by decide +kernel
theorem d_C_isCassette_5 : decode c_C_isCassette 5 = .ok (.iconst 4, 1) := by decide +kernel
theorem d_C_isCassette_6 : decode c_C_isCassette 6 = .ok (.if_icmp .ge 7, 3) := by decide +kernel
theorem d_C_isCassette_9 : decode c_C_isCassette 9 = .ok (.iconst 1, 1) := by decide +kernel
theorem d_C_isCassette_10 : decode c_C_isCassette 10 = .ok (.goto 4, 3) := by decide +kernel
theorem d_C_isCassette_13 : decode c_C_isCassette 13 = .ok (.iconst 0, 1) := by decide +kernel
theorem d_C_isCassette_14 : decode c_C_isCassette 14 = .ok (.ireturn, 1) := by decide +kernel
def m_C_isCassette : XM := ("CashLink", c_C_isCassette, 1, (some .boolean), "isCassette", [], 0, 0)
def b_C_isCassette : XB := [(0, X_iload 0 1),
  (1, X_if (fun x => x < 0) 13),
  (4, X_iload 0 1),
  (5, X_push (xv_i 4) 1),
  (6, X_icmp (fun x y => y ≤ x) 13),
  (9, X_push (xv_i 1) 1),
  (10, X_goto 14),
  (13, X_push (xv_i 0) 1),
  (14, X_zret)]
set_option maxRecDepth 100000 in
theorem k_C_isCassette : x_bok m_C_isCassette b_C_isCassette := by
  unfold b_C_isCassette
  refine x_bok.cons (xs_iload_n d_C_isCassette_0 rfl) ?_
  refine x_bok.cons (xs_if_lt d_C_isCassette_1 (by decide)) ?_
  refine x_bok.cons (xs_iload_n d_C_isCassette_4 rfl) ?_
  refine x_bok.cons (xs_iconst d_C_isCassette_5 (by decide)) ?_
  refine x_bok.cons (xs_icmp_ge d_C_isCassette_6 (by decide)) ?_
  refine x_bok.cons (xs_iconst d_C_isCassette_9 (by decide)) ?_
  refine x_bok.cons (xs_goto d_C_isCassette_10 (by decide)) ?_
  refine x_bok.cons (xs_iconst d_C_isCassette_13 (by decide)) ?_
  refine x_bok.cons (xs_zret d_C_isCassette_14 rfl) ?_
  exact x_bok.nil
set_option maxRecDepth 100000 in
theorem mn_C_isCassette : x_bmn b_C_isCassette := by
  unfold b_C_isCassette
  refine x_bmn.cons (xm_iload) ?_
  refine x_bmn.cons (xm_if) ?_
  refine x_bmn.cons (xm_iload) ?_
  refine x_bmn.cons (xm_push) ?_
  refine x_bmn.cons (xm_icmp) ?_
  refine x_bmn.cons (xm_push) ?_
  refine x_bmn.cons (xm_goto) ?_
  refine x_bmn.cons (xm_push) ?_
  refine x_bmn.cons (xm_zret) ?_
  exact x_bmn.nil
theorem is_C_isCassette : x_Is y_C_isCassette m_C_isCassette := x_is_code q4_121
def Y_C_isCassette : XMeth := x_do 1 b_C_isCassette
theorem sn_C_isCassette : x_Snd y_C_isCassette m_C_isCassette Y_C_isCassette := x_snd_of (by decide) rfl rfl is_C_isCassette k_C_isCassette
theorem ym_C_isCassette : x_Ymn Y_C_isCassette := x_ymn_of mn_C_isCassette
/- CashLink$Dispenser.fill(II)I -/
abbrev c_D_fill : ByteArray := prog_3_method_2_code
def y_D_fill : MethodName := ⟨"CashLink$Dispenser", "fill", "(II)I"⟩
theorem d_D_fill_0 : decode c_D_fill 0 = .ok (.aload_n 0, 1) := by decide +kernel
theorem d_D_fill_1 : decode c_D_fill 1 = .ok (.getfield 9, 3) := by decide +kernel
theorem d_D_fill_4 : decode c_D_fill 4 = .ok (.iload_n 1, 1) := by decide +kernel
theorem d_D_fill_5 : decode c_D_fill 5 = .ok (.iaload, 1) := by decide +kernel
theorem d_D_fill_6 : decode c_D_fill 6 = .ok (.iload_n 2, 1) := by decide +kernel
theorem d_D_fill_7 : decode c_D_fill 7 = .ok (.iadd, 1) := by decide +kernel
theorem d_D_fill_8 : decode c_D_fill 8 = .ok (.sipush 500, 3) := by decide +kernel
theorem d_D_fill_11 : decode c_D_fill 11 = .ok (.if_icmp .gt 7, 3) := by decide +kernel
theorem d_D_fill_14 : decode c_D_fill 14 = .ok (.iconst 1, 1) := by decide +kernel
theorem d_D_fill_15 : decode c_D_fill 15 = .ok (.goto 4, 3) := by decide +kernel
theorem d_D_fill_18 : decode c_D_fill 18 = .ok (.iconst 0, 1) := by decide +kernel
theorem d_D_fill_19 : decode c_D_fill 19 = .ok (.invokestatic 19, 3) := by decide +kernel
theorem d_D_fill_22 : decode c_D_fill 22 = .ok (.aload_n 0, 1) := by decide +kernel
theorem d_D_fill_23 : decode c_D_fill 23 = .ok (.getfield 9, 3) := by decide +kernel
theorem d_D_fill_26 : decode c_D_fill 26 = .ok (.iload_n 1, 1) := by decide +kernel
theorem d_D_fill_27 : decode c_D_fill 27 = .ok (.dup2, 1) := by decide +kernel
theorem d_D_fill_28 : decode c_D_fill 28 = .ok (.iaload, 1) := by decide +kernel
theorem d_D_fill_29 : decode c_D_fill 29 = .ok (.iload_n 2, 1) := by decide +kernel
theorem d_D_fill_30 : decode c_D_fill 30 = .ok (.iadd, 1) := by decide +kernel
theorem d_D_fill_31 : decode c_D_fill 31 = .ok (.iastore, 1) := by decide +kernel
theorem d_D_fill_32 : decode c_D_fill 32 = .ok (.aload_n 0, 1) := by decide +kernel
theorem d_D_fill_33 : decode c_D_fill 33 = .ok (.getfield 9, 3) := by decide +kernel
theorem d_D_fill_36 : decode c_D_fill 36 = .ok (.iload_n 1, 1) := by decide +kernel
theorem d_D_fill_37 : decode c_D_fill 37 = .ok (.iaload, 1) := by decide +kernel
theorem d_D_fill_38 : decode c_D_fill 38 = .ok (.ireturn, 1) := by decide +kernel
def m_D_fill : XM := ("CashLink$Dispenser", c_D_fill, 3, (some .int), "fill", [], 7, 110)
def b_D_fill : XB := [(0, X_aload 0 1),
  (1, X_get 5 0),
  (4, X_iload 1 1),
  (5, X_ald 0),
  (6, X_iload 2 1),
  (7, X_bin (fun x y => x + y)),
  (8, X_push (xv_i 500) 3),
  (11, X_icmp (fun x y => y < x) 18),
  (14, X_push (xv_i 1) 1),
  (15, X_goto 19),
  (18, X_push (xv_i 0) 1),
  (19, X_invS Y_C_demand 1 []),
  (22, X_aload 0 1),
  (23, X_get 5 0),
  (26, X_iload 1 1),
  (27, X_dup2),
  (28, X_ald 0),
  (29, X_iload 2 1),
  (30, X_bin (fun x y => x + y)),
  (31, X_ast 0 (fun x => x)),
  (32, X_aload 0 1),
  (33, X_get 5 0),
  (36, X_iload 1 1),
  (37, X_ald 0),
  (38, X_iret)]
set_option maxRecDepth 100000 in
theorem k_D_fill : x_bok m_D_fill b_D_fill := by
  unfold b_D_fill
  refine x_bok.cons (xs_aload_n d_D_fill_0 rfl) ?_
  refine x_bok.cons (xs_get d_D_fill_1 xc5 xw5 (by decide) q1_144 (Or.inl rfl)) ?_
  refine x_bok.cons (xs_iload_n d_D_fill_4 rfl) ?_
  refine x_bok.cons (xs_iald d_D_fill_5 rfl) ?_
  refine x_bok.cons (xs_iload_n d_D_fill_6 rfl) ?_
  refine x_bok.cons (xs_iadd d_D_fill_7) ?_
  refine x_bok.cons (xs_sipush d_D_fill_8 (by decide)) ?_
  refine x_bok.cons (xs_icmp_gt d_D_fill_11 (by decide)) ?_
  refine x_bok.cons (xs_iconst d_D_fill_14 (by decide)) ?_
  refine x_bok.cons (xs_goto d_D_fill_15 (by decide)) ?_
  refine x_bok.cons (xs_iconst d_D_fill_18 (by decide)) ?_
  refine x_bok.cons (xs_invSN d_D_fill_19 sn_C_demand is_C_demand ⟨q4_126, q2_72, q1_1⟩ (by decide) (by decide) rfl) ?_
  refine x_bok.cons (xs_aload_n d_D_fill_22 rfl) ?_
  refine x_bok.cons (xs_get d_D_fill_23 xc5 xw5 (by decide) q1_144 (Or.inl rfl)) ?_
  refine x_bok.cons (xs_iload_n d_D_fill_26 rfl) ?_
  refine x_bok.cons (xs_dup2 d_D_fill_27) ?_
  refine x_bok.cons (xs_iald d_D_fill_28 rfl) ?_
  refine x_bok.cons (xs_iload_n d_D_fill_29 rfl) ?_
  refine x_bok.cons (xs_iadd d_D_fill_30) ?_
  refine x_bok.cons (xs_iast d_D_fill_31 rfl) ?_
  refine x_bok.cons (xs_aload_n d_D_fill_32 rfl) ?_
  refine x_bok.cons (xs_get d_D_fill_33 xc5 xw5 (by decide) q1_144 (Or.inl rfl)) ?_
  refine x_bok.cons (xs_iload_n d_D_fill_36 rfl) ?_
  refine x_bok.cons (xs_iald d_D_fill_37 rfl) ?_
  refine x_bok.cons (xs_iret d_D_fill_38 rfl) ?_
  exact x_bok.nil
set_option maxRecDepth 100000 in
theorem mn_D_fill : x_bmn b_D_fill := by
  unfold b_D_fill
  refine x_bmn.cons (xm_aload) ?_
  refine x_bmn.cons (xm_get) ?_
  refine x_bmn.cons (xm_iload) ?_
  refine x_bmn.cons (xm_ald) ?_
  refine x_bmn.cons (xm_iload) ?_
  refine x_bmn.cons (xm_bin) ?_
  refine x_bmn.cons (xm_push) ?_
  refine x_bmn.cons (xm_icmp) ?_
  refine x_bmn.cons (xm_push) ?_
  refine x_bmn.cons (xm_goto) ?_
  refine x_bmn.cons (xm_push) ?_
  refine x_bmn.cons (xm_invS ym_C_demand) ?_
  refine x_bmn.cons (xm_aload) ?_
  refine x_bmn.cons (xm_get) ?_
  refine x_bmn.cons (xm_iload) ?_
  refine x_bmn.cons (xm_dup2) ?_
  refine x_bmn.cons (xm_ald) ?_
  refine x_bmn.cons (xm_iload) ?_
  refine x_bmn.cons (xm_bin) ?_
  refine x_bmn.cons (xm_ast) ?_
  refine x_bmn.cons (xm_aload) ?_
  refine x_bmn.cons (xm_get) ?_
  refine x_bmn.cons (xm_iload) ?_
  refine x_bmn.cons (xm_ald) ?_
  refine x_bmn.cons (xm_iret) ?_
  exact x_bmn.nil
theorem is_D_fill : x_Is y_D_fill m_D_fill := x_is_code q4_125
def Y_D_fill : XMeth := x_do 3 b_D_fill
theorem sn_D_fill : x_Snd y_D_fill m_D_fill Y_D_fill := x_snd_of (by decide) rfl rfl is_D_fill k_D_fill
theorem ym_D_fill : x_Ymn Y_D_fill := x_ymn_of mn_D_fill
/- CashLink.load(III)I -/
abbrev c_C_load : ByteArray := prog_1_method_10_code
def y_C_load : MethodName := ⟨"CashLink", "load", "(III)I"⟩
theorem d_C_load_0 : decode c_C_load 0 = .ok (.aload_n 0, 1) := by decide +kernel
theorem d_C_load_1 : decode c_C_load 1 = .ok (.iload_n 1, 1) := by decide +kernel
theorem d_C_load_2 : decode c_C_load 2 = .ok (.invokevirtual 38, 3) := by decide +kernel
theorem d_C_load_5 : decode c_C_load 5 = .ok (.astore 4, 2) := by decide +kernel
theorem d_C_load_7 : decode c_C_load 7 = .ok (.iload_n 2, 1) := by decide +kernel
theorem d_C_load_8 : decode c_C_load 8 = .ok (.invokestatic 108, 3) := by decide +kernel
theorem d_C_load_11 : decode c_C_load 11 = .ok (.ifCond .eq 18, 3) := by decide +kernel
theorem d_C_load_14 : decode c_C_load 14 = .ok (.iload_n 3, 1) := by decide +kernel
theorem d_C_load_15 : decode c_C_load 15 = .ok (.iconst 1, 1) := by decide +kernel
theorem d_C_load_16 : decode c_C_load 16 = .ok (.if_icmp .lt 13, 3) := by decide +kernel
theorem d_C_load_19 : decode c_C_load 19 = .ok (.iload_n 3, 1) := by decide +kernel
theorem d_C_load_20 : decode c_C_load 20 = .ok (.bipush 100, 2) := by decide +kernel
theorem d_C_load_22 : decode c_C_load 22 = .ok (.if_icmp .gt 7, 3) := by decide +kernel
theorem d_C_load_25 : decode c_C_load 25 = .ok (.iconst 1, 1) := by decide +kernel
theorem d_C_load_26 : decode c_C_load 26 = .ok (.goto 4, 3) := by decide +kernel
theorem d_C_load_29 : decode c_C_load 29 = .ok (.iconst 0, 1) := by decide +kernel
theorem d_C_load_30 : decode c_C_load 30 = .ok (.invokestatic 46, 3) := by decide +kernel
theorem d_C_load_33 : decode c_C_load 33 = .ok (.aload 4, 2) := by decide +kernel
theorem d_C_load_35 : decode c_C_load 35 = .ok (.getfield 100, 3) := by decide +kernel
theorem d_C_load_38 : decode c_C_load 38 = .ok (.iload_n 2, 1) := by decide +kernel
theorem d_C_load_39 : decode c_C_load 39 = .ok (.iload_n 3, 1) := by decide +kernel
theorem d_C_load_40 : decode c_C_load 40 = .ok (.invokevirtual 111, 3) := by decide +kernel
theorem d_C_load_43 : decode c_C_load 43 = .ok (.ireturn, 1) := by decide +kernel
def m_C_load : XM := ("CashLink", c_C_load, 5, (some .int), "load", [], 8, 132)
def b_C_load : XB := [(0, X_aload 0 1),
  (1, X_iload 1 1),
  (2, X_invV 0 Y_C_machineAt 1 []),
  (5, X_astore 4 2),
  (7, X_iload 2 1),
  (8, X_invS Y_C_isCassette 1 []),
  (11, X_if (fun x => x = 0) 29),
  (14, X_iload 3 1),
  (15, X_push (xv_i 1) 1),
  (16, X_icmp (fun x y => x < y) 29),
  (19, X_iload 3 1),
  (20, X_push (xv_i 100) 2),
  (22, X_icmp (fun x y => y < x) 29),
  (25, X_push (xv_i 1) 1),
  (26, X_goto 30),
  (29, X_push (xv_i 0) 1),
  (30, X_invS Y_C_allow 1 []),
  (33, X_aload 4 2),
  (35, X_get 3 4),
  (38, X_iload 2 1),
  (39, X_iload 3 1),
  (40, X_invV 5 Y_D_fill 2 []),
  (43, X_iret)]
set_option maxRecDepth 100000 in
theorem k_C_load : x_bok m_C_load b_C_load := by
  unfold b_C_load
  refine x_bok.cons (xs_aload_n d_C_load_0 rfl) ?_
  refine x_bok.cons (xs_iload_n d_C_load_1 rfl) ?_
  refine x_bok.cons (xs_invV d_C_load_2 xc0 sn_C_machineAt is_C_machineAt ⟨q1_223, q1_225, (x_sel (x_p1 (List.mem_of_getElem? (i := 0) rfl))), q1_1⟩ (by decide) (by decide) rfl) ?_
  refine x_bok.cons (xs_astore d_C_load_5 (by decide)) ?_
  refine x_bok.cons (xs_iload_n d_C_load_7 rfl) ?_
  refine x_bok.cons (xs_invS d_C_load_8 sn_C_isCassette is_C_isCassette ⟨q4_119, q4_120, q1_1⟩ (by decide) (by decide) rfl) ?_
  refine x_bok.cons (xs_if_eq d_C_load_11 (by decide)) ?_
  refine x_bok.cons (xs_iload_n d_C_load_14 rfl) ?_
  refine x_bok.cons (xs_iconst d_C_load_15 (by decide)) ?_
  refine x_bok.cons (xs_icmp_lt d_C_load_16 (by decide)) ?_
  refine x_bok.cons (xs_iload_n d_C_load_19 rfl) ?_
  refine x_bok.cons (xs_bipush d_C_load_20 (by decide)) ?_
  refine x_bok.cons (xs_icmp_gt d_C_load_22 (by decide)) ?_
  refine x_bok.cons (xs_iconst d_C_load_25 (by decide)) ?_
  refine x_bok.cons (xs_goto d_C_load_26 (by decide)) ?_
  refine x_bok.cons (xs_iconst d_C_load_29 (by decide)) ?_
  refine x_bok.cons (xs_invS d_C_load_30 sn_C_allow is_C_allow ⟨q1_227, q1_228, q1_1⟩ (by decide) (by decide) rfl) ?_
  refine x_bok.cons (xs_aload d_C_load_33) ?_
  refine x_bok.cons (xs_get d_C_load_35 xc3 xw3 (by decide) q1_171 (Or.inl rfl)) ?_
  refine x_bok.cons (xs_iload_n d_C_load_38 rfl) ?_
  refine x_bok.cons (xs_iload_n d_C_load_39 rfl) ?_
  refine x_bok.cons (xs_invV d_C_load_40 xc5 sn_D_fill is_D_fill ⟨q4_122, q4_123, q4_124, q1_9⟩ (by decide) (by decide) rfl) ?_
  refine x_bok.cons (xs_iret d_C_load_43 rfl) ?_
  exact x_bok.nil
set_option maxRecDepth 100000 in
theorem mn_C_load : x_bmn b_C_load := by
  unfold b_C_load
  refine x_bmn.cons (xm_aload) ?_
  refine x_bmn.cons (xm_iload) ?_
  refine x_bmn.cons (xm_invV ym_C_machineAt) ?_
  refine x_bmn.cons (xm_astore) ?_
  refine x_bmn.cons (xm_iload) ?_
  refine x_bmn.cons (xm_invS ym_C_isCassette) ?_
  refine x_bmn.cons (xm_if) ?_
  refine x_bmn.cons (xm_iload) ?_
  refine x_bmn.cons (xm_push) ?_
  refine x_bmn.cons (xm_icmp) ?_
  refine x_bmn.cons (xm_iload) ?_
  refine x_bmn.cons (xm_push) ?_
  refine x_bmn.cons (xm_icmp) ?_
  refine x_bmn.cons (xm_push) ?_
  refine x_bmn.cons (xm_goto) ?_
  refine x_bmn.cons (xm_push) ?_
  refine x_bmn.cons (xm_invS ym_C_allow) ?_
  refine x_bmn.cons (xm_aload) ?_
  refine x_bmn.cons (xm_get) ?_
  refine x_bmn.cons (xm_iload) ?_
  refine x_bmn.cons (xm_iload) ?_
  refine x_bmn.cons (xm_invV ym_D_fill) ?_
  refine x_bmn.cons (xm_iret) ?_
  exact x_bmn.nil
theorem is_C_load : x_Is y_C_load m_C_load := x_is_code q4_118
def Y_C_load : XMeth := x_do 5 b_C_load
theorem sn_C_load : x_Snd y_C_load m_C_load Y_C_load := x_snd_of (by decide) rfl rfl is_C_load k_C_load
theorem ym_C_load : x_Ymn Y_C_load := x_ymn_of mn_C_load
