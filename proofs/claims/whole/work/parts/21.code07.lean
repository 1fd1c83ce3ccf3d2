/- CashLink$Bank.answerTotals(LCashLink$Message;)V -/
abbrev c_B_answerTotals : ByteArray := prog_2_method_10_code
def y_B_answerTotals : MethodName := ⟨"CashLink$Bank", "answerTotals", "(LCashLink$Message;)V"⟩
theorem d_B_answerTotals_0 : decode c_B_answerTotals 0 = .ok (.aload_n 0, 1) := by decide +kernel
theorem d_B_answerTotals_1 : decode c_B_answerTotals 1 = .ok (.aload_n 1, 1) := by decide +kernel
theorem d_B_answerTotals_2 : decode c_B_answerTotals 2 = .ok (.invokevirtual 98, 3) := by decide +kernel
theorem d_B_answerTotals_5 : decode c_B_answerTotals 5 = .ok (.aload_n 1, 1) := by decide +kernel
theorem d_B_answerTotals_6 : decode c_B_answerTotals 6 = .ok (.invokevirtual 101, 3) := by decide +kernel
theorem d_B_answerTotals_9 : decode c_B_answerTotals 9 = .ok (.invokevirtual 137, 3) := by decide +kernel
theorem d_B_answerTotals_12 : decode c_B_answerTotals 12 = .ok (.aload_n 1, 1) := by decide +kernel
theorem d_B_answerTotals_13 : decode c_B_answerTotals 13 = .ok (.invokevirtual 105, 3) := by decide +kernel
theorem d_B_answerTotals_16 : decode c_B_answerTotals 16 = .ok (.if_icmp .ne 7, 3) := by decide +kernel
theorem d_B_answerTotals_19 : decode c_B_answerTotals 19 = .ok (.iconst 1, 1) := by decide +kernel
theorem d_B_answerTotals_20 : decode c_B_answerTotals 20 = .ok (.goto 4, 3) := by decide +kernel
theorem d_B_answerTotals_23 : decode c_B_answerTotals 23 = .ok (.iconst 0, 1) := by decide +kernel
theorem d_B_answerTotals_24 : decode c_B_answerTotals 24 = .ok (.istore_n 2, 1) := by decide +kernel
theorem d_B_answerTotals_25 : decode c_B_answerTotals 25 = .ok (.aload_n 0, 1) := by decide +kernel
theorem d_B_answerTotals_26 : decode c_B_answerTotals 26 = .ok (.getstatic 141, 3) := by decide +kernel
theorem d_B_answerTotals_29 : decode c_B_answerTotals 29 = .ok (.aload_n 1, 1) := by decide +kernel
theorem d_B_answerTotals_30 : decode c_B_answerTotals 30 = .ok (.iload_n 2, 1) := by decide +kernel
theorem d_B_answerTotals_31 : decode c_B_answerTotals 31 = .ok (.ifCond .eq 7, 3) := by decide +kernel
theorem d_B_answerTotals_34 : decode c_B_answerTotals 34 = .ok (.iconst 0, 1) := by decide +kernel
theorem d_B_answerTotals_35 : decode c_B_answerTotals 35 = .ok (.goto 4, 3) := by decide +kernel
theorem d_B_answerTotals_38 : decode c_B_answerTotals 38 = .ok (.iconst 4, 1) := by decide +kernel
theorem d_B_answerTotals_39 : decode c_B_answerTotals 39 = .ok (.invokevirtual 122, 3) := by decide +kernel
theorem d_B_answerTotals_42 : decode c_B_answerTotals 42 = .ok (.istore_n 3, 1) := by decide +kernel
theorem d_B_answerTotals_43 : decode c_B_answerTotals 43 = .ok (.iload_n 3, 1) := by decide +kernel
theorem d_B_answerTotals_44 : decode c_B_answerTotals 44 = .ok (.ifCond .eq 17, 3) := by decide +kernel
theorem d_B_answerTotals_47 : decode c_B_answerTotals 47 = .ok (.iload_n 2, 1) := by decide +kernel
theorem d_B_answerTotals_48 : decode c_B_answerTotals 48 = .ok (.ifCond .ne 13, 3) := by decide +kernel
theorem d_B_answerTotals_51 : decode c_B_answerTotals 51 = .ok (.aload_n 0, 1) := by decide +kernel
theorem d_B_answerTotals_52 : decode c_B_answerTotals 52 = .ok (.dup, 1) := by decide +kernel
theorem d_B_answerTotals_53 : decode c_B_answerTotals 53 = .ok (.getfield 144, 3) := by decide +kernel
theorem d_B_answerTotals_56 : decode c_B_answerTotals 56 = .ok (.iconst 1, 1) := by decide +kernel
theorem d_B_answerTotals_57 : decode c_B_answerTotals 57 = .ok (.iadd, 1) := by decide +kernel
theorem d_B_answerTotals_58 : decode c_B_answerTotals 58 = .ok (.putfield 144, 3) := by decide +kernel
theorem d_B_answerTotals_61 : decode c_B_answerTotals 61 = .ok (.return_, 1) := by decide +kernel
def m_B_answerTotals : XM := ("CashLink$Bank", c_B_answerTotals, 4, none, "answerTotals", [], 9, 201)
def b_B_answerTotals : XB := [(0, X_aload 0 1),
  (1, X_aload 1 1),
  (2, X_invV 7 Y_G_machine 0 []),
  (5, X_aload 1 1),
  (6, X_invV 7 Y_G_trace 0 []),
  (9, X_invV 2 Y_B_totalOf 2 []),
  (12, X_aload 1 1),
  (13, X_invV 7 Y_G_amount 0 []),
  (16, X_icmp (fun x y => ¬ x = y) 23),
  (19, X_push (xv_i 1) 1),
  (20, X_goto 24),
  (23, X_push (xv_i 0) 1),
  (24, X_istore 2 1),
  (25, X_aload 0 1),
  (26, X_push (xv_r 50 5) 3),
  (29, X_aload 1 1),
  (30, X_iload 2 1),
  (31, X_if (fun x => x = 0) 38),
  (34, X_push (xv_i 0) 1),
  (35, X_goto 39),
  (38, X_push (xv_i 4) 1),
  (39, X_invV 2 Y_B_reply 3 []),
  (42, X_istore 3 1),
  (43, X_iload 3 1),
  (44, X_if (fun x => x = 0) 61),
  (47, X_iload 2 1),
  (48, X_if (fun x => ¬ x = 0) 61),
  (51, X_aload 0 1),
  (52, X_dup),
  (53, X_get 2 4),
  (56, X_push (xv_i 1) 1),
  (57, X_bin (fun x y => x + y)),
  (58, X_put x_tI 2 4),
  (61, X_vret)]
set_option maxRecDepth 100000 in
theorem k_B_answerTotals : x_bok m_B_answerTotals b_B_answerTotals := by
  unfold b_B_answerTotals
  refine x_bok.cons (xs_aload_n d_B_answerTotals_0 rfl) ?_
  refine x_bok.cons (xs_aload_n d_B_answerTotals_1 rfl) ?_
  refine x_bok.cons (xs_invV d_B_answerTotals_2 xc7 sn_G_machine is_G_machine ⟨q3_202, q3_203, q3_204, q1_27⟩ (by decide) (by decide) rfl) ?_
  refine x_bok.cons (xs_aload_n d_B_answerTotals_5 rfl) ?_
  refine x_bok.cons (xs_invV d_B_answerTotals_6 xc7 sn_G_trace is_G_trace ⟨q3_206, q3_207, q3_208, q1_27⟩ (by decide) (by decide) rfl) ?_
  refine x_bok.cons (xs_invV d_B_answerTotals_9 xc2 sn_B_totalOf is_B_totalOf ⟨q4_35, q4_37, (x_sel (x_p1 (List.mem_of_getElem? (i := 14) rfl))), q1_6⟩ (by decide) (by decide) rfl) ?_
  refine x_bok.cons (xs_aload_n d_B_answerTotals_12 rfl) ?_
  refine x_bok.cons (xs_invV d_B_answerTotals_13 xc7 sn_G_amount is_G_amount ⟨q3_224, q3_225, q3_226, q1_27⟩ (by decide) (by decide) rfl) ?_
  refine x_bok.cons (xs_icmp_ne d_B_answerTotals_16 (by decide)) ?_
  refine x_bok.cons (xs_iconst d_B_answerTotals_19 (by decide)) ?_
  refine x_bok.cons (xs_goto d_B_answerTotals_20 (by decide)) ?_
  refine x_bok.cons (xs_iconst d_B_answerTotals_23 (by decide)) ?_
  refine x_bok.cons (xs_istore_n d_B_answerTotals_24 rfl (by decide)) ?_
  refine x_bok.cons (xs_aload_n d_B_answerTotals_25 rfl) ?_
  refine x_bok.cons (xs_gets d_B_answerTotals_26 (List.mem_of_getElem? (i := 9) rfl) q4_44 (Or.inl rfl)) ?_
  refine x_bok.cons (xs_aload_n d_B_answerTotals_29 rfl) ?_
  refine x_bok.cons (xs_iload_n d_B_answerTotals_30 rfl) ?_
  refine x_bok.cons (xs_if_eq d_B_answerTotals_31 (by decide)) ?_
  refine x_bok.cons (xs_iconst d_B_answerTotals_34 (by decide)) ?_
  refine x_bok.cons (xs_goto d_B_answerTotals_35 (by decide)) ?_
  refine x_bok.cons (xs_iconst d_B_answerTotals_38 (by decide)) ?_
  refine x_bok.cons (xs_invV d_B_answerTotals_39 xc2 sn_B_reply is_B_reply ⟨q4_15, q4_17, (x_sel (x_p1 (List.mem_of_getElem? (i := 10) rfl))), q1_6⟩ (by decide) (by decide) rfl) ?_
  refine x_bok.cons (xs_istore_n d_B_answerTotals_42 rfl (by decide)) ?_
  refine x_bok.cons (xs_iload_n d_B_answerTotals_43 rfl) ?_
  refine x_bok.cons (xs_if_eq d_B_answerTotals_44 (by decide)) ?_
  refine x_bok.cons (xs_iload_n d_B_answerTotals_47 rfl) ?_
  refine x_bok.cons (xs_if_ne d_B_answerTotals_48 (by decide)) ?_
  refine x_bok.cons (xs_aload_n d_B_answerTotals_51 rfl) ?_
  refine x_bok.cons (xs_dup d_B_answerTotals_52) ?_
  refine x_bok.cons (xs_get d_B_answerTotals_53 xc2 xw2 (by decide) q1_118 (Or.inl rfl)) ?_
  refine x_bok.cons (xs_iconst d_B_answerTotals_56 (by decide)) ?_
  refine x_bok.cons (xs_iadd d_B_answerTotals_57) ?_
  refine x_bok.cons (xs_put d_B_answerTotals_58 xc2 xw2 xt2 xn2 (by decide) q1_118 (Or.inl rfl) rfl rfl x_fitI) ?_
  refine x_bok.cons (xs_vret d_B_answerTotals_61 rfl) ?_
  exact x_bok.nil
set_option maxRecDepth 100000 in
theorem mn_B_answerTotals : x_bmn b_B_answerTotals := by
  unfold b_B_answerTotals
  refine x_bmn.cons (xm_aload) ?_
  refine x_bmn.cons (xm_aload) ?_
  refine x_bmn.cons (xm_invV ym_G_machine) ?_
  refine x_bmn.cons (xm_aload) ?_
  refine x_bmn.cons (xm_invV ym_G_trace) ?_
  refine x_bmn.cons (xm_invV ym_B_totalOf) ?_
  refine x_bmn.cons (xm_aload) ?_
  refine x_bmn.cons (xm_invV ym_G_amount) ?_
  refine x_bmn.cons (xm_icmp) ?_
  refine x_bmn.cons (xm_push) ?_
  refine x_bmn.cons (xm_goto) ?_
  refine x_bmn.cons (xm_push) ?_
  refine x_bmn.cons (xm_istore) ?_
  refine x_bmn.cons (xm_aload) ?_
  refine x_bmn.cons (xm_push) ?_
  refine x_bmn.cons (xm_aload) ?_
  refine x_bmn.cons (xm_iload) ?_
  refine x_bmn.cons (xm_if) ?_
  refine x_bmn.cons (xm_push) ?_
  refine x_bmn.cons (xm_goto) ?_
  refine x_bmn.cons (xm_push) ?_
  refine x_bmn.cons (xm_invV ym_B_reply) ?_
  refine x_bmn.cons (xm_istore) ?_
  refine x_bmn.cons (xm_iload) ?_
  refine x_bmn.cons (xm_if) ?_
  refine x_bmn.cons (xm_iload) ?_
  refine x_bmn.cons (xm_if) ?_
  refine x_bmn.cons (xm_aload) ?_
  refine x_bmn.cons (xm_dup) ?_
  refine x_bmn.cons (xm_get) ?_
  refine x_bmn.cons (xm_push) ?_
  refine x_bmn.cons (xm_bin) ?_
  refine x_bmn.cons (xm_put) ?_
  refine x_bmn.cons (xm_vret) ?_
  exact x_bmn.nil
theorem is_B_answerTotals : x_Is y_B_answerTotals m_B_answerTotals := x_is_code q4_34
def Y_B_answerTotals : XMeth := x_do 4 b_B_answerTotals
theorem sn_B_answerTotals : x_Snd y_B_answerTotals m_B_answerTotals Y_B_answerTotals := x_snd_of (by decide) rfl rfl is_B_answerTotals k_B_answerTotals
theorem ym_B_answerTotals : x_Ymn Y_B_answerTotals := x_ymn_of mn_B_answerTotals
/- CashLink$Bank.receive(LCashLink$Message;)V -/
abbrev c_B_receive : ByteArray := prog_2_method_5_code
def y_B_receive : MethodName := ⟨"CashLink$Bank", "receive", "(LCashLink$Message;)V"⟩
theorem d_B_receive_0 : decode c_B_receive 0 = .ok (.aload_n 0, 1) := by decide +kernel
theorem d_B_receive_1 : decode c_B_receive 1 = .ok (.getfield 16, 3) := by decide +kernel
theorem d_B_receive_4 : decode c_B_receive 4 = .ok (.invokevirtual 61, 3) := by decide +kernel
theorem d_B_receive_7 : decode c_B_receive 7 = .ok (.ifCond .ne 4, 3) := by decide +kernel
theorem d_B_receive_10 : decode c_B_receive 10 = .ok (.return_, 1) := by decide +kernel
theorem d_B_receive_11 : decode c_B_receive 11 = .ok (.aload_n 1, 1) := by decide +kernel
theorem d_B_receive_12 : decode c_B_receive 12 = .ok (.invokevirtual 65, 3) := by decide +kernel
theorem d_B_receive_15 : decode c_B_receive 15 = .ok (.getstatic 71, 3) := by decide +kernel
theorem d_B_receive_18 : decode c_B_receive 18 = .ok (.if_acmp .ne 11, 3) := by decide +kernel
theorem d_B_receive_21 : decode c_B_receive 21 = .ok (.aload_n 0, 1) := by decide +kernel
theorem d_B_receive_22 : decode c_B_receive 22 = .ok (.aload_n 1, 1) := by decide +kernel
theorem d_B_receive_23 : decode c_B_receive 23 = .ok (.invokevirtual 77, 3) := by decide +kernel
theorem d_B_receive_26 : decode c_B_receive 26 = .ok (.goto 26, 3) := by decide +kernel
theorem d_B_receive_29 : decode c_B_receive 29 = .ok (.aload_n 1, 1) := by decide +kernel
theorem d_B_receive_30 : decode c_B_receive 30 = .ok (.invokevirtual 65, 3) := by decide +kernel
theorem d_B_receive_33 : decode c_B_receive 33 = .ok (.getstatic 81, 3) := by decide +kernel
theorem d_B_receive_36 : decode c_B_receive 36 = .ok (.if_acmp .ne 11, 3) := by decide +kernel
theorem d_B_receive_39 : decode c_B_receive 39 = .ok (.aload_n 0, 1) := by decide +kernel
theorem d_B_receive_40 : decode c_B_receive 40 = .ok (.aload_n 1, 1) := by decide +kernel
theorem d_B_receive_41 : decode c_B_receive 41 = .ok (.invokevirtual 84, 3) := by decide +kernel
theorem d_B_receive_44 : decode c_B_receive 44 = .ok (.goto 8, 3) := by decide +kernel
theorem d_B_receive_47 : decode c_B_receive 47 = .ok (.aload_n 0, 1) := by decide +kernel
theorem d_B_receive_48 : decode c_B_receive 48 = .ok (.aload_n 1, 1) := by decide +kernel
theorem d_B_receive_49 : decode c_B_receive 49 = .ok (.invokevirtual 87, 3) := by decide +kernel
theorem d_B_receive_52 : decode c_B_receive 52 = .ok (.return_, 1) := by decide +kernel
def m_B_receive : XM := ("CashLink$Bank", c_B_receive, 2, none, "receive", [], 10, 224)
def b_B_receive : XB := [(0, X_aload 0 1),
  (1, X_get 2 1),
  (4, X_invV 4 Y_J_isOn 0 []),
  (7, X_if (fun x => ¬ x = 0) 11),
  (10, X_vret),
  (11, X_aload 1 1),
  (12, X_invV 7 Y_G_type 0 []),
  (15, X_push (xv_r 50 0) 3),
  (18, X_acmp (fun q => ¬ q) 29),
  (21, X_aload 0 1),
  (22, X_aload 1 1),
  (23, X_invV 2 Y_B_answerRequest 1 []),
  (26, X_goto 52),
  (29, X_aload 1 1),
  (30, X_invV 7 Y_G_type 0 []),
  (33, X_push (xv_r 50 2) 3),
  (36, X_acmp (fun q => ¬ q) 47),
  (39, X_aload 0 1),
  (40, X_aload 1 1),
  (41, X_invV 2 Y_B_answerReversal 1 []),
  (44, X_goto 52),
  (47, X_aload 0 1),
  (48, X_aload 1 1),
  (49, X_invV 2 Y_B_answerTotals 1 []),
  (52, X_vret)]
set_option maxRecDepth 100000 in
theorem k_B_receive : x_bok m_B_receive b_B_receive := by
  unfold b_B_receive
  refine x_bok.cons (xs_aload_n d_B_receive_0 rfl) ?_
  refine x_bok.cons (xs_get d_B_receive_1 xc2 xw2 (by decide) q1_114 (Or.inl rfl)) ?_
  refine x_bok.cons (xs_invV d_B_receive_4 xc4 sn_J_isOn is_J_isOn ⟨q3_191, q2_68, q2_69, q1_7⟩ (by decide) (by decide) rfl) ?_
  refine x_bok.cons (xs_if_ne d_B_receive_7 (by decide)) ?_
  refine x_bok.cons (xs_vret d_B_receive_10 rfl) ?_
  refine x_bok.cons (xs_aload_n d_B_receive_11 rfl) ?_
  refine x_bok.cons (xs_invV d_B_receive_12 xc7 sn_G_type is_G_type ⟨q3_192, q3_184, q3_185, q1_27⟩ (by decide) (by decide) rfl) ?_
  refine x_bok.cons (xs_gets d_B_receive_15 (List.mem_of_getElem? (i := 4) rfl) q3_193 (Or.inl rfl)) ?_
  refine x_bok.cons (xs_acmp_ne d_B_receive_18 (by decide)) ?_
  refine x_bok.cons (xs_aload_n d_B_receive_21 rfl) ?_
  refine x_bok.cons (xs_aload_n d_B_receive_22 rfl) ?_
  refine x_bok.cons (xs_invV d_B_receive_23 xc2 sn_B_answerRequest is_B_answerRequest ⟨q3_194, q3_196, (x_sel (x_p1 (List.mem_of_getElem? (i := 7) rfl))), q1_6⟩ (by decide) (by decide) rfl) ?_
  refine x_bok.cons (xs_goto d_B_receive_26 (by decide)) ?_
  refine x_bok.cons (xs_aload_n d_B_receive_29 rfl) ?_
  refine x_bok.cons (xs_invV d_B_receive_30 xc7 sn_G_type is_G_type ⟨q3_192, q3_184, q3_185, q1_27⟩ (by decide) (by decide) rfl) ?_
  refine x_bok.cons (xs_gets d_B_receive_33 (List.mem_of_getElem? (i := 6) rfl) q4_20 (Or.inl rfl)) ?_
  refine x_bok.cons (xs_acmp_ne d_B_receive_36 (by decide)) ?_
  refine x_bok.cons (xs_aload_n d_B_receive_39 rfl) ?_
  refine x_bok.cons (xs_aload_n d_B_receive_40 rfl) ?_
  refine x_bok.cons (xs_invV d_B_receive_41 xc2 sn_B_answerReversal is_B_answerReversal ⟨q4_21, q4_23, (x_sel (x_p1 (List.mem_of_getElem? (i := 11) rfl))), q1_6⟩ (by decide) (by decide) rfl) ?_
  refine x_bok.cons (xs_goto d_B_receive_44 (by decide)) ?_
  refine x_bok.cons (xs_aload_n d_B_receive_47 rfl) ?_
  refine x_bok.cons (xs_aload_n d_B_receive_48 rfl) ?_
  refine x_bok.cons (xs_invV d_B_receive_49 xc2 sn_B_answerTotals is_B_answerTotals ⟨q4_31, q4_33, (x_sel (x_p1 (List.mem_of_getElem? (i := 13) rfl))), q1_6⟩ (by decide) (by decide) rfl) ?_
  refine x_bok.cons (xs_vret d_B_receive_52 rfl) ?_
  exact x_bok.nil
set_option maxRecDepth 100000 in
theorem mn_B_receive : x_bmn b_B_receive := by
  unfold b_B_receive
  refine x_bmn.cons (xm_aload) ?_
  refine x_bmn.cons (xm_get) ?_
  refine x_bmn.cons (xm_invV ym_J_isOn) ?_
  refine x_bmn.cons (xm_if) ?_
  refine x_bmn.cons (xm_vret) ?_
  refine x_bmn.cons (xm_aload) ?_
  refine x_bmn.cons (xm_invV ym_G_type) ?_
  refine x_bmn.cons (xm_push) ?_
  refine x_bmn.cons (xm_acmp) ?_
  refine x_bmn.cons (xm_aload) ?_
  refine x_bmn.cons (xm_aload) ?_
  refine x_bmn.cons (xm_invV ym_B_answerRequest) ?_
  refine x_bmn.cons (xm_goto) ?_
  refine x_bmn.cons (xm_aload) ?_
  refine x_bmn.cons (xm_invV ym_G_type) ?_
  refine x_bmn.cons (xm_push) ?_
  refine x_bmn.cons (xm_acmp) ?_
  refine x_bmn.cons (xm_aload) ?_
  refine x_bmn.cons (xm_aload) ?_
  refine x_bmn.cons (xm_invV ym_B_answerReversal) ?_
  refine x_bmn.cons (xm_goto) ?_
  refine x_bmn.cons (xm_aload) ?_
  refine x_bmn.cons (xm_aload) ?_
  refine x_bmn.cons (xm_invV ym_B_answerTotals) ?_
  refine x_bmn.cons (xm_vret) ?_
  exact x_bmn.nil
theorem is_B_receive : x_Is y_B_receive m_B_receive := x_is_code q3_190
def Y_B_receive : XMeth := x_do 2 b_B_receive
theorem sn_B_receive : x_Snd y_B_receive m_B_receive Y_B_receive := x_snd_of (by decide) rfl rfl is_B_receive k_B_receive
theorem ym_B_receive : x_Ymn Y_B_receive := x_ymn_of mn_B_receive
/- CashLink$Machine.isVoid(I)Z -/
abbrev c_M_isVoid : ByteArray := prog_6_method_14_code
def y_M_isVoid : MethodName := ⟨"CashLink$Machine", "isVoid", "(I)Z"⟩
theorem d_M_isVoid_0 : decode c_M_isVoid 0 = .ok (.iconst 0, 1) := by decide +kernel
theorem d_M_isVoid_1 : decode c_M_isVoid 1 = .ok (.istore_n 2, 1) := by decide +kernel
theorem d_M_isVoid_2 : decode c_M_isVoid 2 = .ok (.iload_n 2, 1) := by decide +kernel
theorem d_M_isVoid_3 : decode c_M_isVoid 3 = .ok (.aload_n 0, 1) := by decide +kernel
theorem d_M_isVoid_4 : decode c_M_isVoid 4 = .ok (.getfield 37, 3) := by decide +kernel
theorem d_M_isVoid_7 : decode c_M_isVoid 7 = .ok (.invokevirtual 79, 3) := by decide +kernel
theorem d_M_isVoid_10 : decode c_M_isVoid 10 = .ok (.if_icmp .ge 29, 3) := by decide +kernel
theorem d_M_isVoid_13 : decode c_M_isVoid 13 = .ok (.aload_n 0, 1) := by decide +kernel
theorem d_M_isVoid_14 : decode c_M_isVoid 14 = .ok (.getfield 37, 3) := by decide +kernel
theorem d_M_isVoid_17 : decode c_M_isVoid 17 = .ok (.iload_n 2, 1) := by decide +kernel
theorem d_M_isVoid_18 : decode c_M_isVoid 18 = .ok (.invokevirtual 127, 3) := by decide +kernel
theorem d_M_isVoid_21 : decode c_M_isVoid 21 = .ok (.checkcast 94, 3) := by decide +kernel
theorem d_M_isVoid_24 : decode c_M_isVoid 24 = .ok (.invokevirtual 134, 3) := by decide +kernel
theorem d_M_isVoid_27 : decode c_M_isVoid 27 = .ok (.iload_n 1, 1) := by decide +kernel
theorem d_M_isVoid_28 : decode c_M_isVoid 28 = .ok (.if_icmp .ne 5, 3) := by decide +kernel
theorem d_M_isVoid_31 : decode c_M_isVoid 31 = .ok (.iconst 1, 1) := by decide +kernel
theorem d_M_isVoid_32 : decode c_M_isVoid 32 = .ok (.ireturn, 1) := by decide +kernel
theorem d_M_isVoid_33 : decode c_M_isVoid 33 = .ok (.iinc 2 1, 3) := by decide +kernel
theorem d_M_isVoid_36 : decode c_M_isVoid 36 = .ok (.goto (-34), 3) := by decide +kernel
theorem d_M_isVoid_39 : decode c_M_isVoid 39 = .ok (.iconst 0, 1) := by decide +kernel
theorem d_M_isVoid_40 : decode c_M_isVoid 40 = .ok (.ireturn, 1) := by decide +kernel
def m_M_isVoid : XM := ("CashLink$Machine", c_M_isVoid, 3, (some .boolean), "isVoid", [], 3, 64)
def b_M_isVoid : XB := [(0, X_push (xv_i 0) 1),
  (1, X_istore 2 1),
  (2, X_iload 2 1),
  (3, X_aload 0 1),
  (4, X_get 3 10),
  (7, X_invV 8 Y_A_size 0 []),
  (10, X_icmp (fun x y => y ≤ x) 39),
  (13, X_aload 0 1),
  (14, X_get 3 10),
  (17, X_iload 2 1),
  (18, X_invV 8 Y_A_get 1 []),
  (21, X_cast 6),
  (24, X_invV 6 Y_E_trace 0 []),
  (27, X_iload 1 1),
  (28, X_icmp (fun x y => ¬ x = y) 33),
  (31, X_push (xv_i 1) 1),
  (32, X_zret),
  (33, X_iinc 2 1),
  (36, X_goto 2),
  (39, X_push (xv_i 0) 1),
  (40, X_zret)]
set_option maxRecDepth 100000 in
theorem k_M_isVoid : x_bok m_M_isVoid b_M_isVoid := by
  unfold b_M_isVoid
  refine x_bok.cons (xs_iconst d_M_isVoid_0 (by decide)) ?_
  refine x_bok.cons (xs_istore_n d_M_isVoid_1 rfl (by decide)) ?_
  refine x_bok.cons (xs_iload_n d_M_isVoid_2 rfl) ?_
  refine x_bok.cons (xs_aload_n d_M_isVoid_3 rfl) ?_
  refine x_bok.cons (xs_get d_M_isVoid_4 xc3 xw3 (by decide) q1_177 (Or.inl rfl)) ?_
  refine x_bok.cons (xs_invV d_M_isVoid_7 xc8 sn_A_size is_A_size ⟨q2_125, q2_126, q2_127, q1_5⟩ (by decide) (by decide) rfl) ?_
  refine x_bok.cons (xs_icmp_ge d_M_isVoid_10 (by decide)) ?_
  refine x_bok.cons (xs_aload_n d_M_isVoid_13 rfl) ?_
  refine x_bok.cons (xs_get d_M_isVoid_14 xc3 xw3 (by decide) q1_177 (Or.inl rfl)) ?_
  refine x_bok.cons (xs_iload_n d_M_isVoid_17 rfl) ?_
  refine x_bok.cons (xs_invV d_M_isVoid_18 xc8 sn_A_get is_A_get ⟨q3_89, q3_90, q3_91, q1_5⟩ (by decide) (by decide) rfl) ?_
  refine x_bok.cons (xs_cast d_M_isVoid_21 xc6 q2_150 q7_4) ?_
  refine x_bok.cons (xs_invV d_M_isVoid_24 xc6 sn_E_trace is_E_trace ⟨q3_103, q3_104, q3_105, q1_21⟩ (by decide) (by decide) rfl) ?_
  refine x_bok.cons (xs_iload_n d_M_isVoid_27 rfl) ?_
  refine x_bok.cons (xs_icmp_ne d_M_isVoid_28 (by decide)) ?_
  refine x_bok.cons (xs_iconst d_M_isVoid_31 (by decide)) ?_
  refine x_bok.cons (xs_zret d_M_isVoid_32 rfl) ?_
  refine x_bok.cons (xs_iinc d_M_isVoid_33 (by decide) (by decide)) ?_
  refine x_bok.cons (xs_goto d_M_isVoid_36 (by decide)) ?_
  refine x_bok.cons (xs_iconst d_M_isVoid_39 (by decide)) ?_
  refine x_bok.cons (xs_zret d_M_isVoid_40 rfl) ?_
  exact x_bok.nil
set_option maxRecDepth 100000 in
theorem mn_M_isVoid : x_bmn b_M_isVoid := by
  unfold b_M_isVoid
  refine x_bmn.cons (xm_push) ?_
  refine x_bmn.cons (xm_istore) ?_
  refine x_bmn.cons (xm_iload) ?_
  refine x_bmn.cons (xm_aload) ?_
  refine x_bmn.cons (xm_get) ?_
  refine x_bmn.cons (xm_invV ym_A_size) ?_
  refine x_bmn.cons (xm_icmp) ?_
  refine x_bmn.cons (xm_aload) ?_
  refine x_bmn.cons (xm_get) ?_
  refine x_bmn.cons (xm_iload) ?_
  refine x_bmn.cons (xm_invV ym_A_get) ?_
  refine x_bmn.cons (xm_cast) ?_
  refine x_bmn.cons (xm_invV ym_E_trace) ?_
  refine x_bmn.cons (xm_iload) ?_
  refine x_bmn.cons (xm_icmp) ?_
  refine x_bmn.cons (xm_push) ?_
  refine x_bmn.cons (xm_zret) ?_
  refine x_bmn.cons (xm_iinc) ?_
  refine x_bmn.cons (xm_goto) ?_
  refine x_bmn.cons (xm_push) ?_
  refine x_bmn.cons (xm_zret) ?_
  exact x_bmn.nil
theorem is_M_isVoid : x_Is y_M_isVoid m_M_isVoid := x_is_code q4_61
def Y_M_isVoid : XMeth := x_do 3 b_M_isVoid
theorem sn_M_isVoid : x_Snd y_M_isVoid m_M_isVoid Y_M_isVoid := x_snd_of (by decide) rfl rfl is_M_isVoid k_M_isVoid
theorem ym_M_isVoid : x_Ymn Y_M_isVoid := x_ymn_of mn_M_isVoid
/- java/util/ArrayList.fastRemove([Ljava/lang/Object;I)V -/
abbrev c_A_fastRemove : ByteArray := prog_35_method_39_code
def y_A_fastRemove : MethodName := ⟨"java/util/ArrayList", "fastRemove", "([Ljava/lang/Object;I)V"⟩
theorem d_A_fastRemove_0 : decode c_A_fastRemove 0 = .ok (.aload_n 0, 1) := by decide +kernel
theorem d_A_fastRemove_1 : decode c_A_fastRemove 1 = .ok (.dup, 1) := by decide +kernel
theorem d_A_fastRemove_2 : decode c_A_fastRemove 2 = .ok (.getfield 63, 3) := by decide +kernel
theorem d_A_fastRemove_5 : decode c_A_fastRemove 5 = .ok (.iconst 1, 1) := by decide +kernel
theorem d_A_fastRemove_6 : decode c_A_fastRemove 6 = .ok (.iadd, 1) := by decide +kernel
theorem d_A_fastRemove_7 : decode c_A_fastRemove 7 = .ok (.putfield 63, 3) := by decide +kernel
theorem d_A_fastRemove_10 : decode c_A_fastRemove 10 = .ok (.aload_n 0, 1) := by decide +kernel
theorem d_A_fastRemove_11 : decode c_A_fastRemove 11 = .ok (.getfield 48, 3) := by decide +kernel
theorem d_A_fastRemove_14 : decode c_A_fastRemove 14 = .ok (.iconst 1, 1) := by decide +kernel
theorem d_A_fastRemove_15 : decode c_A_fastRemove 15 = .ok (.isub, 1) := by decide +kernel
theorem d_A_fastRemove_16 : decode c_A_fastRemove 16 = .ok (.dup, 1) := by decide +kernel
theorem d_A_fastRemove_17 : decode c_A_fastRemove 17 = .ok (.istore_n 3, 1) := by decide +kernel
theorem d_A_fastRemove_18 : decode c_A_fastRemove 18 = .ok (.iload_n 2, 1) := by decide +kernel
theorem d_A_fastRemove_19 : decode c_A_fastRemove 19 = .ok (.if_icmp .le 15, 3) := by decide +kernel
theorem d_A_fastRemove_22 : decode c_A_fastRemove 22 = .ok (.aload_n 1, 1) := by decide +kernel
theorem d_A_fastRemove_23 : decode c_A_fastRemove 23 = .ok (.iload_n 2, 1) := by decide +kernel
theorem d_A_fastRemove_24 : decode c_A_fastRemove 24 = .ok (.iconst 1, 1) := by decide +kernel
theorem d_A_fastRemove_25 : decode c_A_fastRemove 25 = .ok (.iadd, 1) := by decide +kernel
theorem d_A_fastRemove_26 : decode c_A_fastRemove 26 = .ok (.aload_n 1, 1) := by decide +kernel
theorem d_A_fastRemove_27 : decode c_A_fastRemove 27 = .ok (.iload_n 2, 1) := by decide +kernel
theorem d_A_fastRemove_28 : decode c_A_fastRemove 28 = .ok (.iload_n 3, 1) := by decide +kernel
theorem d_A_fastRemove_29 : decode c_A_fastRemove 29 = .ok (.iload_n 2, 1) := by decide +kernel
theorem d_A_fastRemove_30 : decode c_A_fastRemove 30 = .ok (.isub, 1) := by decide +kernel
theorem d_A_fastRemove_31 : decode c_A_fastRemove 31 = .ok (.invokestatic 112, 3) := by decide +kernel
theorem d_A_fastRemove_34 : decode c_A_fastRemove 34 = .ok (.aload_n 1, 1) := by decide +kernel
theorem d_A_fastRemove_35 : decode c_A_fastRemove 35 = .ok (.aload_n 0, 1) := by decide +kernel
theorem d_A_fastRemove_36 : decode c_A_fastRemove 36 = .ok (.iload_n 3, 1) := by decide +kernel
theorem d_A_fastRemove_37 : decode c_A_fastRemove 37 = .ok (.dup_x1, 1) := by decide +kernel
theorem d_A_fastRemove_38 : decode c_A_fastRemove 38 = .ok (.putfield 48, 3) := by decide +kernel
theorem d_A_fastRemove_41 : decode c_A_fastRemove 41 = .ok (.aconst_null, 1) := by decide +kernel
theorem d_A_fastRemove_42 : decode c_A_fastRemove 42 = .ok (.aastore, 1) := by decide +kernel
theorem d_A_fastRemove_43 : decode c_A_fastRemove 43 = .ok (.return_, 1) := by decide +kernel
def m_A_fastRemove : XM := ("java/util/ArrayList", c_A_fastRemove, 4, none, "fastRemove", [], 0, 0)
def b_A_fastRemove : XB := [(0, X_aload 0 1),
  (1, X_dup),
  (2, X_get 8 2),
  (5, X_push (xv_i 1) 1),
  (6, X_bin (fun x y => x + y)),
  (7, X_put x_tI 8 2),
  (10, X_aload 0 1),
  (11, X_get 8 1),
  (14, X_push (xv_i 1) 1),
  (15, X_bin (fun x y => x - y)),
  (16, X_dup),
  (17, X_istore 3 1),
  (18, X_iload 2 1),
  (19, X_icmp (fun x y => x ≤ y) 34),
  (22, X_aload 1 1),
  (23, X_iload 2 1),
  (24, X_push (xv_i 1) 1),
  (25, X_bin (fun x y => x + y)),
  (26, X_aload 1 1),
  (27, X_iload 2 1),
  (28, X_iload 3 1),
  (29, X_iload 2 1),
  (30, X_bin (fun x y => x - y)),
  (31, X_bad),
  (34, X_aload 1 1),
  (35, X_aload 0 1),
  (36, X_iload 3 1),
  (37, X_dup_x1),
  (38, X_put x_tI 8 1),
  (41, X_push xv_n 1),
  (42, X_aastD),
  (43, X_vret)]
set_option maxRecDepth 100000 in
theorem k_A_fastRemove : x_bok m_A_fastRemove b_A_fastRemove := by
  unfold b_A_fastRemove
  refine x_bok.cons (xs_aload_n d_A_fastRemove_0 rfl) ?_
  refine x_bok.cons (xs_dup d_A_fastRemove_1) ?_
  refine x_bok.cons (xs_get d_A_fastRemove_2 xc8 xw8 (by decide) q1_69 (Or.inr q1_70)) ?_
  refine x_bok.cons (xs_iconst d_A_fastRemove_5 (by decide)) ?_
  refine x_bok.cons (xs_iadd d_A_fastRemove_6) ?_
  refine x_bok.cons (xs_put d_A_fastRemove_7 xc8 xw8 xt8 xn8 (by decide) q1_69 (Or.inr q1_70) rfl rfl x_fitI) ?_
  refine x_bok.cons (xs_aload_n d_A_fastRemove_10 rfl) ?_
  refine x_bok.cons (xs_get d_A_fastRemove_11 xc8 xw8 (by decide) q1_67 (Or.inl rfl)) ?_
  refine x_bok.cons (xs_iconst d_A_fastRemove_14 (by decide)) ?_
  refine x_bok.cons (xs_isub d_A_fastRemove_15) ?_
  refine x_bok.cons (xs_dup d_A_fastRemove_16) ?_
  refine x_bok.cons (xs_istore_n d_A_fastRemove_17 rfl (by decide)) ?_
  refine x_bok.cons (xs_iload_n d_A_fastRemove_18 rfl) ?_
  refine x_bok.cons (xs_icmp_le d_A_fastRemove_19 (by decide)) ?_
  refine x_bok.cons (xs_aload_n d_A_fastRemove_22 rfl) ?_
  refine x_bok.cons (xs_iload_n d_A_fastRemove_23 rfl) ?_
  refine x_bok.cons (xs_iconst d_A_fastRemove_24 (by decide)) ?_
  refine x_bok.cons (xs_iadd d_A_fastRemove_25) ?_
  refine x_bok.cons (xs_aload_n d_A_fastRemove_26 rfl) ?_
  refine x_bok.cons (xs_iload_n d_A_fastRemove_27 rfl) ?_
  refine x_bok.cons (xs_iload_n d_A_fastRemove_28 rfl) ?_
  refine x_bok.cons (xs_iload_n d_A_fastRemove_29 rfl) ?_
  refine x_bok.cons (xs_isub d_A_fastRemove_30) ?_
  refine x_bok.cons (xs_bad) ?_
  refine x_bok.cons (xs_aload_n d_A_fastRemove_34 rfl) ?_
  refine x_bok.cons (xs_aload_n d_A_fastRemove_35 rfl) ?_
  refine x_bok.cons (xs_iload_n d_A_fastRemove_36 rfl) ?_
  refine x_bok.cons (xs_dup_x1 d_A_fastRemove_37) ?_
  refine x_bok.cons (xs_put d_A_fastRemove_38 xc8 xw8 xt8 xn8 (by decide) q1_67 (Or.inl rfl) rfl rfl x_fitI) ?_
  refine x_bok.cons (xs_null d_A_fastRemove_41) ?_
  refine x_bok.cons (xs_aastD d_A_fastRemove_42) ?_
  refine x_bok.cons (xs_vret d_A_fastRemove_43 rfl) ?_
  exact x_bok.nil
set_option maxRecDepth 100000 in
theorem mn_A_fastRemove : x_bmn b_A_fastRemove := by
  unfold b_A_fastRemove
  refine x_bmn.cons (xm_aload) ?_
  refine x_bmn.cons (xm_dup) ?_
  refine x_bmn.cons (xm_get) ?_
  refine x_bmn.cons (xm_push) ?_
  refine x_bmn.cons (xm_bin) ?_
  refine x_bmn.cons (xm_put) ?_
  refine x_bmn.cons (xm_aload) ?_
  refine x_bmn.cons (xm_get) ?_
  refine x_bmn.cons (xm_push) ?_
  refine x_bmn.cons (xm_bin) ?_
  refine x_bmn.cons (xm_dup) ?_
  refine x_bmn.cons (xm_istore) ?_
  refine x_bmn.cons (xm_iload) ?_
  refine x_bmn.cons (xm_icmp) ?_
  refine x_bmn.cons (xm_aload) ?_
  refine x_bmn.cons (xm_iload) ?_
  refine x_bmn.cons (xm_push) ?_
  refine x_bmn.cons (xm_bin) ?_
  refine x_bmn.cons (xm_aload) ?_
  refine x_bmn.cons (xm_iload) ?_
  refine x_bmn.cons (xm_iload) ?_
  refine x_bmn.cons (xm_iload) ?_
  refine x_bmn.cons (xm_bin) ?_
  refine x_bmn.cons (xm_bad) ?_
  refine x_bmn.cons (xm_aload) ?_
  refine x_bmn.cons (xm_aload) ?_
  refine x_bmn.cons (xm_iload) ?_
  refine x_bmn.cons (xm_dup_x1) ?_
  refine x_bmn.cons (xm_put) ?_
  refine x_bmn.cons (xm_push) ?_
  refine x_bmn.cons (xm_aastD) ?_
  refine x_bmn.cons (xm_vret) ?_
  exact x_bmn.nil
theorem is_A_fastRemove : x_Is y_A_fastRemove m_A_fastRemove := x_is_code q4_73
def Y_A_fastRemove : XMeth := x_do 4 b_A_fastRemove
theorem sn_A_fastRemove : x_Snd y_A_fastRemove m_A_fastRemove Y_A_fastRemove := x_snd_of (by decide) rfl rfl is_A_fastRemove k_A_fastRemove
theorem ym_A_fastRemove : x_Ymn Y_A_fastRemove := x_ymn_of mn_A_fastRemove
/- java/util/ArrayList.remove(I)Ljava/lang/Object; -/
abbrev c_A_remove : ByteArray := prog_35_method_29_code
def y_A_remove : MethodName := ⟨"java/util/ArrayList", "remove", "(I)Ljava/lang/Object;"⟩
theorem d_A_remove_0 : decode c_A_remove 0 = .ok (.iload_n 1, 1) := by decide +kernel
theorem d_A_remove_1 : decode c_A_remove 1 = .ok (.aload_n 0, 1) := by decide +kernel
theorem d_A_remove_2 : decode c_A_remove 2 = .ok (.getfield 48, 3) := by decide +kernel
theorem d_A_remove_5 : decode c_A_remove 5 = .ok (.invokestatic 118, 3) := by decide +kernel
theorem d_A_remove_8 : decode c_A_remove 8 = .ok (.pop, 1) := by decide +kernel
theorem d_A_remove_9 : decode c_A_remove 9 = .ok (.aload_n 0, 1) := by decide +kernel
theorem d_A_remove_10 : decode c_A_remove 10 = .ok (.getfield 9, 3) := by decide +kernel
theorem d_A_remove_13 : decode c_A_remove 13 = .ok (.astore_n 2, 1) := by decide +kernel
theorem d_A_remove_14 : decode c_A_remove 14 = .ok (.aload_n 2, 1) := by decide +kernel
theorem d_A_remove_15 : decode c_A_remove 15 = .ok (.iload_n 1, 1) := by decide +kernel
theorem d_A_remove_16 : decode c_A_remove 16 = .ok (.aaload, 1) := by decide +kernel
theorem d_A_remove_17 : decode c_A_remove 17 = .ok (.astore_n 3, 1) := by decide +kernel
theorem d_A_remove_18 : decode c_A_remove 18 = .ok (.aload_n 0, 1) := by decide +kernel
theorem d_A_remove_19 : decode c_A_remove 19 = .ok (.aload_n 2, 1) := by decide +kernel
theorem d_A_remove_20 : decode c_A_remove 20 = .ok (.iload_n 1, 1) := by decide +kernel
theorem d_A_remove_21 : decode c_A_remove 21 = .ok (.invokevirtual 144, 3) := by decide +kernel
theorem d_A_remove_24 : decode c_A_remove 24 = .ok (.aload_n 3, 1) := by decide +kernel
theorem d_A_remove_25 : decode c_A_remove 25 = .ok (.areturn, 1) := by decide +kernel
def m_A_remove : XM := ("java/util/ArrayList", c_A_remove, 4, (some (.object "java/lang/Object")), "remove", [], 2, 43)
def b_A_remove : XB := [(0, X_iload 1 1),
  (1, X_aload 0 1),
  (2, X_get 8 1),
  (5, X_invS Y_ZObjects_checkIndex 2 []),
  (8, X_pop),
  (9, X_aload 0 1),
  (10, X_get 8 0),
  (13, X_astore 2 1),
  (14, X_aload 2 1),
  (15, X_iload 1 1),
  (16, X_aald 3),
  (17, X_astore 3 1),
  (18, X_aload 0 1),
  (19, X_aload 2 1),
  (20, X_iload 1 1),
  (21, X_invV 8 Y_A_fastRemove 2 []),
  (24, X_aload 3 1),
  (25, X_aret)]
set_option maxRecDepth 100000 in
theorem k_A_remove : x_bok m_A_remove b_A_remove := by
  unfold b_A_remove
  refine x_bok.cons (xs_iload_n d_A_remove_0 rfl) ?_
  refine x_bok.cons (xs_aload_n d_A_remove_1 rfl) ?_
  refine x_bok.cons (xs_get d_A_remove_2 xc8 xw8 (by decide) q1_67 (Or.inl rfl)) ?_
  refine x_bok.cons (xs_invS d_A_remove_5 sn_ZObjects_checkIndex is_ZObjects_checkIndex ⟨q3_93, q3_94, q1_28⟩ (by decide) (by decide) rfl) ?_
  refine x_bok.cons (xs_pop d_A_remove_8) ?_
  refine x_bok.cons (xs_aload_n d_A_remove_9 rfl) ?_
  refine x_bok.cons (xs_get d_A_remove_10 xc8 xw8 (by decide) q1_66 (Or.inl rfl)) ?_
  refine x_bok.cons (xs_astore_n d_A_remove_13 rfl (by decide)) ?_
  refine x_bok.cons (xs_aload_n d_A_remove_14 rfl) ?_
  refine x_bok.cons (xs_iload_n d_A_remove_15 rfl) ?_
  refine x_bok.cons (xs_aald d_A_remove_16 rfl) ?_
  refine x_bok.cons (xs_astore_n d_A_remove_17 rfl (by decide)) ?_
  refine x_bok.cons (xs_aload_n d_A_remove_18 rfl) ?_
  refine x_bok.cons (xs_aload_n d_A_remove_19 rfl) ?_
  refine x_bok.cons (xs_iload_n d_A_remove_20 rfl) ?_
  refine x_bok.cons (xs_invV d_A_remove_21 xc8 sn_A_fastRemove is_A_fastRemove ⟨q4_70, q4_72, (x_sel (x_p2 (List.mem_of_getElem? (i := 2) rfl))), q1_5⟩ (by decide) (by decide) rfl) ?_
  refine x_bok.cons (xs_aload_n d_A_remove_24 rfl) ?_
  refine x_bok.cons (xs_aret d_A_remove_25 rfl (by first | exact Or.inl ⟨_, rfl⟩ | exact Or.inr ⟨_, rfl⟩)) ?_
  exact x_bok.nil
set_option maxRecDepth 100000 in
theorem mn_A_remove : x_bmn b_A_remove := by
  unfold b_A_remove
  refine x_bmn.cons (xm_iload) ?_
  refine x_bmn.cons (xm_aload) ?_
  refine x_bmn.cons (xm_get) ?_
  refine x_bmn.cons (xm_invS ym_ZObjects_checkIndex) ?_
  refine x_bmn.cons (xm_pop) ?_
  refine x_bmn.cons (xm_aload) ?_
  refine x_bmn.cons (xm_get) ?_
  refine x_bmn.cons (xm_astore) ?_
  refine x_bmn.cons (xm_aload) ?_
  refine x_bmn.cons (xm_iload) ?_
  refine x_bmn.cons (xm_aald) ?_
  refine x_bmn.cons (xm_astore) ?_
  refine x_bmn.cons (xm_aload) ?_
  refine x_bmn.cons (xm_aload) ?_
  refine x_bmn.cons (xm_iload) ?_
  refine x_bmn.cons (xm_invV ym_A_fastRemove) ?_
  refine x_bmn.cons (xm_aload) ?_
  refine x_bmn.cons (xm_aret) ?_
  exact x_bmn.nil
theorem is_A_remove : x_Is y_A_remove m_A_remove := x_is_code q4_69
def Y_A_remove : XMeth := x_do 4 b_A_remove
theorem sn_A_remove : x_Snd y_A_remove m_A_remove Y_A_remove := x_snd_of (by decide) rfl rfl is_A_remove k_A_remove
theorem ym_A_remove : x_Ymn Y_A_remove := x_ymn_of mn_A_remove
/- CashLink$Machine.forgetVoid(I)V -/
abbrev c_M_forgetVoid : ByteArray := prog_6_method_15_code
def y_M_forgetVoid : MethodName := ⟨"CashLink$Machine", "forgetVoid", "(I)V"⟩
theorem d_M_forgetVoid_0 : decode c_M_forgetVoid 0 = .ok (.aload_n 0, 1) := by decide +kernel
theorem d_M_forgetVoid_1 : decode c_M_forgetVoid 1 = .ok (.getfield 37, 3) := by decide +kernel
theorem d_M_forgetVoid_4 : decode c_M_forgetVoid 4 = .ok (.invokevirtual 79, 3) := by decide +kernel
theorem d_M_forgetVoid_7 : decode c_M_forgetVoid 7 = .ok (.iconst 1, 1) := by decide +kernel
theorem d_M_forgetVoid_8 : decode c_M_forgetVoid 8 = .ok (.isub, 1) := by decide +kernel
theorem d_M_forgetVoid_9 : decode c_M_forgetVoid 9 = .ok (.istore_n 2, 1) := by decide +kernel
theorem d_M_forgetVoid_10 : decode c_M_forgetVoid 10 = .ok (.iload_n 2, 1) := by decide +kernel
theorem d_M_forgetVoid_11 : decode c_M_forgetVoid 11 = .ok (.ifCond .lt 36, 3) := by decide +kernel
theorem d_M_forgetVoid_14 : decode c_M_forgetVoid 14 = .ok (.aload_n 0, 1) := by decide +kernel
theorem d_M_forgetVoid_15 : decode c_M_forgetVoid 15 = .ok (.getfield 37, 3) := by decide +kernel
theorem d_M_forgetVoid_18 : decode c_M_forgetVoid 18 = .ok (.iload_n 2, 1) := by decide +kernel
theorem d_M_forgetVoid_19 : decode c_M_forgetVoid 19 = .ok (.invokevirtual 127, 3) := by decide +kernel
theorem d_M_forgetVoid_22 : decode c_M_forgetVoid 22 = .ok (.checkcast 94, 3) := by decide +kernel
theorem d_M_forgetVoid_25 : decode c_M_forgetVoid 25 = .ok (.invokevirtual 134, 3) := by decide +kernel
theorem d_M_forgetVoid_28 : decode c_M_forgetVoid 28 = .ok (.iload_n 1, 1) := by decide +kernel
theorem d_M_forgetVoid_29 : decode c_M_forgetVoid 29 = .ok (.if_icmp .ne 12, 3) := by decide +kernel
theorem d_M_forgetVoid_32 : decode c_M_forgetVoid 32 = .ok (.aload_n 0, 1) := by decide +kernel
theorem d_M_forgetVoid_33 : decode c_M_forgetVoid 33 = .ok (.getfield 37, 3) := by decide +kernel
theorem d_M_forgetVoid_36 : decode c_M_forgetVoid 36 = .ok (.iload_n 2, 1) := by decide +kernel
theorem d_M_forgetVoid_37 : decode c_M_forgetVoid 37 = .ok (.invokevirtual 201, 3) := by decide +kernel
theorem d_M_forgetVoid_40 : decode c_M_forgetVoid 40 = .ok (.pop, 1) := by decide +kernel
theorem d_M_forgetVoid_41 : decode c_M_forgetVoid 41 = .ok (.iinc 2 (-1), 3) := by decide +kernel
theorem d_M_forgetVoid_44 : decode c_M_forgetVoid 44 = .ok (.goto (-34), 3) := by decide +kernel
theorem d_M_forgetVoid_47 : decode c_M_forgetVoid 47 = .ok (.return_, 1) := by decide +kernel
def m_M_forgetVoid : XM := ("CashLink$Machine", c_M_forgetVoid, 3, none, "forgetVoid", [], 3, 66)
def b_M_forgetVoid : XB := [(0, X_aload 0 1),
  (1, X_get 3 10),
  (4, X_invV 8 Y_A_size 0 []),
  (7, X_push (xv_i 1) 1),
  (8, X_bin (fun x y => x - y)),
  (9, X_istore 2 1),
  (10, X_iload 2 1),
  (11, X_if (fun x => x < 0) 47),
  (14, X_aload 0 1),
  (15, X_get 3 10),
  (18, X_iload 2 1),
  (19, X_invV 8 Y_A_get 1 []),
  (22, X_cast 6),
  (25, X_invV 6 Y_E_trace 0 []),
  (28, X_iload 1 1),
  (29, X_icmp (fun x y => ¬ x = y) 41),
  (32, X_aload 0 1),
  (33, X_get 3 10),
  (36, X_iload 2 1),
  (37, X_invV 8 Y_A_remove 1 []),
  (40, X_pop),
  (41, X_iinc 2 (-1)),
  (44, X_goto 10),
  (47, X_vret)]
set_option maxRecDepth 100000 in
theorem k_M_forgetVoid : x_bok m_M_forgetVoid b_M_forgetVoid := by
  unfold b_M_forgetVoid
  refine x_bok.cons (xs_aload_n d_M_forgetVoid_0 rfl) ?_
  refine x_bok.cons (xs_get d_M_forgetVoid_1 xc3 xw3 (by decide) q1_177 (Or.inl rfl)) ?_
  refine x_bok.cons (xs_invV d_M_forgetVoid_4 xc8 sn_A_size is_A_size ⟨q2_125, q2_126, q2_127, q1_5⟩ (by decide) (by decide) rfl) ?_
  refine x_bok.cons (xs_iconst d_M_forgetVoid_7 (by decide)) ?_
  refine x_bok.cons (xs_isub d_M_forgetVoid_8) ?_
  refine x_bok.cons (xs_istore_n d_M_forgetVoid_9 rfl (by decide)) ?_
  refine x_bok.cons (xs_iload_n d_M_forgetVoid_10 rfl) ?_
  refine x_bok.cons (xs_if_lt d_M_forgetVoid_11 (by decide)) ?_
  refine x_bok.cons (xs_aload_n d_M_forgetVoid_14 rfl) ?_
  refine x_bok.cons (xs_get d_M_forgetVoid_15 xc3 xw3 (by decide) q1_177 (Or.inl rfl)) ?_
  refine x_bok.cons (xs_iload_n d_M_forgetVoid_18 rfl) ?_
  refine x_bok.cons (xs_invV d_M_forgetVoid_19 xc8 sn_A_get is_A_get ⟨q3_89, q3_90, q3_91, q1_5⟩ (by decide) (by decide) rfl) ?_
  refine x_bok.cons (xs_cast d_M_forgetVoid_22 xc6 q2_150 q7_4) ?_
  refine x_bok.cons (xs_invV d_M_forgetVoid_25 xc6 sn_E_trace is_E_trace ⟨q3_103, q3_104, q3_105, q1_21⟩ (by decide) (by decide) rfl) ?_
  refine x_bok.cons (xs_iload_n d_M_forgetVoid_28 rfl) ?_
  refine x_bok.cons (xs_icmp_ne d_M_forgetVoid_29 (by decide)) ?_
  refine x_bok.cons (xs_aload_n d_M_forgetVoid_32 rfl) ?_
  refine x_bok.cons (xs_get d_M_forgetVoid_33 xc3 xw3 (by decide) q1_177 (Or.inl rfl)) ?_
  refine x_bok.cons (xs_iload_n d_M_forgetVoid_36 rfl) ?_
  refine x_bok.cons (xs_invV d_M_forgetVoid_37 xc8 sn_A_remove is_A_remove ⟨q4_66, q4_67, q4_68, q1_5⟩ (by decide) (by decide) rfl) ?_
  refine x_bok.cons (xs_pop d_M_forgetVoid_40) ?_
  refine x_bok.cons (xs_iinc d_M_forgetVoid_41 (by decide) (by decide)) ?_
  refine x_bok.cons (xs_goto d_M_forgetVoid_44 (by decide)) ?_
  refine x_bok.cons (xs_vret d_M_forgetVoid_47 rfl) ?_
  exact x_bok.nil
set_option maxRecDepth 100000 in
theorem mn_M_forgetVoid : x_bmn b_M_forgetVoid := by
  unfold b_M_forgetVoid
  refine x_bmn.cons (xm_aload) ?_
  refine x_bmn.cons (xm_get) ?_
  refine x_bmn.cons (xm_invV ym_A_size) ?_
  refine x_bmn.cons (xm_push) ?_
  refine x_bmn.cons (xm_bin) ?_
  refine x_bmn.cons (xm_istore) ?_
  refine x_bmn.cons (xm_iload) ?_
  refine x_bmn.cons (xm_if) ?_
  refine x_bmn.cons (xm_aload) ?_
  refine x_bmn.cons (xm_get) ?_
  refine x_bmn.cons (xm_iload) ?_
  refine x_bmn.cons (xm_invV ym_A_get) ?_
  refine x_bmn.cons (xm_cast) ?_
  refine x_bmn.cons (xm_invV ym_E_trace) ?_
  refine x_bmn.cons (xm_iload) ?_
  refine x_bmn.cons (xm_icmp) ?_
  refine x_bmn.cons (xm_aload) ?_
  refine x_bmn.cons (xm_get) ?_
  refine x_bmn.cons (xm_iload) ?_
  refine x_bmn.cons (xm_invV ym_A_remove) ?_
  refine x_bmn.cons (xm_pop) ?_
  refine x_bmn.cons (xm_iinc) ?_
  refine x_bmn.cons (xm_goto) ?_
  refine x_bmn.cons (xm_vret) ?_
  exact x_bmn.nil
theorem is_M_forgetVoid : x_Is y_M_forgetVoid m_M_forgetVoid := x_is_code q4_65
def Y_M_forgetVoid : XMeth := x_do 3 b_M_forgetVoid
theorem sn_M_forgetVoid : x_Snd y_M_forgetVoid m_M_forgetVoid Y_M_forgetVoid := x_snd_of (by decide) rfl rfl is_M_forgetVoid k_M_forgetVoid
theorem ym_M_forgetVoid : x_Ymn Y_M_forgetVoid := x_ymn_of mn_M_forgetVoid
/- CashLink$Machine.endVoid(I)V -/
abbrev c_M_endVoid : ByteArray := prog_6_method_13_code
def y_M_endVoid : MethodName := ⟨"CashLink$Machine", "endVoid", "(I)V"⟩
theorem d_M_endVoid_0 : decode c_M_endVoid 0 = .ok (.aload_n 0, 1) := by decide +kernel
theorem d_M_endVoid_1 : decode c_M_endVoid 1 = .ok (.iload_n 1, 1) := by decide +kernel
theorem d_M_endVoid_2 : decode c_M_endVoid 2 = .ok (.invokevirtual 195, 3) := by decide +kernel
theorem d_M_endVoid_5 : decode c_M_endVoid 5 = .ok (.ifCond .eq 29, 3) := by decide +kernel
theorem d_M_endVoid_8 : decode c_M_endVoid 8 = .ok (.aload_n 0, 1) := by decide +kernel
theorem d_M_endVoid_9 : decode c_M_endVoid 9 = .ok (.getfield 14, 3) := by decide +kernel
theorem d_M_endVoid_12 : decode c_M_endVoid 12 = .ok (.new 94, 3) := by decide +kernel
theorem d_M_endVoid_15 : decode c_M_endVoid 15 = .ok (.dup, 1) := by decide +kernel
theorem d_M_endVoid_16 : decode c_M_endVoid 16 = .ok (.iconst 5, 1) := by decide +kernel
theorem d_M_endVoid_17 : decode c_M_endVoid 17 = .ok (.aload_n 0, 1) := by decide +kernel
theorem d_M_endVoid_18 : decode c_M_endVoid 18 = .ok (.getfield 41, 3) := by decide +kernel
theorem d_M_endVoid_21 : decode c_M_endVoid 21 = .ok (.iload_n 1, 1) := by decide +kernel
theorem d_M_endVoid_22 : decode c_M_endVoid 22 = .ok (.iconst 0, 1) := by decide +kernel
theorem d_M_endVoid_23 : decode c_M_endVoid 23 = .ok (.invokespecial 178, 3) := by decide +kernel
theorem d_M_endVoid_26 : decode c_M_endVoid 26 = .ok (.invokevirtual 102, 3) := by decide +kernel
theorem d_M_endVoid_29 : decode c_M_endVoid 29 = .ok (.aload_n 0, 1) := by decide +kernel
theorem d_M_endVoid_30 : decode c_M_endVoid 30 = .ok (.iload_n 1, 1) := by decide +kernel
theorem d_M_endVoid_31 : decode c_M_endVoid 31 = .ok (.invokevirtual 198, 3) := by decide +kernel
theorem d_M_endVoid_34 : decode c_M_endVoid 34 = .ok (.return_, 1) := by decide +kernel
def m_M_endVoid : XM := ("CashLink$Machine", c_M_endVoid, 2, none, "endVoid", [], 8, 174)
def b_M_endVoid : XB := [(0, X_aload 0 1),
  (1, X_iload 1 1),
  (2, X_invV 3 Y_M_isVoid 1 []),
  (5, X_if (fun x => x = 0) 34),
  (8, X_aload 0 1),
  (9, X_get 3 3),
  (12, X_new 6 6 xD6),
  (15, X_dup),
  (16, X_push (xv_i 5) 1),
  (17, X_aload 0 1),
  (18, X_get 3 0),
  (21, X_iload 1 1),
  (22, X_push (xv_i 0) 1),
  (23, X_invI Y_E_init_2 4 []),
  (26, X_invV 4 Y_J_write 1 []),
  (29, X_aload 0 1),
  (30, X_iload 1 1),
  (31, X_invV 3 Y_M_forgetVoid 1 []),
  (34, X_vret)]
set_option maxRecDepth 100000 in
theorem k_M_endVoid : x_bok m_M_endVoid b_M_endVoid := by
  unfold b_M_endVoid
  refine x_bok.cons (xs_aload_n d_M_endVoid_0 rfl) ?_
  refine x_bok.cons (xs_iload_n d_M_endVoid_1 rfl) ?_
  refine x_bok.cons (xs_invV d_M_endVoid_2 xc3 sn_M_isVoid is_M_isVoid ⟨q4_58, q4_60, (x_sel (x_p2 (List.mem_of_getElem? (i := 0) rfl))), q1_8⟩ (by decide) (by decide) rfl) ?_
  refine x_bok.cons (xs_if_eq d_M_endVoid_5 (by decide)) ?_
  refine x_bok.cons (xs_aload_n d_M_endVoid_8 rfl) ?_
  refine x_bok.cons (xs_get d_M_endVoid_9 xc3 xw3 (by decide) q1_168 (Or.inl rfl)) ?_
  refine x_bok.cons (xs_new d_M_endVoid_12 xc6 xw6 xt6 q2_150 q2_151 q1_21 xd6 rfl) ?_
  refine x_bok.cons (xs_dup d_M_endVoid_15) ?_
  refine x_bok.cons (xs_iconst d_M_endVoid_16 (by decide)) ?_
  refine x_bok.cons (xs_aload_n d_M_endVoid_17 rfl) ?_
  refine x_bok.cons (xs_get d_M_endVoid_18 xc3 xw3 (by decide) q1_165 (Or.inl rfl)) ?_
  refine x_bok.cons (xs_iload_n d_M_endVoid_21 rfl) ?_
  refine x_bok.cons (xs_iconst d_M_endVoid_22 (by decide)) ?_
  refine x_bok.cons (xs_invI d_M_endVoid_23 sn_E_init_2 is_E_init_2 ⟨q3_71, q3_72, q3_73, q1_21⟩ (by decide) rfl (by decide) rfl) ?_
  refine x_bok.cons (xs_invV d_M_endVoid_26 xc4 sn_J_write is_J_write ⟨q2_178, q2_179, q2_180, q1_7⟩ (by decide) (by decide) rfl) ?_
  refine x_bok.cons (xs_aload_n d_M_endVoid_29 rfl) ?_
  refine x_bok.cons (xs_iload_n d_M_endVoid_30 rfl) ?_
  refine x_bok.cons (xs_invV d_M_endVoid_31 xc3 sn_M_forgetVoid is_M_forgetVoid ⟨q4_62, q4_64, (x_sel (x_p2 (List.mem_of_getElem? (i := 1) rfl))), q1_8⟩ (by decide) (by decide) rfl) ?_
  refine x_bok.cons (xs_vret d_M_endVoid_34 rfl) ?_
  exact x_bok.nil
set_option maxRecDepth 100000 in
theorem mn_M_endVoid : x_bmn b_M_endVoid := by
  unfold b_M_endVoid
  refine x_bmn.cons (xm_aload) ?_
  refine x_bmn.cons (xm_iload) ?_
  refine x_bmn.cons (xm_invV ym_M_isVoid) ?_
  refine x_bmn.cons (xm_if) ?_
  refine x_bmn.cons (xm_aload) ?_
  refine x_bmn.cons (xm_get) ?_
  refine x_bmn.cons (xm_new) ?_
  refine x_bmn.cons (xm_dup) ?_
  refine x_bmn.cons (xm_push) ?_
  refine x_bmn.cons (xm_aload) ?_
  refine x_bmn.cons (xm_get) ?_
  refine x_bmn.cons (xm_iload) ?_
  refine x_bmn.cons (xm_push) ?_
  refine x_bmn.cons (xm_invI ym_E_init_2) ?_
  refine x_bmn.cons (xm_invV ym_J_write) ?_
  refine x_bmn.cons (xm_aload) ?_
  refine x_bmn.cons (xm_iload) ?_
  refine x_bmn.cons (xm_invV ym_M_forgetVoid) ?_
  refine x_bmn.cons (xm_vret) ?_
  exact x_bmn.nil
theorem is_M_endVoid : x_Is y_M_endVoid m_M_endVoid := x_is_code q4_57
def Y_M_endVoid : XMeth := x_do 2 b_M_endVoid
theorem sn_M_endVoid : x_Snd y_M_endVoid m_M_endVoid Y_M_endVoid := x_snd_of (by decide) rfl rfl is_M_endVoid k_M_endVoid
theorem ym_M_endVoid : x_Ymn Y_M_endVoid := x_ymn_of mn_M_endVoid
/- CashLink$Machine.isAwaited(I)Z -/
abbrev c_M_isAwaited : ByteArray := prog_6_method_9_code
def y_M_isAwaited : MethodName := ⟨"CashLink$Machine", "isAwaited", "(I)Z"⟩
theorem d_M_isAwaited_0 : decode c_M_isAwaited 0 = .ok (.aload_n 0, 1) := by decide +kernel
theorem d_M_isAwaited_1 : decode c_M_isAwaited 1 = .ok (.getfield 31, 3) := by decide +kernel
theorem d_M_isAwaited_4 : decode c_M_isAwaited 4 = .ok (.getstatic 121, 3) := by decide +kernel
theorem d_M_isAwaited_7 : decode c_M_isAwaited 7 = .ok (.if_acmp .ne 15, 3) := by decide +kernel
theorem d_M_isAwaited_10 : decode c_M_isAwaited 10 = .ok (.iload_n 1, 1) := by decide +kernel
theorem d_M_isAwaited_11 : decode c_M_isAwaited 11 = .ok (.aload_n 0, 1) := by decide +kernel
theorem d_M_isAwaited_12 : decode c_M_isAwaited 12 = .ok (.getfield 96, 3) := by decide +kernel
theorem d_M_isAwaited_15 : decode c_M_isAwaited 15 = .ok (.if_icmp .ne 7, 3) := by decide +kernel
theorem d_M_isAwaited_18 : decode c_M_isAwaited 18 = .ok (.iconst 1, 1) := by decide +kernel
theorem d_M_isAwaited_19 : decode c_M_isAwaited 19 = .ok (.goto 4, 3) := by decide +kernel
theorem d_M_isAwaited_22 : decode c_M_isAwaited 22 = .ok (.iconst 0, 1) := by decide +kernel
theorem d_M_isAwaited_23 : decode c_M_isAwaited 23 = .ok (.ireturn, 1) := by decide +kernel
def m_M_isAwaited : XM := ("CashLink$Machine", c_M_isAwaited, 2, (some .boolean), "isAwaited", [], 0, 0)
def b_M_isAwaited : XB := [(0, X_aload 0 1),
  (1, X_get 3 5),
  (4, X_push (xv_r 49 3) 3),
  (7, X_acmp (fun q => ¬ q) 22),
  (10, X_iload 1 1),
  (11, X_aload 0 1),
  (12, X_get 3 8),
  (15, X_icmp (fun x y => ¬ x = y) 22),
  (18, X_push (xv_i 1) 1),
  (19, X_goto 23),
  (22, X_push (xv_i 0) 1),
  (23, X_zret)]
set_option maxRecDepth 100000 in
theorem k_M_isAwaited : x_bok m_M_isAwaited b_M_isAwaited := by
  unfold b_M_isAwaited
  refine x_bok.cons (xs_aload_n d_M_isAwaited_0 rfl) ?_
  refine x_bok.cons (xs_get d_M_isAwaited_1 xc3 xw3 (by decide) q1_172 (Or.inl rfl)) ?_
  refine x_bok.cons (xs_gets d_M_isAwaited_4 (List.mem_of_getElem? (i := 3) rfl) q3_54 (Or.inl rfl)) ?_
  refine x_bok.cons (xs_acmp_ne d_M_isAwaited_7 (by decide)) ?_
  refine x_bok.cons (xs_iload_n d_M_isAwaited_10 rfl) ?_
  refine x_bok.cons (xs_aload_n d_M_isAwaited_11 rfl) ?_
  refine x_bok.cons (xs_get d_M_isAwaited_12 xc3 xw3 (by decide) q1_175 (Or.inl rfl)) ?_
  refine x_bok.cons (xs_icmp_ne d_M_isAwaited_15 (by decide)) ?_
  refine x_bok.cons (xs_iconst d_M_isAwaited_18 (by decide)) ?_
  refine x_bok.cons (xs_goto d_M_isAwaited_19 (by decide)) ?_
  refine x_bok.cons (xs_iconst d_M_isAwaited_22 (by decide)) ?_
  refine x_bok.cons (xs_zret d_M_isAwaited_23 rfl) ?_
  exact x_bok.nil
set_option maxRecDepth 100000 in
theorem mn_M_isAwaited : x_bmn b_M_isAwaited := by
  unfold b_M_isAwaited
  refine x_bmn.cons (xm_aload) ?_
  refine x_bmn.cons (xm_get) ?_
  refine x_bmn.cons (xm_push) ?_
  refine x_bmn.cons (xm_acmp) ?_
  refine x_bmn.cons (xm_iload) ?_
  refine x_bmn.cons (xm_aload) ?_
  refine x_bmn.cons (xm_get) ?_
  refine x_bmn.cons (xm_icmp) ?_
  refine x_bmn.cons (xm_push) ?_
  refine x_bmn.cons (xm_goto) ?_
  refine x_bmn.cons (xm_push) ?_
  refine x_bmn.cons (xm_zret) ?_
  exact x_bmn.nil
theorem is_M_isAwaited : x_Is y_M_isAwaited m_M_isAwaited := x_is_code q4_79
def Y_M_isAwaited : XMeth := x_do 2 b_M_isAwaited
theorem sn_M_isAwaited : x_Snd y_M_isAwaited m_M_isAwaited Y_M_isAwaited := x_snd_of (by decide) rfl rfl is_M_isAwaited k_M_isAwaited
theorem ym_M_isAwaited : x_Ymn Y_M_isAwaited := x_ymn_of mn_M_isAwaited
/- CashLink$Message.answer()I -/
abbrev c_G_answer : ByteArray := prog_7_method_13_code
def y_G_answer : MethodName := ⟨"CashLink$Message", "answer", "()I"⟩
theorem d_G_answer_0 : decode c_G_answer 0 = .ok (.aload_n 0, 1) := by decide +kernel
theorem d_G_answer_1 : decode c_G_answer 1 = .ok (.getfield 26, 3) := by decide +kernel
theorem d_G_answer_4 : decode c_G_answer 4 = .ok (.ireturn, 1) := by decide +kernel
def m_G_answer : XM := ("CashLink$Message", c_G_answer, 1, (some .int), "answer", [], 0, 0)
def b_G_answer : XB := [(0, X_aload 0 1),
  (1, X_get 7 5),
  (4, X_iret)]
set_option maxRecDepth 100000 in
theorem k_G_answer : x_bok m_G_answer b_G_answer := by
  unfold b_G_answer
  refine x_bok.cons (xs_aload_n d_G_answer_0 rfl) ?_
  refine x_bok.cons (xs_get d_G_answer_1 xc7 xw7 (by decide) q3_39 (Or.inl rfl)) ?_
  refine x_bok.cons (xs_iret d_G_answer_4 rfl) ?_
  exact x_bok.nil
set_option maxRecDepth 100000 in
theorem mn_G_answer : x_bmn b_G_answer := by
  unfold b_G_answer
  refine x_bmn.cons (xm_aload) ?_
  refine x_bmn.cons (xm_get) ?_
  refine x_bmn.cons (xm_iret) ?_
  exact x_bmn.nil
theorem is_G_answer : x_Is y_G_answer m_G_answer := x_is_code q4_83
def Y_G_answer : XMeth := x_do 1 b_G_answer
theorem sn_G_answer : x_Snd y_G_answer m_G_answer Y_G_answer := x_snd_of (by decide) rfl rfl is_G_answer k_G_answer
theorem ym_G_answer : x_Ymn Y_G_answer := x_ymn_of mn_G_answer
/- CashLink$Dispenser.notesIn(II)I -/
abbrev c_D_notesIn : ByteArray := prog_3_method_4_code
def y_D_notesIn : MethodName := ⟨"CashLink$Dispenser", "notesIn", "(II)I"⟩
theorem d_D_notesIn_0 : decode c_D_notesIn 0 = .ok (.iload_n 0, 1) := by decide +kernel
theorem d_D_notesIn_1 : decode c_D_notesIn 1 = .ok (.bipush 8, 2) := by decide +kernel
theorem d_D_notesIn_3 : decode c_D_notesIn 3 = .ok (.iload_n 1, 1) := by decide +kernel
theorem d_D_notesIn_4 : decode c_D_notesIn 4 = .ok (.imul, 1) := by decide +kernel
theorem d_D_notesIn_5 : decode c_D_notesIn 5 = .ok (.ishr, 1) := by decide +kernel
theorem d_D_notesIn_6 : decode c_D_notesIn 6 = .ok (.sipush 255, 3) := by decide +kernel
theorem d_D_notesIn_9 : decode c_D_notesIn 9 = .ok (.iand, 1) := by decide +kernel
theorem d_D_notesIn_10 : decode c_D_notesIn 10 = .ok (.ireturn, 1) := by decide +kernel
def m_D_notesIn : XM := ("CashLink$Dispenser", c_D_notesIn, 2, (some .int), "notesIn", [], 0, 0)
def b_D_notesIn : XB := [(0, X_iload 0 1),
  (1, X_push (xv_i 8) 2),
  (3, X_iload 1 1),
  (4, X_bin (fun x y => x * y)),
  (5, X_bin (fun x y => x >>> (y &&& 31))),
  (6, X_push (xv_i 255) 3),
  (9, X_bin (fun x y => x &&& y)),
  (10, X_iret)]
set_option maxRecDepth 100000 in
theorem k_D_notesIn : x_bok m_D_notesIn b_D_notesIn := by
  unfold b_D_notesIn
  refine x_bok.cons (xs_iload_n d_D_notesIn_0 rfl) ?_
  refine x_bok.cons (xs_bipush d_D_notesIn_1 (by decide)) ?_
  refine x_bok.cons (xs_iload_n d_D_notesIn_3 rfl) ?_
  refine x_bok.cons (xs_imul d_D_notesIn_4) ?_
  refine x_bok.cons (xs_ishr d_D_notesIn_5) ?_
  refine x_bok.cons (xs_sipush d_D_notesIn_6 (by decide)) ?_
  refine x_bok.cons (xs_iand d_D_notesIn_9) ?_
  refine x_bok.cons (xs_iret d_D_notesIn_10 rfl) ?_
  exact x_bok.nil
set_option maxRecDepth 100000 in
theorem mn_D_notesIn : x_bmn b_D_notesIn := by
  unfold b_D_notesIn
  refine x_bmn.cons (xm_iload) ?_
  refine x_bmn.cons (xm_push) ?_
  refine x_bmn.cons (xm_iload) ?_
  refine x_bmn.cons (xm_bin) ?_
  refine x_bmn.cons (xm_bin) ?_
  refine x_bmn.cons (xm_push) ?_
  refine x_bmn.cons (xm_bin) ?_
  refine x_bmn.cons (xm_iret) ?_
  exact x_bmn.nil
theorem is_D_notesIn : x_Is y_D_notesIn m_D_notesIn := x_is_code q4_94
def Y_D_notesIn : XMeth := x_do 2 b_D_notesIn
theorem sn_D_notesIn : x_Snd y_D_notesIn m_D_notesIn Y_D_notesIn := x_snd_of (by decide) rfl rfl is_D_notesIn k_D_notesIn
theorem ym_D_notesIn : x_Ymn Y_D_notesIn := x_ymn_of mn_D_notesIn
