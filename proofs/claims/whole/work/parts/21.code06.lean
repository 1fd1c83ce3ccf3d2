/- CashLink$Bank.answerRequest(LCashLink$Message;)V -/
abbrev c_B_answerRequest : ByteArray := prog_2_method_6_code
def y_B_answerRequest : MethodName := ⟨"CashLink$Bank", "answerRequest", "(LCashLink$Message;)V"⟩
theorem d_B_answerRequest_0 : decode c_B_answerRequest 0 = .ok (.aload_n 0, 1) := by decide +kernel
theorem d_B_answerRequest_1 : decode c_B_answerRequest 1 = .ok (.bipush 6, 2) := by decide +kernel
theorem d_B_answerRequest_3 : decode c_B_answerRequest 3 = .ok (.aload_n 1, 1) := by decide +kernel
theorem d_B_answerRequest_4 : decode c_B_answerRequest 4 = .ok (.invokevirtual 90, 3) := by decide +kernel
theorem d_B_answerRequest_7 : decode c_B_answerRequest 7 = .ok (.astore_n 2, 1) := by decide +kernel
theorem d_B_answerRequest_8 : decode c_B_answerRequest 8 = .ok (.aload_n 2, 1) := by decide +kernel
theorem d_B_answerRequest_9 : decode c_B_answerRequest 9 = .ok (.ifnonnull 54, 3) := by decide +kernel
theorem d_B_answerRequest_12 : decode c_B_answerRequest 12 = .ok (.aload_n 0, 1) := by decide +kernel
theorem d_B_answerRequest_13 : decode c_B_answerRequest 13 = .ok (.getfield 16, 3) := by decide +kernel
theorem d_B_answerRequest_16 : decode c_B_answerRequest 16 = .ok (.iconst 1, 1) := by decide +kernel
theorem d_B_answerRequest_17 : decode c_B_answerRequest 17 = .ok (.invokevirtual 94, 3) := by decide +kernel
theorem d_B_answerRequest_20 : decode c_B_answerRequest 20 = .ok (.ifCond .ne 4, 3) := by decide +kernel
theorem d_B_answerRequest_23 : decode c_B_answerRequest 23 = .ok (.return_, 1) := by decide +kernel
theorem d_B_answerRequest_24 : decode c_B_answerRequest 24 = .ok (.new 44, 3) := by decide +kernel
theorem d_B_answerRequest_27 : decode c_B_answerRequest 27 = .ok (.dup, 1) := by decide +kernel
theorem d_B_answerRequest_28 : decode c_B_answerRequest 28 = .ok (.bipush 6, 2) := by decide +kernel
theorem d_B_answerRequest_30 : decode c_B_answerRequest 30 = .ok (.aload_n 1, 1) := by decide +kernel
theorem d_B_answerRequest_31 : decode c_B_answerRequest 31 = .ok (.invokevirtual 98, 3) := by decide +kernel
theorem d_B_answerRequest_34 : decode c_B_answerRequest 34 = .ok (.aload_n 1, 1) := by decide +kernel
theorem d_B_answerRequest_35 : decode c_B_answerRequest 35 = .ok (.invokevirtual 101, 3) := by decide +kernel
theorem d_B_answerRequest_38 : decode c_B_answerRequest 38 = .ok (.aload_n 1, 1) := by decide +kernel
theorem d_B_answerRequest_39 : decode c_B_answerRequest 39 = .ok (.invokevirtual 104, 3) := by decide +kernel
theorem d_B_answerRequest_42 : decode c_B_answerRequest 42 = .ok (.aload_n 1, 1) := by decide +kernel
theorem d_B_answerRequest_43 : decode c_B_answerRequest 43 = .ok (.invokevirtual 105, 3) := by decide +kernel
theorem d_B_answerRequest_46 : decode c_B_answerRequest 46 = .ok (.aload_n 0, 1) := by decide +kernel
theorem d_B_answerRequest_47 : decode c_B_answerRequest 47 = .ok (.aload_n 1, 1) := by decide +kernel
theorem d_B_answerRequest_48 : decode c_B_answerRequest 48 = .ok (.invokevirtual 108, 3) := by decide +kernel
theorem d_B_answerRequest_51 : decode c_B_answerRequest 51 = .ok (.invokespecial 112, 3) := by decide +kernel
theorem d_B_answerRequest_54 : decode c_B_answerRequest 54 = .ok (.astore_n 2, 1) := by decide +kernel
theorem d_B_answerRequest_55 : decode c_B_answerRequest 55 = .ok (.aload_n 0, 1) := by decide +kernel
theorem d_B_answerRequest_56 : decode c_B_answerRequest 56 = .ok (.getfield 16, 3) := by decide +kernel
theorem d_B_answerRequest_59 : decode c_B_answerRequest 59 = .ok (.aload_n 2, 1) := by decide +kernel
theorem d_B_answerRequest_60 : decode c_B_answerRequest 60 = .ok (.invokevirtual 115, 3) := by decide +kernel
theorem d_B_answerRequest_63 : decode c_B_answerRequest 63 = .ok (.aload_n 0, 1) := by decide +kernel
theorem d_B_answerRequest_64 : decode c_B_answerRequest 64 = .ok (.getstatic 119, 3) := by decide +kernel
theorem d_B_answerRequest_67 : decode c_B_answerRequest 67 = .ok (.aload_n 1, 1) := by decide +kernel
theorem d_B_answerRequest_68 : decode c_B_answerRequest 68 = .ok (.aload_n 2, 1) := by decide +kernel
theorem d_B_answerRequest_69 : decode c_B_answerRequest 69 = .ok (.invokevirtual 58, 3) := by decide +kernel
theorem d_B_answerRequest_72 : decode c_B_answerRequest 72 = .ok (.invokevirtual 122, 3) := by decide +kernel
theorem d_B_answerRequest_75 : decode c_B_answerRequest 75 = .ok (.pop, 1) := by decide +kernel
theorem d_B_answerRequest_76 : decode c_B_answerRequest 76 = .ok (.return_, 1) := by decide +kernel
def m_B_answerRequest : XM := ("CashLink$Bank", c_B_answerRequest, 3, none, "answerRequest", [], 9, 206)
def b_B_answerRequest : XB := [(0, X_aload 0 1),
  (1, X_push (xv_i 6) 2),
  (3, X_aload 1 1),
  (4, X_invV 2 Y_B_find 2 []),
  (7, X_astore 2 1),
  (8, X_aload 2 1),
  (9, X_ifnonnull 63),
  (12, X_aload 0 1),
  (13, X_get 2 1),
  (16, X_push (xv_i 1) 1),
  (17, X_invV 4 Y_J_hasRoomFor 1 []),
  (20, X_if (fun x => ¬ x = 0) 24),
  (23, X_vret),
  (24, X_new 6 6 xD6),
  (27, X_dup),
  (28, X_push (xv_i 6) 2),
  (30, X_aload 1 1),
  (31, X_invV 7 Y_G_machine 0 []),
  (34, X_aload 1 1),
  (35, X_invV 7 Y_G_trace 0 []),
  (38, X_aload 1 1),
  (39, X_invV 7 Y_G_account 0 []),
  (42, X_aload 1 1),
  (43, X_invV 7 Y_G_amount 0 []),
  (46, X_aload 0 1),
  (47, X_aload 1 1),
  (48, X_invV 2 Y_B_decide 1 []),
  (51, X_invI Y_E_init 6 []),
  (54, X_astore 2 1),
  (55, X_aload 0 1),
  (56, X_get 2 1),
  (59, X_aload 2 1),
  (60, X_invV 4 Y_J_write 1 []),
  (63, X_aload 0 1),
  (64, X_push (xv_r 50 1) 3),
  (67, X_aload 1 1),
  (68, X_aload 2 1),
  (69, X_invV 6 Y_E_answer 0 []),
  (72, X_invV 2 Y_B_reply 3 []),
  (75, X_pop),
  (76, X_vret)]
set_option maxRecDepth 100000 in
theorem k_B_answerRequest : x_bok m_B_answerRequest b_B_answerRequest := by
  unfold b_B_answerRequest
  refine x_bok.cons (xs_aload_n d_B_answerRequest_0 rfl) ?_
  refine x_bok.cons (xs_bipush d_B_answerRequest_1 (by decide)) ?_
  refine x_bok.cons (xs_aload_n d_B_answerRequest_3 rfl) ?_
  refine x_bok.cons (xs_invV d_B_answerRequest_4 xc2 sn_B_find is_B_find ⟨q3_198, q3_200, (x_sel (x_p1 (List.mem_of_getElem? (i := 8) rfl))), q1_6⟩ (by decide) (by decide) rfl) ?_
  refine x_bok.cons (xs_astore_n d_B_answerRequest_7 rfl (by decide)) ?_
  refine x_bok.cons (xs_aload_n d_B_answerRequest_8 rfl) ?_
  refine x_bok.cons (xs_ifnonnull d_B_answerRequest_9 (by decide)) ?_
  refine x_bok.cons (xs_aload_n d_B_answerRequest_12 rfl) ?_
  refine x_bok.cons (xs_get d_B_answerRequest_13 xc2 xw2 (by decide) q1_114 (Or.inl rfl)) ?_
  refine x_bok.cons (xs_iconst d_B_answerRequest_16 (by decide)) ?_
  refine x_bok.cons (xs_invV d_B_answerRequest_17 xc4 sn_J_hasRoomFor is_J_hasRoomFor ⟨q3_218, q2_130, q2_131, q1_7⟩ (by decide) (by decide) rfl) ?_
  refine x_bok.cons (xs_if_ne d_B_answerRequest_20 (by decide)) ?_
  refine x_bok.cons (xs_vret d_B_answerRequest_23 rfl) ?_
  refine x_bok.cons (xs_new d_B_answerRequest_24 xc6 xw6 xt6 q3_219 q2_151 q1_21 xd6 rfl) ?_
  refine x_bok.cons (xs_dup d_B_answerRequest_27) ?_
  refine x_bok.cons (xs_bipush d_B_answerRequest_28 (by decide)) ?_
  refine x_bok.cons (xs_aload_n d_B_answerRequest_30 rfl) ?_
  refine x_bok.cons (xs_invV d_B_answerRequest_31 xc7 sn_G_machine is_G_machine ⟨q3_202, q3_203, q3_204, q1_27⟩ (by decide) (by decide) rfl) ?_
  refine x_bok.cons (xs_aload_n d_B_answerRequest_34 rfl) ?_
  refine x_bok.cons (xs_invV d_B_answerRequest_35 xc7 sn_G_trace is_G_trace ⟨q3_206, q3_207, q3_208, q1_27⟩ (by decide) (by decide) rfl) ?_
  refine x_bok.cons (xs_aload_n d_B_answerRequest_38 rfl) ?_
  refine x_bok.cons (xs_invV d_B_answerRequest_39 xc7 sn_G_account is_G_account ⟨q3_220, q3_221, q3_222, q1_27⟩ (by decide) (by decide) rfl) ?_
  refine x_bok.cons (xs_aload_n d_B_answerRequest_42 rfl) ?_
  refine x_bok.cons (xs_invV d_B_answerRequest_43 xc7 sn_G_amount is_G_amount ⟨q3_224, q3_225, q3_226, q1_27⟩ (by decide) (by decide) rfl) ?_
  refine x_bok.cons (xs_aload_n d_B_answerRequest_46 rfl) ?_
  refine x_bok.cons (xs_aload_n d_B_answerRequest_47 rfl) ?_
  refine x_bok.cons (xs_invV d_B_answerRequest_48 xc2 sn_B_decide is_B_decide ⟨q3_228, q3_230, (x_sel (x_p1 (List.mem_of_getElem? (i := 9) rfl))), q1_6⟩ (by decide) (by decide) rfl) ?_
  refine x_bok.cons (xs_invIN d_B_answerRequest_51 sn_E_init is_E_init ⟨q4_11, q2_153, q2_154, q1_21⟩ (by decide) rfl (by decide) rfl) ?_
  refine x_bok.cons (xs_astore_n d_B_answerRequest_54 rfl (by decide)) ?_
  refine x_bok.cons (xs_aload_n d_B_answerRequest_55 rfl) ?_
  refine x_bok.cons (xs_get d_B_answerRequest_56 xc2 xw2 (by decide) q1_114 (Or.inl rfl)) ?_
  refine x_bok.cons (xs_aload_n d_B_answerRequest_59 rfl) ?_
  refine x_bok.cons (xs_invV d_B_answerRequest_60 xc4 sn_J_write is_J_write ⟨q4_12, q2_179, q2_180, q1_7⟩ (by decide) (by decide) rfl) ?_
  refine x_bok.cons (xs_aload_n d_B_answerRequest_63 rfl) ?_
  refine x_bok.cons (xs_gets d_B_answerRequest_64 (List.mem_of_getElem? (i := 5) rfl) q4_13 (Or.inl rfl)) ?_
  refine x_bok.cons (xs_aload_n d_B_answerRequest_67 rfl) ?_
  refine x_bok.cons (xs_aload_n d_B_answerRequest_68 rfl) ?_
  refine x_bok.cons (xs_invV d_B_answerRequest_69 xc6 sn_E_answer is_E_answer ⟨q4_7, q4_8, q4_9, q1_21⟩ (by decide) (by decide) rfl) ?_
  refine x_bok.cons (xs_invV d_B_answerRequest_72 xc2 sn_B_reply is_B_reply ⟨q4_15, q4_17, (x_sel (x_p1 (List.mem_of_getElem? (i := 10) rfl))), q1_6⟩ (by decide) (by decide) rfl) ?_
  refine x_bok.cons (xs_pop d_B_answerRequest_75) ?_
  refine x_bok.cons (xs_vret d_B_answerRequest_76 rfl) ?_
  exact x_bok.nil
set_option maxRecDepth 100000 in
theorem mn_B_answerRequest : x_bmn b_B_answerRequest := by
  unfold b_B_answerRequest
  refine x_bmn.cons (xm_aload) ?_
  refine x_bmn.cons (xm_push) ?_
  refine x_bmn.cons (xm_aload) ?_
  refine x_bmn.cons (xm_invV ym_B_find) ?_
  refine x_bmn.cons (xm_astore) ?_
  refine x_bmn.cons (xm_aload) ?_
  refine x_bmn.cons (xm_ifnonnull) ?_
  refine x_bmn.cons (xm_aload) ?_
  refine x_bmn.cons (xm_get) ?_
  refine x_bmn.cons (xm_push) ?_
  refine x_bmn.cons (xm_invV ym_J_hasRoomFor) ?_
  refine x_bmn.cons (xm_if) ?_
  refine x_bmn.cons (xm_vret) ?_
  refine x_bmn.cons (xm_new) ?_
  refine x_bmn.cons (xm_dup) ?_
  refine x_bmn.cons (xm_push) ?_
  refine x_bmn.cons (xm_aload) ?_
  refine x_bmn.cons (xm_invV ym_G_machine) ?_
  refine x_bmn.cons (xm_aload) ?_
  refine x_bmn.cons (xm_invV ym_G_trace) ?_
  refine x_bmn.cons (xm_aload) ?_
  refine x_bmn.cons (xm_invV ym_G_account) ?_
  refine x_bmn.cons (xm_aload) ?_
  refine x_bmn.cons (xm_invV ym_G_amount) ?_
  refine x_bmn.cons (xm_aload) ?_
  refine x_bmn.cons (xm_aload) ?_
  refine x_bmn.cons (xm_invV ym_B_decide) ?_
  refine x_bmn.cons (xm_invI ym_E_init) ?_
  refine x_bmn.cons (xm_astore) ?_
  refine x_bmn.cons (xm_aload) ?_
  refine x_bmn.cons (xm_get) ?_
  refine x_bmn.cons (xm_aload) ?_
  refine x_bmn.cons (xm_invV ym_J_write) ?_
  refine x_bmn.cons (xm_aload) ?_
  refine x_bmn.cons (xm_push) ?_
  refine x_bmn.cons (xm_aload) ?_
  refine x_bmn.cons (xm_aload) ?_
  refine x_bmn.cons (xm_invV ym_E_answer) ?_
  refine x_bmn.cons (xm_invV ym_B_reply) ?_
  refine x_bmn.cons (xm_pop) ?_
  refine x_bmn.cons (xm_vret) ?_
  exact x_bmn.nil
theorem is_B_answerRequest : x_Is y_B_answerRequest m_B_answerRequest := x_is_code q3_197
def Y_B_answerRequest : XMeth := x_do 3 b_B_answerRequest
theorem sn_B_answerRequest : x_Snd y_B_answerRequest m_B_answerRequest Y_B_answerRequest := x_snd_of (by decide) rfl rfl is_B_answerRequest k_B_answerRequest
theorem ym_B_answerRequest : x_Ymn Y_B_answerRequest := x_ymn_of mn_B_answerRequest
/- CashLink$Bank.givenBack(LCashLink$Message;)LCashLink$Entry; -/
abbrev c_B_givenBack : ByteArray := prog_2_method_9_code
def y_B_givenBack : MethodName := ⟨"CashLink$Bank", "givenBack", "(LCashLink$Message;)LCashLink$Entry;"⟩
theorem d_B_givenBack_0 : decode c_B_givenBack 0 = .ok (.aload_n 0, 1) := by decide +kernel
theorem d_B_givenBack_1 : decode c_B_givenBack 1 = .ok (.bipush 6, 2) := by decide +kernel
theorem d_B_givenBack_3 : decode c_B_givenBack 3 = .ok (.aload_n 1, 1) := by decide +kernel
theorem d_B_givenBack_4 : decode c_B_givenBack 4 = .ok (.invokevirtual 90, 3) := by decide +kernel
theorem d_B_givenBack_7 : decode c_B_givenBack 7 = .ok (.astore_n 2, 1) := by decide +kernel
theorem d_B_givenBack_8 : decode c_B_givenBack 8 = .ok (.aload_n 2, 1) := by decide +kernel
theorem d_B_givenBack_9 : decode c_B_givenBack 9 = .ok (.ifnull 14, 3) := by decide +kernel
theorem d_B_givenBack_12 : decode c_B_givenBack 12 = .ok (.aload_n 2, 1) := by decide +kernel
theorem d_B_givenBack_13 : decode c_B_givenBack 13 = .ok (.invokevirtual 58, 3) := by decide +kernel
theorem d_B_givenBack_16 : decode c_B_givenBack 16 = .ok (.ifCond .ne 7, 3) := by decide +kernel
theorem d_B_givenBack_19 : decode c_B_givenBack 19 = .ok (.iconst 1, 1) := by decide +kernel
theorem d_B_givenBack_20 : decode c_B_givenBack 20 = .ok (.goto 4, 3) := by decide +kernel
theorem d_B_givenBack_23 : decode c_B_givenBack 23 = .ok (.iconst 0, 1) := by decide +kernel
theorem d_B_givenBack_24 : decode c_B_givenBack 24 = .ok (.istore_n 3, 1) := by decide +kernel
theorem d_B_givenBack_25 : decode c_B_givenBack 25 = .ok (.iload_n 3, 1) := by decide +kernel
theorem d_B_givenBack_26 : decode c_B_givenBack 26 = .ok (.ifCond .eq 10, 3) := by decide +kernel
theorem d_B_givenBack_29 : decode c_B_givenBack 29 = .ok (.aload_n 2, 1) := by decide +kernel
theorem d_B_givenBack_30 : decode c_B_givenBack 30 = .ok (.invokevirtual 43, 3) := by decide +kernel
theorem d_B_givenBack_33 : decode c_B_givenBack 33 = .ok (.goto 4, 3) := by decide +kernel
theorem d_B_givenBack_36 : decode c_B_givenBack 36 = .ok (.iconst 0, 1) := by decide +kernel
theorem d_B_givenBack_37 : decode c_B_givenBack 37 = .ok (.istore 4, 2) := by decide +kernel
theorem d_B_givenBack_39 : decode c_B_givenBack 39 = .ok (.iload_n 3, 1) := by decide +kernel
theorem d_B_givenBack_40 : decode c_B_givenBack 40 = .ok (.ifCond .eq 10, 3) := by decide +kernel
theorem d_B_givenBack_43 : decode c_B_givenBack 43 = .ok (.aload_n 1, 1) := by decide +kernel
theorem d_B_givenBack_44 : decode c_B_givenBack 44 = .ok (.invokevirtual 105, 3) := by decide +kernel
theorem d_B_givenBack_47 : decode c_B_givenBack 47 = .ok (.goto 4, 3) := by decide +kernel
theorem d_B_givenBack_50 : decode c_B_givenBack 50 = .ok (.iconst 0, 1) := by decide +kernel
theorem d_B_givenBack_51 : decode c_B_givenBack 51 = .ok (.istore 5, 2) := by decide +kernel
theorem d_B_givenBack_53 : decode c_B_givenBack 53 = .ok (.new 44, 3) := by decide +kernel
theorem d_B_givenBack_56 : decode c_B_givenBack 56 = .ok (.dup, 1) := by decide +kernel
theorem d_B_givenBack_57 : decode c_B_givenBack 57 = .ok (.bipush 7, 2) := by decide +kernel
theorem d_B_givenBack_59 : decode c_B_givenBack 59 = .ok (.aload_n 1, 1) := by decide +kernel
theorem d_B_givenBack_60 : decode c_B_givenBack 60 = .ok (.invokevirtual 98, 3) := by decide +kernel
theorem d_B_givenBack_63 : decode c_B_givenBack 63 = .ok (.aload_n 1, 1) := by decide +kernel
theorem d_B_givenBack_64 : decode c_B_givenBack 64 = .ok (.invokevirtual 101, 3) := by decide +kernel
theorem d_B_givenBack_67 : decode c_B_givenBack 67 = .ok (.iload 4, 2) := by decide +kernel
theorem d_B_givenBack_69 : decode c_B_givenBack 69 = .ok (.iload 5, 2) := by decide +kernel
theorem d_B_givenBack_71 : decode c_B_givenBack 71 = .ok (.iconst 0, 1) := by decide +kernel
theorem d_B_givenBack_72 : decode c_B_givenBack 72 = .ok (.invokespecial 112, 3) := by decide +kernel
theorem d_B_givenBack_75 : decode c_B_givenBack 75 = .ok (.areturn, 1) := by decide +kernel
def m_B_givenBack : XM := ("CashLink$Bank", c_B_givenBack, 6, (some (.object "CashLink$Entry")), "givenBack", [], 5, 111)
def b_B_givenBack : XB := [(0, X_aload 0 1),
  (1, X_push (xv_i 6) 2),
  (3, X_aload 1 1),
  (4, X_invV 2 Y_B_find 2 []),
  (7, X_astore 2 1),
  (8, X_aload 2 1),
  (9, X_ifnull 23),
  (12, X_aload 2 1),
  (13, X_invV 6 Y_E_answer 0 []),
  (16, X_if (fun x => ¬ x = 0) 23),
  (19, X_push (xv_i 1) 1),
  (20, X_goto 24),
  (23, X_push (xv_i 0) 1),
  (24, X_istore 3 1),
  (25, X_iload 3 1),
  (26, X_if (fun x => x = 0) 36),
  (29, X_aload 2 1),
  (30, X_invV 6 Y_E_account 0 []),
  (33, X_goto 37),
  (36, X_push (xv_i 0) 1),
  (37, X_istore 4 2),
  (39, X_iload 3 1),
  (40, X_if (fun x => x = 0) 50),
  (43, X_aload 1 1),
  (44, X_invV 7 Y_G_amount 0 []),
  (47, X_goto 51),
  (50, X_push (xv_i 0) 1),
  (51, X_istore 5 2),
  (53, X_new 6 6 xD6),
  (56, X_dup),
  (57, X_push (xv_i 7) 2),
  (59, X_aload 1 1),
  (60, X_invV 7 Y_G_machine 0 []),
  (63, X_aload 1 1),
  (64, X_invV 7 Y_G_trace 0 []),
  (67, X_iload 4 2),
  (69, X_iload 5 2),
  (71, X_push (xv_i 0) 1),
  (72, X_invI Y_E_init 6 []),
  (75, X_aret)]
set_option maxRecDepth 100000 in
theorem k_B_givenBack : x_bok m_B_givenBack b_B_givenBack := by
  unfold b_B_givenBack
  refine x_bok.cons (xs_aload_n d_B_givenBack_0 rfl) ?_
  refine x_bok.cons (xs_bipush d_B_givenBack_1 (by decide)) ?_
  refine x_bok.cons (xs_aload_n d_B_givenBack_3 rfl) ?_
  refine x_bok.cons (xs_invV d_B_givenBack_4 xc2 sn_B_find is_B_find ⟨q3_198, q3_200, (x_sel (x_p1 (List.mem_of_getElem? (i := 8) rfl))), q1_6⟩ (by decide) (by decide) rfl) ?_
  refine x_bok.cons (xs_astore_n d_B_givenBack_7 rfl (by decide)) ?_
  refine x_bok.cons (xs_aload_n d_B_givenBack_8 rfl) ?_
  refine x_bok.cons (xs_ifnull d_B_givenBack_9 (by decide)) ?_
  refine x_bok.cons (xs_aload_n d_B_givenBack_12 rfl) ?_
  refine x_bok.cons (xs_invV d_B_givenBack_13 xc6 sn_E_answer is_E_answer ⟨q4_7, q4_8, q4_9, q1_21⟩ (by decide) (by decide) rfl) ?_
  refine x_bok.cons (xs_if_ne d_B_givenBack_16 (by decide)) ?_
  refine x_bok.cons (xs_iconst d_B_givenBack_19 (by decide)) ?_
  refine x_bok.cons (xs_goto d_B_givenBack_20 (by decide)) ?_
  refine x_bok.cons (xs_iconst d_B_givenBack_23 (by decide)) ?_
  refine x_bok.cons (xs_istore_n d_B_givenBack_24 rfl (by decide)) ?_
  refine x_bok.cons (xs_iload_n d_B_givenBack_25 rfl) ?_
  refine x_bok.cons (xs_if_eq d_B_givenBack_26 (by decide)) ?_
  refine x_bok.cons (xs_aload_n d_B_givenBack_29 rfl) ?_
  refine x_bok.cons (xs_invV d_B_givenBack_30 xc6 sn_E_account is_E_account ⟨q3_238, q3_239, q4_0, q1_21⟩ (by decide) (by decide) rfl) ?_
  refine x_bok.cons (xs_goto d_B_givenBack_33 (by decide)) ?_
  refine x_bok.cons (xs_iconst d_B_givenBack_36 (by decide)) ?_
  refine x_bok.cons (xs_istore d_B_givenBack_37 (by decide)) ?_
  refine x_bok.cons (xs_iload_n d_B_givenBack_39 rfl) ?_
  refine x_bok.cons (xs_if_eq d_B_givenBack_40 (by decide)) ?_
  refine x_bok.cons (xs_aload_n d_B_givenBack_43 rfl) ?_
  refine x_bok.cons (xs_invV d_B_givenBack_44 xc7 sn_G_amount is_G_amount ⟨q3_224, q3_225, q3_226, q1_27⟩ (by decide) (by decide) rfl) ?_
  refine x_bok.cons (xs_goto d_B_givenBack_47 (by decide)) ?_
  refine x_bok.cons (xs_iconst d_B_givenBack_50 (by decide)) ?_
  refine x_bok.cons (xs_istore d_B_givenBack_51 (by decide)) ?_
  refine x_bok.cons (xs_new d_B_givenBack_53 xc6 xw6 xt6 q3_219 q2_151 q1_21 xd6 rfl) ?_
  refine x_bok.cons (xs_dup d_B_givenBack_56) ?_
  refine x_bok.cons (xs_bipush d_B_givenBack_57 (by decide)) ?_
  refine x_bok.cons (xs_aload_n d_B_givenBack_59 rfl) ?_
  refine x_bok.cons (xs_invV d_B_givenBack_60 xc7 sn_G_machine is_G_machine ⟨q3_202, q3_203, q3_204, q1_27⟩ (by decide) (by decide) rfl) ?_
  refine x_bok.cons (xs_aload_n d_B_givenBack_63 rfl) ?_
  refine x_bok.cons (xs_invV d_B_givenBack_64 xc7 sn_G_trace is_G_trace ⟨q3_206, q3_207, q3_208, q1_27⟩ (by decide) (by decide) rfl) ?_
  refine x_bok.cons (xs_iload d_B_givenBack_67) ?_
  refine x_bok.cons (xs_iload d_B_givenBack_69) ?_
  refine x_bok.cons (xs_iconst d_B_givenBack_71 (by decide)) ?_
  refine x_bok.cons (xs_invIN d_B_givenBack_72 sn_E_init is_E_init ⟨q4_11, q2_153, q2_154, q1_21⟩ (by decide) rfl (by decide) rfl) ?_
  refine x_bok.cons (xs_aret d_B_givenBack_75 rfl (by first | exact Or.inl ⟨_, rfl⟩ | exact Or.inr ⟨_, rfl⟩)) ?_
  exact x_bok.nil
set_option maxRecDepth 100000 in
theorem mn_B_givenBack : x_bmn b_B_givenBack := by
  unfold b_B_givenBack
  refine x_bmn.cons (xm_aload) ?_
  refine x_bmn.cons (xm_push) ?_
  refine x_bmn.cons (xm_aload) ?_
  refine x_bmn.cons (xm_invV ym_B_find) ?_
  refine x_bmn.cons (xm_astore) ?_
  refine x_bmn.cons (xm_aload) ?_
  refine x_bmn.cons (xm_ifnull) ?_
  refine x_bmn.cons (xm_aload) ?_
  refine x_bmn.cons (xm_invV ym_E_answer) ?_
  refine x_bmn.cons (xm_if) ?_
  refine x_bmn.cons (xm_push) ?_
  refine x_bmn.cons (xm_goto) ?_
  refine x_bmn.cons (xm_push) ?_
  refine x_bmn.cons (xm_istore) ?_
  refine x_bmn.cons (xm_iload) ?_
  refine x_bmn.cons (xm_if) ?_
  refine x_bmn.cons (xm_aload) ?_
  refine x_bmn.cons (xm_invV ym_E_account) ?_
  refine x_bmn.cons (xm_goto) ?_
  refine x_bmn.cons (xm_push) ?_
  refine x_bmn.cons (xm_istore) ?_
  refine x_bmn.cons (xm_iload) ?_
  refine x_bmn.cons (xm_if) ?_
  refine x_bmn.cons (xm_aload) ?_
  refine x_bmn.cons (xm_invV ym_G_amount) ?_
  refine x_bmn.cons (xm_goto) ?_
  refine x_bmn.cons (xm_push) ?_
  refine x_bmn.cons (xm_istore) ?_
  refine x_bmn.cons (xm_new) ?_
  refine x_bmn.cons (xm_dup) ?_
  refine x_bmn.cons (xm_push) ?_
  refine x_bmn.cons (xm_aload) ?_
  refine x_bmn.cons (xm_invV ym_G_machine) ?_
  refine x_bmn.cons (xm_aload) ?_
  refine x_bmn.cons (xm_invV ym_G_trace) ?_
  refine x_bmn.cons (xm_iload) ?_
  refine x_bmn.cons (xm_iload) ?_
  refine x_bmn.cons (xm_push) ?_
  refine x_bmn.cons (xm_invI ym_E_init) ?_
  refine x_bmn.cons (xm_aret) ?_
  exact x_bmn.nil
theorem is_B_givenBack : x_Is y_B_givenBack m_B_givenBack := x_is_code q4_28
def Y_B_givenBack : XMeth := x_do 6 b_B_givenBack
theorem sn_B_givenBack : x_Snd y_B_givenBack m_B_givenBack Y_B_givenBack := x_snd_of (by decide) rfl rfl is_B_givenBack k_B_givenBack
theorem ym_B_givenBack : x_Ymn Y_B_givenBack := x_ymn_of mn_B_givenBack
/- CashLink$Bank.answerReversal(LCashLink$Message;)V -/
abbrev c_B_answerReversal : ByteArray := prog_2_method_8_code
def y_B_answerReversal : MethodName := ⟨"CashLink$Bank", "answerReversal", "(LCashLink$Message;)V"⟩
theorem d_B_answerReversal_0 : decode c_B_answerReversal 0 = .ok (.aload_n 0, 1) := by decide +kernel
theorem d_B_answerReversal_1 : decode c_B_answerReversal 1 = .ok (.bipush 7, 2) := by decide +kernel
theorem d_B_answerReversal_3 : decode c_B_answerReversal 3 = .ok (.aload_n 1, 1) := by decide +kernel
theorem d_B_answerReversal_4 : decode c_B_answerReversal 4 = .ok (.invokevirtual 90, 3) := by decide +kernel
theorem d_B_answerReversal_7 : decode c_B_answerReversal 7 = .ok (.ifnonnull 27, 3) := by decide +kernel
theorem d_B_answerReversal_10 : decode c_B_answerReversal 10 = .ok (.aload_n 0, 1) := by decide +kernel
theorem d_B_answerReversal_11 : decode c_B_answerReversal 11 = .ok (.getfield 16, 3) := by decide +kernel
theorem d_B_answerReversal_14 : decode c_B_answerReversal 14 = .ok (.iconst 1, 1) := by decide +kernel
theorem d_B_answerReversal_15 : decode c_B_answerReversal 15 = .ok (.invokevirtual 94, 3) := by decide +kernel
theorem d_B_answerReversal_18 : decode c_B_answerReversal 18 = .ok (.ifCond .ne 4, 3) := by decide +kernel
theorem d_B_answerReversal_21 : decode c_B_answerReversal 21 = .ok (.return_, 1) := by decide +kernel
theorem d_B_answerReversal_22 : decode c_B_answerReversal 22 = .ok (.aload_n 0, 1) := by decide +kernel
theorem d_B_answerReversal_23 : decode c_B_answerReversal 23 = .ok (.getfield 16, 3) := by decide +kernel
theorem d_B_answerReversal_26 : decode c_B_answerReversal 26 = .ok (.aload_n 0, 1) := by decide +kernel
theorem d_B_answerReversal_27 : decode c_B_answerReversal 27 = .ok (.aload_n 1, 1) := by decide +kernel
theorem d_B_answerReversal_28 : decode c_B_answerReversal 28 = .ok (.invokevirtual 130, 3) := by decide +kernel
theorem d_B_answerReversal_31 : decode c_B_answerReversal 31 = .ok (.invokevirtual 115, 3) := by decide +kernel
theorem d_B_answerReversal_34 : decode c_B_answerReversal 34 = .ok (.aload_n 0, 1) := by decide +kernel
theorem d_B_answerReversal_35 : decode c_B_answerReversal 35 = .ok (.getstatic 134, 3) := by decide +kernel
theorem d_B_answerReversal_38 : decode c_B_answerReversal 38 = .ok (.aload_n 1, 1) := by decide +kernel
theorem d_B_answerReversal_39 : decode c_B_answerReversal 39 = .ok (.iconst 0, 1) := by decide +kernel
theorem d_B_answerReversal_40 : decode c_B_answerReversal 40 = .ok (.invokevirtual 122, 3) := by decide +kernel
theorem d_B_answerReversal_43 : decode c_B_answerReversal 43 = .ok (.pop, 1) := by decide +kernel
theorem d_B_answerReversal_44 : decode c_B_answerReversal 44 = .ok (.return_, 1) := by decide +kernel
def m_B_answerReversal : XM := ("CashLink$Bank", c_B_answerReversal, 2, none, "answerReversal", [], 9, 206)
def b_B_answerReversal : XB := [(0, X_aload 0 1),
  (1, X_push (xv_i 7) 2),
  (3, X_aload 1 1),
  (4, X_invV 2 Y_B_find 2 []),
  (7, X_ifnonnull 34),
  (10, X_aload 0 1),
  (11, X_get 2 1),
  (14, X_push (xv_i 1) 1),
  (15, X_invV 4 Y_J_hasRoomFor 1 []),
  (18, X_if (fun x => ¬ x = 0) 22),
  (21, X_vret),
  (22, X_aload 0 1),
  (23, X_get 2 1),
  (26, X_aload 0 1),
  (27, X_aload 1 1),
  (28, X_invV 2 Y_B_givenBack 1 []),
  (31, X_invV 4 Y_J_write 1 []),
  (34, X_aload 0 1),
  (35, X_push (xv_r 50 3) 3),
  (38, X_aload 1 1),
  (39, X_push (xv_i 0) 1),
  (40, X_invV 2 Y_B_reply 3 []),
  (43, X_pop),
  (44, X_vret)]
set_option maxRecDepth 100000 in
theorem k_B_answerReversal : x_bok m_B_answerReversal b_B_answerReversal := by
  unfold b_B_answerReversal
  refine x_bok.cons (xs_aload_n d_B_answerReversal_0 rfl) ?_
  refine x_bok.cons (xs_bipush d_B_answerReversal_1 (by decide)) ?_
  refine x_bok.cons (xs_aload_n d_B_answerReversal_3 rfl) ?_
  refine x_bok.cons (xs_invV d_B_answerReversal_4 xc2 sn_B_find is_B_find ⟨q3_198, q3_200, (x_sel (x_p1 (List.mem_of_getElem? (i := 8) rfl))), q1_6⟩ (by decide) (by decide) rfl) ?_
  refine x_bok.cons (xs_ifnonnull d_B_answerReversal_7 (by decide)) ?_
  refine x_bok.cons (xs_aload_n d_B_answerReversal_10 rfl) ?_
  refine x_bok.cons (xs_get d_B_answerReversal_11 xc2 xw2 (by decide) q1_114 (Or.inl rfl)) ?_
  refine x_bok.cons (xs_iconst d_B_answerReversal_14 (by decide)) ?_
  refine x_bok.cons (xs_invV d_B_answerReversal_15 xc4 sn_J_hasRoomFor is_J_hasRoomFor ⟨q3_218, q2_130, q2_131, q1_7⟩ (by decide) (by decide) rfl) ?_
  refine x_bok.cons (xs_if_ne d_B_answerReversal_18 (by decide)) ?_
  refine x_bok.cons (xs_vret d_B_answerReversal_21 rfl) ?_
  refine x_bok.cons (xs_aload_n d_B_answerReversal_22 rfl) ?_
  refine x_bok.cons (xs_get d_B_answerReversal_23 xc2 xw2 (by decide) q1_114 (Or.inl rfl)) ?_
  refine x_bok.cons (xs_aload_n d_B_answerReversal_26 rfl) ?_
  refine x_bok.cons (xs_aload_n d_B_answerReversal_27 rfl) ?_
  refine x_bok.cons (xs_invV d_B_answerReversal_28 xc2 sn_B_givenBack is_B_givenBack ⟨q4_25, q4_27, (x_sel (x_p1 (List.mem_of_getElem? (i := 12) rfl))), q1_6⟩ (by decide) (by decide) rfl) ?_
  refine x_bok.cons (xs_invV d_B_answerReversal_31 xc4 sn_J_write is_J_write ⟨q4_12, q2_179, q2_180, q1_7⟩ (by decide) (by decide) rfl) ?_
  refine x_bok.cons (xs_aload_n d_B_answerReversal_34 rfl) ?_
  refine x_bok.cons (xs_gets d_B_answerReversal_35 (List.mem_of_getElem? (i := 7) rfl) q4_29 (Or.inl rfl)) ?_
  refine x_bok.cons (xs_aload_n d_B_answerReversal_38 rfl) ?_
  refine x_bok.cons (xs_iconst d_B_answerReversal_39 (by decide)) ?_
  refine x_bok.cons (xs_invV d_B_answerReversal_40 xc2 sn_B_reply is_B_reply ⟨q4_15, q4_17, (x_sel (x_p1 (List.mem_of_getElem? (i := 10) rfl))), q1_6⟩ (by decide) (by decide) rfl) ?_
  refine x_bok.cons (xs_pop d_B_answerReversal_43) ?_
  refine x_bok.cons (xs_vret d_B_answerReversal_44 rfl) ?_
  exact x_bok.nil
set_option maxRecDepth 100000 in
theorem mn_B_answerReversal : x_bmn b_B_answerReversal := by
  unfold b_B_answerReversal
  refine x_bmn.cons (xm_aload) ?_
  refine x_bmn.cons (xm_push) ?_
  refine x_bmn.cons (xm_aload) ?_
  refine x_bmn.cons (xm_invV ym_B_find) ?_
  refine x_bmn.cons (xm_ifnonnull) ?_
  refine x_bmn.cons (xm_aload) ?_
  refine x_bmn.cons (xm_get) ?_
  refine x_bmn.cons (xm_push) ?_
  refine x_bmn.cons (xm_invV ym_J_hasRoomFor) ?_
  refine x_bmn.cons (xm_if) ?_
  refine x_bmn.cons (xm_vret) ?_
  refine x_bmn.cons (xm_aload) ?_
  refine x_bmn.cons (xm_get) ?_
  refine x_bmn.cons (xm_aload) ?_
  refine x_bmn.cons (xm_aload) ?_
  refine x_bmn.cons (xm_invV ym_B_givenBack) ?_
  refine x_bmn.cons (xm_invV ym_J_write) ?_
  refine x_bmn.cons (xm_aload) ?_
  refine x_bmn.cons (xm_push) ?_
  refine x_bmn.cons (xm_aload) ?_
  refine x_bmn.cons (xm_push) ?_
  refine x_bmn.cons (xm_invV ym_B_reply) ?_
  refine x_bmn.cons (xm_pop) ?_
  refine x_bmn.cons (xm_vret) ?_
  exact x_bmn.nil
theorem is_B_answerReversal : x_Is y_B_answerReversal m_B_answerReversal := x_is_code q4_24
def Y_B_answerReversal : XMeth := x_do 2 b_B_answerReversal
theorem sn_B_answerReversal : x_Snd y_B_answerReversal m_B_answerReversal Y_B_answerReversal := x_snd_of (by decide) rfl rfl is_B_answerReversal k_B_answerReversal
theorem ym_B_answerReversal : x_Ymn Y_B_answerReversal := x_ymn_of mn_B_answerReversal
/- CashLink$Entry.machine()I -/
abbrev c_E_machine : ByteArray := prog_4_method_8_code
def y_E_machine : MethodName := ⟨"CashLink$Entry", "machine", "()I"⟩
theorem d_E_machine_0 : decode c_E_machine 0 = .ok (.aload_n 0, 1) := by decide +kernel
theorem d_E_machine_1 : decode c_E_machine 1 = .ok (.getfield 13, 3) := by decide +kernel
theorem d_E_machine_4 : decode c_E_machine 4 = .ok (.ireturn, 1) := by decide +kernel
def m_E_machine : XM := ("CashLink$Entry", c_E_machine, 1, (some .int), "machine", [], 0, 0)
def b_E_machine : XB := [(0, X_aload 0 1),
  (1, X_get 6 1),
  (4, X_iret)]
set_option maxRecDepth 100000 in
theorem k_E_machine : x_bok m_E_machine b_E_machine := by
  unfold b_E_machine
  refine x_bok.cons (xs_aload_n d_E_machine_0 rfl) ?_
  refine x_bok.cons (xs_get d_E_machine_1 xc6 xw6 (by decide) q2_160 (Or.inl rfl)) ?_
  refine x_bok.cons (xs_iret d_E_machine_4 rfl) ?_
  exact x_bok.nil
set_option maxRecDepth 100000 in
theorem mn_E_machine : x_bmn b_E_machine := by
  unfold b_E_machine
  refine x_bmn.cons (xm_aload) ?_
  refine x_bmn.cons (xm_get) ?_
  refine x_bmn.cons (xm_iret) ?_
  exact x_bmn.nil
theorem is_E_machine : x_Is y_E_machine m_E_machine := x_is_code q4_42
def Y_E_machine : XMeth := x_do 1 b_E_machine
theorem sn_E_machine : x_Snd y_E_machine m_E_machine Y_E_machine := x_snd_of (by decide) rfl rfl is_E_machine k_E_machine
theorem ym_E_machine : x_Ymn Y_E_machine := x_ymn_of mn_E_machine
/- CashLink$Bank.totalOf(II)I -/
abbrev c_B_totalOf : ByteArray := prog_2_method_11_code
def y_B_totalOf : MethodName := ⟨"CashLink$Bank", "totalOf", "(II)I"⟩
theorem d_B_totalOf_0 : decode c_B_totalOf 0 = .ok (.iconst 0, 1) := by decide +kernel
theorem d_B_totalOf_1 : decode c_B_totalOf 1 = .ok (.istore_n 3, 1) := by decide +kernel
theorem d_B_totalOf_2 : decode c_B_totalOf 2 = .ok (.iconst 0, 1) := by decide +kernel
theorem d_B_totalOf_3 : decode c_B_totalOf 3 = .ok (.istore 4, 2) := by decide +kernel
theorem d_B_totalOf_5 : decode c_B_totalOf 5 = .ok (.iload 4, 2) := by decide +kernel
theorem d_B_totalOf_7 : decode c_B_totalOf 7 = .ok (.aload_n 0, 1) := by decide +kernel
theorem d_B_totalOf_8 : decode c_B_totalOf 8 = .ok (.getfield 16, 3) := by decide +kernel
theorem d_B_totalOf_11 : decode c_B_totalOf 11 = .ok (.invokevirtual 31, 3) := by decide +kernel
theorem d_B_totalOf_14 : decode c_B_totalOf 14 = .ok (.if_icmp .ge 46, 3) := by decide +kernel
theorem d_B_totalOf_17 : decode c_B_totalOf 17 = .ok (.aload_n 0, 1) := by decide +kernel
theorem d_B_totalOf_18 : decode c_B_totalOf 18 = .ok (.getfield 16, 3) := by decide +kernel
theorem d_B_totalOf_21 : decode c_B_totalOf 21 = .ok (.iload 4, 2) := by decide +kernel
theorem d_B_totalOf_23 : decode c_B_totalOf 23 = .ok (.invokevirtual 39, 3) := by decide +kernel
theorem d_B_totalOf_26 : decode c_B_totalOf 26 = .ok (.astore 5, 2) := by decide +kernel
theorem d_B_totalOf_28 : decode c_B_totalOf 28 = .ok (.aload 5, 2) := by decide +kernel
theorem d_B_totalOf_30 : decode c_B_totalOf 30 = .ok (.invokevirtual 147, 3) := by decide +kernel
theorem d_B_totalOf_33 : decode c_B_totalOf 33 = .ok (.iload_n 1, 1) := by decide +kernel
theorem d_B_totalOf_34 : decode c_B_totalOf 34 = .ok (.if_icmp .ne 20, 3) := by decide +kernel
theorem d_B_totalOf_37 : decode c_B_totalOf 37 = .ok (.aload 5, 2) := by decide +kernel
theorem d_B_totalOf_39 : decode c_B_totalOf 39 = .ok (.invokevirtual 148, 3) := by decide +kernel
theorem d_B_totalOf_42 : decode c_B_totalOf 42 = .ok (.iload_n 2, 1) := by decide +kernel
theorem d_B_totalOf_43 : decode c_B_totalOf 43 = .ok (.if_icmp .gt 11, 3) := by decide +kernel
theorem d_B_totalOf_46 : decode c_B_totalOf 46 = .ok (.iload_n 3, 1) := by decide +kernel
theorem d_B_totalOf_47 : decode c_B_totalOf 47 = .ok (.aload 5, 2) := by decide +kernel
theorem d_B_totalOf_49 : decode c_B_totalOf 49 = .ok (.invokestatic 48, 3) := by decide +kernel
theorem d_B_totalOf_52 : decode c_B_totalOf 52 = .ok (.isub, 1) := by decide +kernel
theorem d_B_totalOf_53 : decode c_B_totalOf 53 = .ok (.istore_n 3, 1) := by decide +kernel
theorem d_B_totalOf_54 : decode c_B_totalOf 54 = .ok (.iinc 4 1, 3) := by decide +kernel
theorem d_B_totalOf_57 : decode c_B_totalOf 57 = .ok (.goto (-52), 3) := by decide +kernel
theorem d_B_totalOf_60 : decode c_B_totalOf 60 = .ok (.iload_n 3, 1) := by decide +kernel
theorem d_B_totalOf_61 : decode c_B_totalOf 61 = .ok (.ireturn, 1) := by decide +kernel
def m_B_totalOf : XM := ("CashLink$Bank", c_B_totalOf, 6, (some .int), "totalOf", [], 4, 85)
def b_B_totalOf : XB := [(0, X_push (xv_i 0) 1),
  (1, X_istore 3 1),
  (2, X_push (xv_i 0) 1),
  (3, X_istore 4 2),
  (5, X_iload 4 2),
  (7, X_aload 0 1),
  (8, X_get 2 1),
  (11, X_invV 4 Y_J_size 0 []),
  (14, X_icmp (fun x y => y ≤ x) 60),
  (17, X_aload 0 1),
  (18, X_get 2 1),
  (21, X_iload 4 2),
  (23, X_invV 4 Y_J_entry 1 []),
  (26, X_astore 5 2),
  (28, X_aload 5 2),
  (30, X_invV 6 Y_E_machine 0 []),
  (33, X_iload 1 1),
  (34, X_icmp (fun x y => ¬ x = y) 54),
  (37, X_aload 5 2),
  (39, X_invV 6 Y_E_trace 0 []),
  (42, X_iload 2 1),
  (43, X_icmp (fun x y => y < x) 54),
  (46, X_iload 3 1),
  (47, X_aload 5 2),
  (49, X_invS Y_B_changeBy 1 []),
  (52, X_bin (fun x y => x - y)),
  (53, X_istore 3 1),
  (54, X_iinc 4 1),
  (57, X_goto 5),
  (60, X_iload 3 1),
  (61, X_iret)]
set_option maxRecDepth 100000 in
theorem k_B_totalOf : x_bok m_B_totalOf b_B_totalOf := by
  unfold b_B_totalOf
  refine x_bok.cons (xs_iconst d_B_totalOf_0 (by decide)) ?_
  refine x_bok.cons (xs_istore_n d_B_totalOf_1 rfl (by decide)) ?_
  refine x_bok.cons (xs_iconst d_B_totalOf_2 (by decide)) ?_
  refine x_bok.cons (xs_istore d_B_totalOf_3 (by decide)) ?_
  refine x_bok.cons (xs_iload d_B_totalOf_5) ?_
  refine x_bok.cons (xs_aload_n d_B_totalOf_7 rfl) ?_
  refine x_bok.cons (xs_get d_B_totalOf_8 xc2 xw2 (by decide) q1_114 (Or.inl rfl)) ?_
  refine x_bok.cons (xs_invV d_B_totalOf_11 xc4 sn_J_size is_J_size ⟨q3_236, q3_131, q3_132, q1_7⟩ (by decide) (by decide) rfl) ?_
  refine x_bok.cons (xs_icmp_ge d_B_totalOf_14 (by decide)) ?_
  refine x_bok.cons (xs_aload_n d_B_totalOf_17 rfl) ?_
  refine x_bok.cons (xs_get d_B_totalOf_18 xc2 xw2 (by decide) q1_114 (Or.inl rfl)) ?_
  refine x_bok.cons (xs_iload d_B_totalOf_21) ?_
  refine x_bok.cons (xs_invV d_B_totalOf_23 xc4 sn_J_entry is_J_entry ⟨q3_237, q3_135, q3_136, q1_7⟩ (by decide) (by decide) rfl) ?_
  refine x_bok.cons (xs_astore d_B_totalOf_26 (by decide)) ?_
  refine x_bok.cons (xs_aload d_B_totalOf_28) ?_
  refine x_bok.cons (xs_invV d_B_totalOf_30 xc6 sn_E_machine is_E_machine ⟨q4_39, q4_40, q4_41, q1_21⟩ (by decide) (by decide) rfl) ?_
  refine x_bok.cons (xs_iload_n d_B_totalOf_33 rfl) ?_
  refine x_bok.cons (xs_icmp_ne d_B_totalOf_34 (by decide)) ?_
  refine x_bok.cons (xs_aload d_B_totalOf_37) ?_
  refine x_bok.cons (xs_invV d_B_totalOf_39 xc6 sn_E_trace is_E_trace ⟨q4_43, q3_104, q3_105, q1_21⟩ (by decide) (by decide) rfl) ?_
  refine x_bok.cons (xs_iload_n d_B_totalOf_42 rfl) ?_
  refine x_bok.cons (xs_icmp_gt d_B_totalOf_43 (by decide)) ?_
  refine x_bok.cons (xs_iload_n d_B_totalOf_46 rfl) ?_
  refine x_bok.cons (xs_aload d_B_totalOf_47) ?_
  refine x_bok.cons (xs_invS d_B_totalOf_49 sn_B_changeBy is_B_changeBy ⟨q4_2, q4_3, q1_6⟩ (by decide) (by decide) rfl) ?_
  refine x_bok.cons (xs_isub d_B_totalOf_52) ?_
  refine x_bok.cons (xs_istore_n d_B_totalOf_53 rfl (by decide)) ?_
  refine x_bok.cons (xs_iinc d_B_totalOf_54 (by decide) (by decide)) ?_
  refine x_bok.cons (xs_goto d_B_totalOf_57 (by decide)) ?_
  refine x_bok.cons (xs_iload_n d_B_totalOf_60 rfl) ?_
  refine x_bok.cons (xs_iret d_B_totalOf_61 rfl) ?_
  exact x_bok.nil
set_option maxRecDepth 100000 in
theorem mn_B_totalOf : x_bmn b_B_totalOf := by
  unfold b_B_totalOf
  refine x_bmn.cons (xm_push) ?_
  refine x_bmn.cons (xm_istore) ?_
  refine x_bmn.cons (xm_push) ?_
  refine x_bmn.cons (xm_istore) ?_
  refine x_bmn.cons (xm_iload) ?_
  refine x_bmn.cons (xm_aload) ?_
  refine x_bmn.cons (xm_get) ?_
  refine x_bmn.cons (xm_invV ym_J_size) ?_
  refine x_bmn.cons (xm_icmp) ?_
  refine x_bmn.cons (xm_aload) ?_
  refine x_bmn.cons (xm_get) ?_
  refine x_bmn.cons (xm_iload) ?_
  refine x_bmn.cons (xm_invV ym_J_entry) ?_
  refine x_bmn.cons (xm_astore) ?_
  refine x_bmn.cons (xm_aload) ?_
  refine x_bmn.cons (xm_invV ym_E_machine) ?_
  refine x_bmn.cons (xm_iload) ?_
  refine x_bmn.cons (xm_icmp) ?_
  refine x_bmn.cons (xm_aload) ?_
  refine x_bmn.cons (xm_invV ym_E_trace) ?_
  refine x_bmn.cons (xm_iload) ?_
  refine x_bmn.cons (xm_icmp) ?_
  refine x_bmn.cons (xm_iload) ?_
  refine x_bmn.cons (xm_aload) ?_
  refine x_bmn.cons (xm_invS ym_B_changeBy) ?_
  refine x_bmn.cons (xm_bin) ?_
  refine x_bmn.cons (xm_istore) ?_
  refine x_bmn.cons (xm_iinc) ?_
  refine x_bmn.cons (xm_goto) ?_
  refine x_bmn.cons (xm_iload) ?_
  refine x_bmn.cons (xm_iret) ?_
  exact x_bmn.nil
theorem is_B_totalOf : x_Is y_B_totalOf m_B_totalOf := x_is_code q4_38
def Y_B_totalOf : XMeth := x_do 6 b_B_totalOf
theorem sn_B_totalOf : x_Snd y_B_totalOf m_B_totalOf Y_B_totalOf := x_snd_of (by decide) rfl rfl is_B_totalOf k_B_totalOf
theorem ym_B_totalOf : x_Ymn Y_B_totalOf := x_ymn_of mn_B_totalOf
/- CashLink$Bank.answerTotals(LCashLink$Message;)V -/
abbrev c_B_answerTotals : ByteArray := prog_2_method_10_code
def y_B_answerTotals : MethodName := ⟨"CashLink$Bank", "answerTotals", "(LCashLink$Message;)V"⟩
theorem d_B_answerTotals_0 : decode c_B_answerTotals 0 = .ok (.aload_n 0, 1) := by decide +kernel
theorem d_B_answerTotals_1 : decode c_B_answerTotals 1 = .ok (.aload_n 1, 1) := by decide +kernel
theorem d_B_answerTotals_2 : decode c_B_answerTotals 2 = .ok (.invokevirtual 98, 3) := by decide +kernel
theorem d_B_answerTotals_5 : decode c_B_answerTotals 5 = .ok (.aload_n 1, 1) := by decide +kernel
theorem d_B_answerTotals_6 : decode c_B_answerTotals 6 = .ok (.invokevirtual 101, 3) := by decide +kernel
theorem d_B_answerTotals_9 : decode c_B_answerTotals 9 = .ok (.invokevirtual 137, 3) := by decide +kernel
theorem d_B_answerTotals_12 : decode c_B_answerTotals 12 = .ok (.aload_n 1, 1) := by decide +kernel
theorem d_B_answerTotals_13 : decode c_B_answerTotals 13 = .ok (.invokevirtual 105, 3) := by decide +kernel
theorem d_B_answerTotals_16 : decode c_B_answerTotals 16 = .ok (.if_icmp .ne 7, 3) := by decide +kernel
theorem d_B_answerTotals_19 : decode c_B_answerTotals 19 = .ok (.iconst 1, 1) := by decide +kernel
theorem d_B_answerTotals_20 : decode c_B_answerTotals 20 = .ok (.goto 4, 3) := by decide +kernel
theorem d_B_answerTotals_23 : decode c_B_answerTotals 23 = .ok (.iconst 0, 1) := by decide +kernel
theorem d_B_answerTotals_24 : decode c_B_answerTotals 24 = .ok (.istore_n 2, 1) := by decide +kernel
theorem d_B_answerTotals_25 : decode c_B_answerTotals 25 = .ok (.aload_n 0, 1) := by decide +kernel
theorem d_B_answerTotals_26 : decode c_B_answerTotals 26 = .ok (.getstatic 141, 3) := by decide +kernel
theorem d_B_answerTotals_29 : decode c_B_answerTotals 29 = .ok (.aload_n 1, 1) := by decide +kernel
theorem d_B_answerTotals_30 : decode c_B_answerTotals 30 = .ok (.iload_n 2, 1) := by decide +kernel
theorem d_B_answerTotals_31 : decode c_B_answerTotals 31 = .ok (.ifCond .eq 7, 3) := by decide +kernel
theorem d_B_answerTotals_34 : decode c_B_answerTotals 34 = .ok (.iconst 0, 1) := by decide +kernel
theorem d_B_answerTotals_35 : decode c_B_answerTotals 35 = .ok (.goto 4, 3) := by decide +kernel
theorem d_B_answerTotals_38 : decode c_B_answerTotals 38 = .ok (.iconst 4, 1) := by decide +kernel
theorem d_B_answerTotals_39 : decode c_B_answerTotals 39 = .ok (.invokevirtual 122, 3) := by decide +kernel
theorem d_B_answerTotals_42 : decode c_B_answerTotals 42 = .ok (.istore_n 3, 1) := by decide +kernel
theorem d_B_answerTotals_43 : decode c_B_answerTotals 43 = .ok (.iload_n 3, 1) := by decide +kernel
theorem d_B_answerTotals_44 : decode c_B_answerTotals 44 = .ok (.ifCond .eq 17, 3) := by decide +kernel
theorem d_B_answerTotals_47 : decode c_B_answerTotals 47 = .ok (.iload_n 2, 1) := by decide +kernel
theorem d_B_answerTotals_48 : decode c_B_answerTotals 48 = .ok (.ifCond .ne 13, 3) := by decide +kernel
theorem d_B_answerTotals_51 : decode c_B_answerTotals 51 = .ok (.aload_n 0, 1) := by decide +kernel
theorem d_B_answerTotals_52 : decode c_B_answerTotals 52 = .ok (.dup, 1) := by decide +kernel
theorem d_B_answerTotals_53 : decode c_B_answerTotals 53 = .ok (.getfield 144, 3) := by decide +kernel
theorem d_B_answerTotals_56 : decode c_B_answerTotals 56 = .ok (.iconst 1, 1) := by decide +kernel
theorem d_B_answerTotals_57 : decode c_B_answerTotals 57 = .ok (.iadd, 1) := by decide +kernel
theorem d_B_answerTotals_58 : decode c_B_answerTotals 58 = .ok (.putfield 144, 3) := by decide +kernel
theorem d_B_answerTotals_61 : decode c_B_answerTotals 61 = .ok (.return_, 1) := by decide +kernel
def m_B_answerTotals : XM := ("CashLink$Bank", c_B_answerTotals, 4, none, "answerTotals", [], 9, 206)
def b_B_answerTotals : XB := [(0, X_aload 0 1),
  (1, X_aload 1 1),
  (2, X_invV 7 Y_G_machine 0 []),
  (5, X_aload 1 1),
  (6, X_invV 7 Y_G_trace 0 []),
  (9, X_invV 2 Y_B_totalOf 2 []),
  (12, X_aload 1 1),
  (13, X_invV 7 Y_G_amount 0 []),
  (16, X_icmp (fun x y => ¬ x = y) 23),
  (19, X_push (xv_i 1) 1),
  (20, X_goto 24),
  (23, X_push (xv_i 0) 1),
  (24, X_istore 2 1),
  (25, X_aload 0 1),
  (26, X_push (xv_r 50 5) 3),
  (29, X_aload 1 1),
  (30, X_iload 2 1),
  (31, X_if (fun x => x = 0) 38),
  (34, X_push (xv_i 0) 1),
  (35, X_goto 39),
  (38, X_push (xv_i 4) 1),
  (39, X_invV 2 Y_B_reply 3 []),
  (42, X_istore 3 1),
  (43, X_iload 3 1),
  (44, X_if (fun x => x = 0) 61),
  (47, X_iload 2 1),
  (48, X_if (fun x => ¬ x = 0) 61),
  (51, X_aload 0 1),
  (52, X_dup),
  (53, X_get 2 4),
  (56, X_push (xv_i 1) 1),
  (57, X_bin (fun x y => x + y)),
  (58, X_put x_tI 2 4),
  (61, X_vret)]
set_option maxRecDepth 100000 in
theorem k_B_answerTotals : x_bok m_B_answerTotals b_B_answerTotals := by
  unfold b_B_answerTotals
  refine x_bok.cons (xs_aload_n d_B_answerTotals_0 rfl) ?_
  refine x_bok.cons (xs_aload_n d_B_answerTotals_1 rfl) ?_
  refine x_bok.cons (xs_invV d_B_answerTotals_2 xc7 sn_G_machine is_G_machine ⟨q3_202, q3_203, q3_204, q1_27⟩ (by decide) (by decide) rfl) ?_
  refine x_bok.cons (xs_aload_n d_B_answerTotals_5 rfl) ?_
  refine x_bok.cons (xs_invV d_B_answerTotals_6 xc7 sn_G_trace is_G_trace ⟨q3_206, q3_207, q3_208, q1_27⟩ (by decide) (by decide) rfl) ?_
  refine x_bok.cons (xs_invV d_B_answerTotals_9 xc2 sn_B_totalOf is_B_totalOf ⟨q4_35, q4_37, (x_sel (x_p1 (List.mem_of_getElem? (i := 14) rfl))), q1_6⟩ (by decide) (by decide) rfl) ?_
  refine x_bok.cons (xs_aload_n d_B_answerTotals_12 rfl) ?_
  refine x_bok.cons (xs_invV d_B_answerTotals_13 xc7 sn_G_amount is_G_amount ⟨q3_224, q3_225, q3_226, q1_27⟩ (by decide) (by decide) rfl) ?_
  refine x_bok.cons (xs_icmp_ne d_B_answerTotals_16 (by decide)) ?_
  refine x_bok.cons (xs_iconst d_B_answerTotals_19 (by decide)) ?_
  refine x_bok.cons (xs_goto d_B_answerTotals_20 (by decide)) ?_
  refine x_bok.cons (xs_iconst d_B_answerTotals_23 (by decide)) ?_
  refine x_bok.cons (xs_istore_n d_B_answerTotals_24 rfl (by decide)) ?_
  refine x_bok.cons (xs_aload_n d_B_answerTotals_25 rfl) ?_
  refine x_bok.cons (xs_gets d_B_answerTotals_26 (List.mem_of_getElem? (i := 9) rfl) q4_44 (Or.inl rfl)) ?_
  refine x_bok.cons (xs_aload_n d_B_answerTotals_29 rfl) ?_
  refine x_bok.cons (xs_iload_n d_B_answerTotals_30 rfl) ?_
  refine x_bok.cons (xs_if_eq d_B_answerTotals_31 (by decide)) ?_
  refine x_bok.cons (xs_iconst d_B_answerTotals_34 (by decide)) ?_
  refine x_bok.cons (xs_goto d_B_answerTotals_35 (by decide)) ?_
  refine x_bok.cons (xs_iconst d_B_answerTotals_38 (by decide)) ?_
  refine x_bok.cons (xs_invV d_B_answerTotals_39 xc2 sn_B_reply is_B_reply ⟨q4_15, q4_17, (x_sel (x_p1 (List.mem_of_getElem? (i := 10) rfl))), q1_6⟩ (by decide) (by decide) rfl) ?_
  refine x_bok.cons (xs_istore_n d_B_answerTotals_42 rfl (by decide)) ?_
  refine x_bok.cons (xs_iload_n d_B_answerTotals_43 rfl) ?_
  refine x_bok.cons (xs_if_eq d_B_answerTotals_44 (by decide)) ?_
  refine x_bok.cons (xs_iload_n d_B_answerTotals_47 rfl) ?_
  refine x_bok.cons (xs_if_ne d_B_answerTotals_48 (by decide)) ?_
  refine x_bok.cons (xs_aload_n d_B_answerTotals_51 rfl) ?_
  refine x_bok.cons (xs_dup d_B_answerTotals_52) ?_
  refine x_bok.cons (xs_get d_B_answerTotals_53 xc2 xw2 (by decide) q1_118 (Or.inl rfl)) ?_
  refine x_bok.cons (xs_iconst d_B_answerTotals_56 (by decide)) ?_
  refine x_bok.cons (xs_iadd d_B_answerTotals_57) ?_
  refine x_bok.cons (xs_put d_B_answerTotals_58 xc2 xw2 xt2 xn2 (by decide) q1_118 (Or.inl rfl) rfl rfl x_fitI) ?_
  refine x_bok.cons (xs_vret d_B_answerTotals_61 rfl) ?_
  exact x_bok.nil
set_option maxRecDepth 100000 in
theorem mn_B_answerTotals : x_bmn b_B_answerTotals := by
  unfold b_B_answerTotals
  refine x_bmn.cons (xm_aload) ?_
  refine x_bmn.cons (xm_aload) ?_
  refine x_bmn.cons (xm_invV ym_G_machine) ?_
  refine x_bmn.cons (xm_aload) ?_
  refine x_bmn.cons (xm_invV ym_G_trace) ?_
  refine x_bmn.cons (xm_invV ym_B_totalOf) ?_
  refine x_bmn.cons (xm_aload) ?_
  refine x_bmn.cons (xm_invV ym_G_amount) ?_
  refine x_bmn.cons (xm_icmp) ?_
  refine x_bmn.cons (xm_push) ?_
  refine x_bmn.cons (xm_goto) ?_
  refine x_bmn.cons (xm_push) ?_
  refine x_bmn.cons (xm_istore) ?_
  refine x_bmn.cons (xm_aload) ?_
  refine x_bmn.cons (xm_push) ?_
  refine x_bmn.cons (xm_aload) ?_
  refine x_bmn.cons (xm_iload) ?_
  refine x_bmn.cons (xm_if) ?_
  refine x_bmn.cons (xm_push) ?_
  refine x_bmn.cons (xm_goto) ?_
  refine x_bmn.cons (xm_push) ?_
  refine x_bmn.cons (xm_invV ym_B_reply) ?_
  refine x_bmn.cons (xm_istore) ?_
  refine x_bmn.cons (xm_iload) ?_
  refine x_bmn.cons (xm_if) ?_
  refine x_bmn.cons (xm_iload) ?_
  refine x_bmn.cons (xm_if) ?_
  refine x_bmn.cons (xm_aload) ?_
  refine x_bmn.cons (xm_dup) ?_
  refine x_bmn.cons (xm_get) ?_
  refine x_bmn.cons (xm_push) ?_
  refine x_bmn.cons (xm_bin) ?_
  refine x_bmn.cons (xm_put) ?_
  refine x_bmn.cons (xm_vret) ?_
  exact x_bmn.nil
theorem is_B_answerTotals : x_Is y_B_answerTotals m_B_answerTotals := x_is_code q4_34
def Y_B_answerTotals : XMeth := x_do 4 b_B_answerTotals
theorem sn_B_answerTotals : x_Snd y_B_answerTotals m_B_answerTotals Y_B_answerTotals := x_snd_of (by decide) rfl rfl is_B_answerTotals k_B_answerTotals
theorem ym_B_answerTotals : x_Ymn Y_B_answerTotals := x_ymn_of mn_B_answerTotals
/- CashLink$Bank.receive(LCashLink$Message;)V -/
abbrev c_B_receive : ByteArray := prog_2_method_5_code
def y_B_receive : MethodName := ⟨"CashLink$Bank", "receive", "(LCashLink$Message;)V"⟩
theorem d_B_receive_0 : decode c_B_receive 0 = .ok (.aload_n 0, 1) := by decide +kernel
theorem d_B_receive_1 : decode c_B_receive 1 = .ok (.getfield 16, 3) := by decide +kernel
theorem d_B_receive_4 : decode c_B_receive 4 = .ok (.invokevirtual 61, 3) := by decide +kernel
theorem d_B_receive_7 : decode c_B_receive 7 = .ok (.ifCond .ne 4, 3) := by decide +kernel
theorem d_B_receive_10 : decode c_B_receive 10 = .ok (.return_, 1) := by decide +kernel
theorem d_B_receive_11 : decode c_B_receive 11 = .ok (.aload_n 1, 1) := by decide +kernel
theorem d_B_receive_12 : decode c_B_receive 12 = .ok (.invokevirtual 65, 3) := by decide +kernel
theorem d_B_receive_15 : decode c_B_receive 15 = .ok (.getstatic 71, 3) := by decide +kernel
theorem d_B_receive_18 : decode c_B_receive 18 = .ok (.if_acmp .ne 11, 3) := by decide +kernel
theorem d_B_receive_21 : decode c_B_receive 21 = .ok (.aload_n 0, 1) := by decide +kernel
theorem d_B_receive_22 : decode c_B_receive 22 = .ok (.aload_n 1, 1) := by decide +kernel
theorem d_B_receive_23 : decode c_B_receive 23 = .ok (.invokevirtual 77, 3) := by decide +kernel
theorem d_B_receive_26 : decode c_B_receive 26 = .ok (.goto 26, 3) := by decide +kernel
theorem d_B_receive_29 : decode c_B_receive 29 = .ok (.aload_n 1, 1) := by decide +kernel
theorem d_B_receive_30 : decode c_B_receive 30 = .ok (.invokevirtual 65, 3) := by decide +kernel
theorem d_B_receive_33 : decode c_B_receive 33 = .ok (.getstatic 81, 3) := by decide +kernel
theorem d_B_receive_36 : decode c_B_receive 36 = .ok (.if_acmp .ne 11, 3) := by decide +kernel
theorem d_B_receive_39 : decode c_B_receive 39 = .ok (.aload_n 0, 1) := by decide +kernel
theorem d_B_receive_40 : decode c_B_receive 40 = .ok (.aload_n 1, 1) := by decide +kernel
theorem d_B_receive_41 : decode c_B_receive 41 = .ok (.invokevirtual 84, 3) := by decide +kernel
theorem d_B_receive_44 : decode c_B_receive 44 = .ok (.goto 8, 3) := by decide +kernel
theorem d_B_receive_47 : decode c_B_receive 47 = .ok (.aload_n 0, 1) := by decide +kernel
theorem d_B_receive_48 : decode c_B_receive 48 = .ok (.aload_n 1, 1) := by decide +kernel
theorem d_B_receive_49 : decode c_B_receive 49 = .ok (.invokevirtual 87, 3) := by decide +kernel
theorem d_B_receive_52 : decode c_B_receive 52 = .ok (.return_, 1) := by decide +kernel
def m_B_receive : XM := ("CashLink$Bank", c_B_receive, 2, none, "receive", [], 10, 229)
def b_B_receive : XB := [(0, X_aload 0 1),
  (1, X_get 2 1),
  (4, X_invV 4 Y_J_isOn 0 []),
  (7, X_if (fun x => ¬ x = 0) 11),
  (10, X_vret),
  (11, X_aload 1 1),
  (12, X_invV 7 Y_G_type 0 []),
  (15, X_push (xv_r 50 0) 3),
  (18, X_acmp (fun q => ¬ q) 29),
  (21, X_aload 0 1),
  (22, X_aload 1 1),
  (23, X_invV 2 Y_B_answerRequest 1 []),
  (26, X_goto 52),
  (29, X_aload 1 1),
  (30, X_invV 7 Y_G_type 0 []),
  (33, X_push (xv_r 50 2) 3),
  (36, X_acmp (fun q => ¬ q) 47),
  (39, X_aload 0 1),
  (40, X_aload 1 1),
  (41, X_invV 2 Y_B_answerReversal 1 []),
  (44, X_goto 52),
  (47, X_aload 0 1),
  (48, X_aload 1 1),
  (49, X_invV 2 Y_B_answerTotals 1 []),
  (52, X_vret)]
set_option maxRecDepth 100000 in
theorem k_B_receive : x_bok m_B_receive b_B_receive := by
  unfold b_B_receive
  refine x_bok.cons (xs_aload_n d_B_receive_0 rfl) ?_
  refine x_bok.cons (xs_get d_B_receive_1 xc2 xw2 (by decide) q1_114 (Or.inl rfl)) ?_
  refine x_bok.cons (xs_invV d_B_receive_4 xc4 sn_J_isOn is_J_isOn ⟨q3_191, q2_68, q2_69, q1_7⟩ (by decide) (by decide) rfl) ?_
  refine x_bok.cons (xs_if_ne d_B_receive_7 (by decide)) ?_
  refine x_bok.cons (xs_vret d_B_receive_10 rfl) ?_
  refine x_bok.cons (xs_aload_n d_B_receive_11 rfl) ?_
  refine x_bok.cons (xs_invV d_B_receive_12 xc7 sn_G_type is_G_type ⟨q3_192, q3_184, q3_185, q1_27⟩ (by decide) (by decide) rfl) ?_
  refine x_bok.cons (xs_gets d_B_receive_15 (List.mem_of_getElem? (i := 4) rfl) q3_193 (Or.inl rfl)) ?_
  refine x_bok.cons (xs_acmp_ne d_B_receive_18 (by decide)) ?_
  refine x_bok.cons (xs_aload_n d_B_receive_21 rfl) ?_
  refine x_bok.cons (xs_aload_n d_B_receive_22 rfl) ?_
  refine x_bok.cons (xs_invV d_B_receive_23 xc2 sn_B_answerRequest is_B_answerRequest ⟨q3_194, q3_196, (x_sel (x_p1 (List.mem_of_getElem? (i := 7) rfl))), q1_6⟩ (by decide) (by decide) rfl) ?_
  refine x_bok.cons (xs_goto d_B_receive_26 (by decide)) ?_
  refine x_bok.cons (xs_aload_n d_B_receive_29 rfl) ?_
  refine x_bok.cons (xs_invV d_B_receive_30 xc7 sn_G_type is_G_type ⟨q3_192, q3_184, q3_185, q1_27⟩ (by decide) (by decide) rfl) ?_
  refine x_bok.cons (xs_gets d_B_receive_33 (List.mem_of_getElem? (i := 6) rfl) q4_20 (Or.inl rfl)) ?_
  refine x_bok.cons (xs_acmp_ne d_B_receive_36 (by decide)) ?_
  refine x_bok.cons (xs_aload_n d_B_receive_39 rfl) ?_
  refine x_bok.cons (xs_aload_n d_B_receive_40 rfl) ?_
  refine x_bok.cons (xs_invV d_B_receive_41 xc2 sn_B_answerReversal is_B_answerReversal ⟨q4_21, q4_23, (x_sel (x_p1 (List.mem_of_getElem? (i := 11) rfl))), q1_6⟩ (by decide) (by decide) rfl) ?_
  refine x_bok.cons (xs_goto d_B_receive_44 (by decide)) ?_
  refine x_bok.cons (xs_aload_n d_B_receive_47 rfl) ?_
  refine x_bok.cons (xs_aload_n d_B_receive_48 rfl) ?_
  refine x_bok.cons (xs_invV d_B_receive_49 xc2 sn_B_answerTotals is_B_answerTotals ⟨q4_31, q4_33, (x_sel (x_p1 (List.mem_of_getElem? (i := 13) rfl))), q1_6⟩ (by decide) (by decide) rfl) ?_
  refine x_bok.cons (xs_vret d_B_receive_52 rfl) ?_
  exact x_bok.nil
set_option maxRecDepth 100000 in
theorem mn_B_receive : x_bmn b_B_receive := by
  unfold b_B_receive
  refine x_bmn.cons (xm_aload) ?_
  refine x_bmn.cons (xm_get) ?_
  refine x_bmn.cons (xm_invV ym_J_isOn) ?_
  refine x_bmn.cons (xm_if) ?_
  refine x_bmn.cons (xm_vret) ?_
  refine x_bmn.cons (xm_aload) ?_
  refine x_bmn.cons (xm_invV ym_G_type) ?_
  refine x_bmn.cons (xm_push) ?_
  refine x_bmn.cons (xm_acmp) ?_
  refine x_bmn.cons (xm_aload) ?_
  refine x_bmn.cons (xm_aload) ?_
  refine x_bmn.cons (xm_invV ym_B_answerRequest) ?_
  refine x_bmn.cons (xm_goto) ?_
  refine x_bmn.cons (xm_aload) ?_
  refine x_bmn.cons (xm_invV ym_G_type) ?_
  refine x_bmn.cons (xm_push) ?_
  refine x_bmn.cons (xm_acmp) ?_
  refine x_bmn.cons (xm_aload) ?_
  refine x_bmn.cons (xm_aload) ?_
  refine x_bmn.cons (xm_invV ym_B_answerReversal) ?_
  refine x_bmn.cons (xm_goto) ?_
  refine x_bmn.cons (xm_aload) ?_
  refine x_bmn.cons (xm_aload) ?_
  refine x_bmn.cons (xm_invV ym_B_answerTotals) ?_
  refine x_bmn.cons (xm_vret) ?_
  exact x_bmn.nil
theorem is_B_receive : x_Is y_B_receive m_B_receive := x_is_code q3_190
def Y_B_receive : XMeth := x_do 2 b_B_receive
theorem sn_B_receive : x_Snd y_B_receive m_B_receive Y_B_receive := x_snd_of (by decide) rfl rfl is_B_receive k_B_receive
theorem ym_B_receive : x_Ymn Y_B_receive := x_ymn_of mn_B_receive
/- CashLink$Machine.isVoid(I)Z -/
abbrev c_M_isVoid : ByteArray := prog_6_method_14_code
def y_M_isVoid : MethodName := ⟨"CashLink$Machine", "isVoid", "(I)Z"⟩
theorem d_M_isVoid_0 : decode c_M_isVoid 0 = .ok (.iconst 0, 1) := by decide +kernel
theorem d_M_isVoid_1 : decode c_M_isVoid 1 = .ok (.istore_n 2, 1) := by decide +kernel
theorem d_M_isVoid_2 : decode c_M_isVoid 2 = .ok (.iload_n 2, 1) := by decide +kernel
theorem d_M_isVoid_3 : decode c_M_isVoid 3 = .ok (.aload_n 0, 1) := by decide +kernel
theorem d_M_isVoid_4 : decode c_M_isVoid 4 = .ok (.getfield 37, 3) := by decide +kernel
theorem d_M_isVoid_7 : decode c_M_isVoid 7 = .ok (.invokevirtual 79, 3) := by decide +kernel
theorem d_M_isVoid_10 : decode c_M_isVoid 10 = .ok (.if_icmp .ge 29, 3) := by decide +kernel
theorem d_M_isVoid_13 : decode c_M_isVoid 13 = .ok (.aload_n 0, 1) := by decide +kernel
theorem d_M_isVoid_14 : decode c_M_isVoid 14 = .ok (.getfield 37, 3) := by decide +kernel
theorem d_M_isVoid_17 : decode c_M_isVoid 17 = .ok (.iload_n 2, 1) := by decide +kernel
theorem d_M_isVoid_18 : decode c_M_isVoid 18 = .ok (.invokevirtual 127, 3) := by decide +kernel
theorem d_M_isVoid_21 : decode c_M_isVoid 21 = .ok (.checkcast 94, 3) := by decide +kernel
theorem d_M_isVoid_24 : decode c_M_isVoid 24 = .ok (.invokevirtual 134, 3) := by decide +kernel
theorem d_M_isVoid_27 : decode c_M_isVoid 27 = .ok (.iload_n 1, 1) := by decide +kernel
theorem d_M_isVoid_28 : decode c_M_isVoid 28 = .ok (.if_icmp .ne 5, 3) := by decide +kernel
theorem d_M_isVoid_31 : decode c_M_isVoid 31 = .ok (.iconst 1, 1) := by decide +kernel
theorem d_M_isVoid_32 : decode c_M_isVoid 32 = .ok (.ireturn, 1) := by decide +kernel
theorem d_M_isVoid_33 : decode c_M_isVoid 33 = .ok (.iinc 2 1, 3) := by decide +kernel
theorem d_M_isVoid_36 : decode c_M_isVoid 36 = .ok (.goto (-34), 3) := by decide +kernel
theorem d_M_isVoid_39 : decode c_M_isVoid 39 = .ok (.iconst 0, 1) := by decide +kernel
theorem d_M_isVoid_40 : decode c_M_isVoid 40 = .ok (.ireturn, 1) := by decide +kernel
def m_M_isVoid : XM := ("CashLink$Machine", c_M_isVoid, 3, (some .boolean), "isVoid", [], 3, 64)
def b_M_isVoid : XB := [(0, X_push (xv_i 0) 1),
  (1, X_istore 2 1),
  (2, X_iload 2 1),
  (3, X_aload 0 1),
  (4, X_get 3 10),
  (7, X_invV 8 Y_A_size 0 []),
  (10, X_icmp (fun x y => y ≤ x) 39),
  (13, X_aload 0 1),
  (14, X_get 3 10),
  (17, X_iload 2 1),
  (18, X_invV 8 Y_A_get 1 []),
  (21, X_cast 6),
  (24, X_invV 6 Y_E_trace 0 []),
  (27, X_iload 1 1),
  (28, X_icmp (fun x y => ¬ x = y) 33),
  (31, X_push (xv_i 1) 1),
  (32, X_zret),
  (33, X_iinc 2 1),
  (36, X_goto 2),
  (39, X_push (xv_i 0) 1),
  (40, X_zret)]
set_option maxRecDepth 100000 in
theorem k_M_isVoid : x_bok m_M_isVoid b_M_isVoid := by
  unfold b_M_isVoid
  refine x_bok.cons (xs_iconst d_M_isVoid_0 (by decide)) ?_
  refine x_bok.cons (xs_istore_n d_M_isVoid_1 rfl (by decide)) ?_
  refine x_bok.cons (xs_iload_n d_M_isVoid_2 rfl) ?_
  refine x_bok.cons (xs_aload_n d_M_isVoid_3 rfl) ?_
  refine x_bok.cons (xs_get d_M_isVoid_4 xc3 xw3 (by decide) q1_177 (Or.inl rfl)) ?_
  refine x_bok.cons (xs_invV d_M_isVoid_7 xc8 sn_A_size is_A_size ⟨q2_125, q2_126, q2_127, q1_5⟩ (by decide) (by decide) rfl) ?_
  refine x_bok.cons (xs_icmp_ge d_M_isVoid_10 (by decide)) ?_
  refine x_bok.cons (xs_aload_n d_M_isVoid_13 rfl) ?_
  refine x_bok.cons (xs_get d_M_isVoid_14 xc3 xw3 (by decide) q1_177 (Or.inl rfl)) ?_
  refine x_bok.cons (xs_iload_n d_M_isVoid_17 rfl) ?_
  refine x_bok.cons (xs_invV d_M_isVoid_18 xc8 sn_A_get is_A_get ⟨q3_89, q3_90, q3_91, q1_5⟩ (by decide) (by decide) rfl) ?_
  refine x_bok.cons (xs_cast d_M_isVoid_21 xc6 q2_150 q7_4) ?_
  refine x_bok.cons (xs_invV d_M_isVoid_24 xc6 sn_E_trace is_E_trace ⟨q3_103, q3_104, q3_105, q1_21⟩ (by decide) (by decide) rfl) ?_
  refine x_bok.cons (xs_iload_n d_M_isVoid_27 rfl) ?_
  refine x_bok.cons (xs_icmp_ne d_M_isVoid_28 (by decide)) ?_
  refine x_bok.cons (xs_iconst d_M_isVoid_31 (by decide)) ?_
  refine x_bok.cons (xs_zret d_M_isVoid_32 rfl) ?_
  refine x_bok.cons (xs_iinc d_M_isVoid_33 (by decide) (by decide)) ?_
  refine x_bok.cons (xs_goto d_M_isVoid_36 (by decide)) ?_
  refine x_bok.cons (xs_iconst d_M_isVoid_39 (by decide)) ?_
  refine x_bok.cons (xs_zret d_M_isVoid_40 rfl) ?_
  exact x_bok.nil
set_option maxRecDepth 100000 in
theorem mn_M_isVoid : x_bmn b_M_isVoid := by
  unfold b_M_isVoid
  refine x_bmn.cons (xm_push) ?_
  refine x_bmn.cons (xm_istore) ?_
  refine x_bmn.cons (xm_iload) ?_
  refine x_bmn.cons (xm_aload) ?_
  refine x_bmn.cons (xm_get) ?_
  refine x_bmn.cons (xm_invV ym_A_size) ?_
  refine x_bmn.cons (xm_icmp) ?_
  refine x_bmn.cons (xm_aload) ?_
  refine x_bmn.cons (xm_get) ?_
  refine x_bmn.cons (xm_iload) ?_
  refine x_bmn.cons (xm_invV ym_A_get) ?_
  refine x_bmn.cons (xm_cast) ?_
  refine x_bmn.cons (xm_invV ym_E_trace) ?_
  refine x_bmn.cons (xm_iload) ?_
  refine x_bmn.cons (xm_icmp) ?_
  refine x_bmn.cons (xm_push) ?_
  refine x_bmn.cons (xm_zret) ?_
  refine x_bmn.cons (xm_iinc) ?_
  refine x_bmn.cons (xm_goto) ?_
  refine x_bmn.cons (xm_push) ?_
  refine x_bmn.cons (xm_zret) ?_
  exact x_bmn.nil
theorem is_M_isVoid : x_Is y_M_isVoid m_M_isVoid := x_is_code q4_61
def Y_M_isVoid : XMeth := x_do 3 b_M_isVoid
theorem sn_M_isVoid : x_Snd y_M_isVoid m_M_isVoid Y_M_isVoid := x_snd_of (by decide) rfl rfl is_M_isVoid k_M_isVoid
theorem ym_M_isVoid : x_Ymn Y_M_isVoid := x_ymn_of mn_M_isVoid
