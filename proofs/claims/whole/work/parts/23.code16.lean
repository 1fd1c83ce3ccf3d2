/- CashLinkModel.pin(II)Z -/
abbrev c_R_pin : ByteArray := prog_12_method_26_code
def y_R_pin : MethodName := ⟨"CashLinkModel", "pin", "(II)Z"⟩
theorem d_R_pin_0 : decode c_R_pin 0 = .ok (.aload_n 0, 1) := by decide +kernel
theorem d_R_pin_1 : decode c_R_pin 1 = .ok (.iload_n 1, 1) := by decide +kernel
theorem d_R_pin_2 : decode c_R_pin 2 = .ok (.iconst 0, 1) := by decide +kernel
theorem d_R_pin_3 : decode c_R_pin 3 = .ok (.iconst 3, 1) := by decide +kernel
theorem d_R_pin_4 : decode c_R_pin 4 = .ok (.invokestatic 175, 3) := by decide +kernel
theorem d_R_pin_7 : decode c_R_pin 7 = .ok (.ifCond .ne 7, 3) := by decide +kernel
theorem d_R_pin_10 : decode c_R_pin 10 = .ok (.iconst 1, 1) := by decide +kernel
theorem d_R_pin_11 : decode c_R_pin 11 = .ok (.goto 18, 3) := by decide +kernel
theorem d_R_pin_14 : decode c_R_pin 14 = .ok (.aload_n 0, 1) := by decide +kernel
theorem d_R_pin_15 : decode c_R_pin 15 = .ok (.getfield 41, 3) := by decide +kernel
theorem d_R_pin_18 : decode c_R_pin 18 = .ok (.iload_n 1, 1) := by decide +kernel
theorem d_R_pin_19 : decode c_R_pin 19 = .ok (.iaload, 1) := by decide +kernel
theorem d_R_pin_20 : decode c_R_pin 20 = .ok (.iconst 2, 1) := by decide +kernel
theorem d_R_pin_21 : decode c_R_pin 21 = .ok (.if_icmp .eq 7, 3) := by decide +kernel
theorem d_R_pin_24 : decode c_R_pin 24 = .ok (.iconst 2, 1) := by decide +kernel
theorem d_R_pin_25 : decode c_R_pin 25 = .ok (.goto 4, 3) := by decide +kernel
theorem d_R_pin_28 : decode c_R_pin 28 = .ok (.iconst 0, 1) := by decide +kernel
theorem d_R_pin_29 : decode c_R_pin 29 = .ok (.putfield 96, 3) := by decide +kernel
theorem d_R_pin_32 : decode c_R_pin 32 = .ok (.aload_n 0, 1) := by decide +kernel
theorem d_R_pin_33 : decode c_R_pin 33 = .ok (.getfield 96, 3) := by decide +kernel
theorem d_R_pin_36 : decode c_R_pin 36 = .ok (.ifCond .le 5, 3) := by decide +kernel
theorem d_R_pin_39 : decode c_R_pin 39 = .ok (.iconst 0, 1) := by decide +kernel
theorem d_R_pin_40 : decode c_R_pin 40 = .ok (.ireturn, 1) := by decide +kernel
theorem d_R_pin_41 : decode c_R_pin 41 = .ok (.iload_n 2, 1) := by decide +kernel
theorem d_R_pin_42 : decode c_R_pin 42 = .ok (.sipush 1000, 3) := by decide +kernel
theorem d_R_pin_45 : decode c_R_pin 45 = .ok (.bipush 37, 2) := by decide +kernel
theorem d_R_pin_47 : decode c_R_pin 47 = .ok (.aload_n 0, 1) := by decide +kernel
theorem d_R_pin_48 : decode c_R_pin 48 = .ok (.getfield 44, 3) := by decide +kernel
theorem d_R_pin_51 : decode c_R_pin 51 = .ok (.iload_n 1, 1) := by decide +kernel
theorem d_R_pin_52 : decode c_R_pin 52 = .ok (.iaload, 1) := by decide +kernel
theorem d_R_pin_53 : decode c_R_pin 53 = .ok (.imul, 1) := by decide +kernel
theorem d_R_pin_54 : decode c_R_pin 54 = .ok (.iadd, 1) := by decide +kernel
theorem d_R_pin_55 : decode c_R_pin 55 = .ok (.if_icmp .ne 12, 3) := by decide +kernel
theorem d_R_pin_58 : decode c_R_pin 58 = .ok (.aload_n 0, 1) := by decide +kernel
theorem d_R_pin_59 : decode c_R_pin 59 = .ok (.getfield 41, 3) := by decide +kernel
theorem d_R_pin_62 : decode c_R_pin 62 = .ok (.iload_n 1, 1) := by decide +kernel
theorem d_R_pin_63 : decode c_R_pin 63 = .ok (.iconst 3, 1) := by decide +kernel
theorem d_R_pin_64 : decode c_R_pin 64 = .ok (.iastore, 1) := by decide +kernel
theorem d_R_pin_65 : decode c_R_pin 65 = .ok (.iconst 1, 1) := by decide +kernel
theorem d_R_pin_66 : decode c_R_pin 66 = .ok (.ireturn, 1) := by decide +kernel
theorem d_R_pin_67 : decode c_R_pin 67 = .ok (.aload_n 0, 1) := by decide +kernel
theorem d_R_pin_68 : decode c_R_pin 68 = .ok (.getfield 47, 3) := by decide +kernel
theorem d_R_pin_71 : decode c_R_pin 71 = .ok (.iload_n 1, 1) := by decide +kernel
theorem d_R_pin_72 : decode c_R_pin 72 = .ok (.dup2, 1) := by decide +kernel
theorem d_R_pin_73 : decode c_R_pin 73 = .ok (.iaload, 1) := by decide +kernel
theorem d_R_pin_74 : decode c_R_pin 74 = .ok (.iconst 1, 1) := by decide +kernel
theorem d_R_pin_75 : decode c_R_pin 75 = .ok (.iadd, 1) := by decide +kernel
theorem d_R_pin_76 : decode c_R_pin 76 = .ok (.iastore, 1) := by decide +kernel
theorem d_R_pin_77 : decode c_R_pin 77 = .ok (.aload_n 0, 1) := by decide +kernel
theorem d_R_pin_78 : decode c_R_pin 78 = .ok (.getfield 47, 3) := by decide +kernel
theorem d_R_pin_81 : decode c_R_pin 81 = .ok (.iload_n 1, 1) := by decide +kernel
theorem d_R_pin_82 : decode c_R_pin 82 = .ok (.iaload, 1) := by decide +kernel
theorem d_R_pin_83 : decode c_R_pin 83 = .ok (.iconst 3, 1) := by decide +kernel
theorem d_R_pin_84 : decode c_R_pin 84 = .ok (.if_icmp .ne 10, 3) := by decide +kernel
theorem d_R_pin_87 : decode c_R_pin 87 = .ok (.aload_n 0, 1) := by decide +kernel
theorem d_R_pin_88 : decode c_R_pin 88 = .ok (.getfield 41, 3) := by decide +kernel
theorem d_R_pin_91 : decode c_R_pin 91 = .ok (.iload_n 1, 1) := by decide +kernel
theorem d_R_pin_92 : decode c_R_pin 92 = .ok (.iconst 1, 1) := by decide +kernel
theorem d_R_pin_93 : decode c_R_pin 93 = .ok (.iastore, 1) := by decide +kernel
theorem d_R_pin_94 : decode c_R_pin 94 = .ok (.iconst 0, 1) := by decide +kernel
theorem d_R_pin_95 : decode c_R_pin 95 = .ok (.ireturn, 1) := by decide +kernel
def m_R_pin : XM := ("CashLinkModel", c_R_pin, 3, (some .boolean), "pin", [], 1, 22)
def b_R_pin : XB := [(0, X_aload 0 1),
  (1, X_iload 1 1),
  (2, X_push (xv_i 0) 1),
  (3, X_push (xv_i 3) 1),
  (4, X_invS Y_R_in 3 []),
  (7, X_if (fun x => ¬ x = 0) 14),
  (10, X_push (xv_i 1) 1),
  (11, X_goto 29),
  (14, X_aload 0 1),
  (15, X_get 10 10),
  (18, X_iload 1 1),
  (19, X_ald 0),
  (20, X_push (xv_i 2) 1),
  (21, X_icmp (fun x y => x = y) 28),
  (24, X_push (xv_i 2) 1),
  (25, X_goto 29),
  (28, X_push (xv_i 0) 1),
  (29, X_put x_tI 10 26),
  (32, X_aload 0 1),
  (33, X_get 10 26),
  (36, X_if (fun x => x ≤ 0) 41),
  (39, X_push (xv_i 0) 1),
  (40, X_zret),
  (41, X_iload 2 1),
  (42, X_push (xv_i 1000) 3),
  (45, X_push (xv_i 37) 2),
  (47, X_aload 0 1),
  (48, X_get 10 11),
  (51, X_iload 1 1),
  (52, X_ald 0),
  (53, X_bin (fun x y => x * y)),
  (54, X_bin (fun x y => x + y)),
  (55, X_icmp (fun x y => ¬ x = y) 67),
  (58, X_aload 0 1),
  (59, X_get 10 10),
  (62, X_iload 1 1),
  (63, X_push (xv_i 3) 1),
  (64, X_ast 0 (fun x => x)),
  (65, X_push (xv_i 1) 1),
  (66, X_zret),
  (67, X_aload 0 1),
  (68, X_get 10 12),
  (71, X_iload 1 1),
  (72, X_dup2),
  (73, X_ald 0),
  (74, X_push (xv_i 1) 1),
  (75, X_bin (fun x y => x + y)),
  (76, X_ast 0 (fun x => x)),
  (77, X_aload 0 1),
  (78, X_get 10 12),
  (81, X_iload 1 1),
  (82, X_ald 0),
  (83, X_push (xv_i 3) 1),
  (84, X_icmp (fun x y => ¬ x = y) 94),
  (87, X_aload 0 1),
  (88, X_get 10 10),
  (91, X_iload 1 1),
  (92, X_push (xv_i 1) 1),
  (93, X_ast 0 (fun x => x)),
  (94, X_push (xv_i 0) 1),
  (95, X_zret)]
set_option maxRecDepth 100000 in
theorem k_R_pin : x_bok m_R_pin b_R_pin := by
  unfold b_R_pin
  refine x_bok.cons (xs_aload_n d_R_pin_0 rfl) ?_
  refine x_bok.cons (xs_iload_n d_R_pin_1 rfl) ?_
  refine x_bok.cons (xs_iconst d_R_pin_2 (by decide)) ?_
  refine x_bok.cons (xs_iconst d_R_pin_3 (by decide)) ?_
  refine x_bok.cons (xs_invS d_R_pin_4 sn_R_in is_R_in ⟨q6_67, q6_68, q1_12⟩ (by decide) (by decide) rfl) ?_
  refine x_bok.cons (xs_if_ne d_R_pin_7 (by decide)) ?_
  refine x_bok.cons (xs_iconst d_R_pin_10 (by decide)) ?_
  refine x_bok.cons (xs_goto d_R_pin_11 (by decide)) ?_
  refine x_bok.cons (xs_aload_n d_R_pin_14 rfl) ?_
  refine x_bok.cons (xs_get d_R_pin_15 xc10 xw10 (by decide) q5_215 (Or.inl rfl)) ?_
  refine x_bok.cons (xs_iload_n d_R_pin_18 rfl) ?_
  refine x_bok.cons (xs_iald d_R_pin_19 rfl) ?_
  refine x_bok.cons (xs_iconst d_R_pin_20 (by decide)) ?_
  refine x_bok.cons (xs_icmp_eq d_R_pin_21 (by decide)) ?_
  refine x_bok.cons (xs_iconst d_R_pin_24 (by decide)) ?_
  refine x_bok.cons (xs_goto d_R_pin_25 (by decide)) ?_
  refine x_bok.cons (xs_iconst d_R_pin_28 (by decide)) ?_
  refine x_bok.cons (xs_put d_R_pin_29 xc10 xw10 xt10 xn10 (by decide) q5_231 (Or.inl rfl) rfl rfl x_fitI) ?_
  refine x_bok.cons (xs_aload_n d_R_pin_32 rfl) ?_
  refine x_bok.cons (xs_get d_R_pin_33 xc10 xw10 (by decide) q5_231 (Or.inl rfl)) ?_
  refine x_bok.cons (xs_if_le d_R_pin_36 (by decide)) ?_
  refine x_bok.cons (xs_iconst d_R_pin_39 (by decide)) ?_
  refine x_bok.cons (xs_zret d_R_pin_40 rfl) ?_
  refine x_bok.cons (xs_iload_n d_R_pin_41 rfl) ?_
  refine x_bok.cons (xs_sipush d_R_pin_42 (by decide)) ?_
  refine x_bok.cons (xs_bipush d_R_pin_45 (by decide)) ?_
  refine x_bok.cons (xs_aload_n d_R_pin_47 rfl) ?_
  refine x_bok.cons (xs_get d_R_pin_48 xc10 xw10 (by decide) q5_216 (Or.inl rfl)) ?_
  refine x_bok.cons (xs_iload_n d_R_pin_51 rfl) ?_
  refine x_bok.cons (xs_iald d_R_pin_52 rfl) ?_
  refine x_bok.cons (xs_imul d_R_pin_53) ?_
  refine x_bok.cons (xs_iadd d_R_pin_54) ?_
  refine x_bok.cons (xs_icmp_ne d_R_pin_55 (by decide)) ?_
  refine x_bok.cons (xs_aload_n d_R_pin_58 rfl) ?_
  refine x_bok.cons (xs_get d_R_pin_59 xc10 xw10 (by decide) q5_215 (Or.inl rfl)) ?_
  refine x_bok.cons (xs_iload_n d_R_pin_62 rfl) ?_
  refine x_bok.cons (xs_iconst d_R_pin_63 (by decide)) ?_
  refine x_bok.cons (xs_iast d_R_pin_64 rfl) ?_
  refine x_bok.cons (xs_iconst d_R_pin_65 (by decide)) ?_
  refine x_bok.cons (xs_zret d_R_pin_66 rfl) ?_
  refine x_bok.cons (xs_aload_n d_R_pin_67 rfl) ?_
  refine x_bok.cons (xs_get d_R_pin_68 xc10 xw10 (by decide) q5_217 (Or.inl rfl)) ?_
  refine x_bok.cons (xs_iload_n d_R_pin_71 rfl) ?_
  refine x_bok.cons (xs_dup2 d_R_pin_72) ?_
  refine x_bok.cons (xs_iald d_R_pin_73 rfl) ?_
  refine x_bok.cons (xs_iconst d_R_pin_74 (by decide)) ?_
  refine x_bok.cons (xs_iadd d_R_pin_75) ?_
  refine x_bok.cons (xs_iast d_R_pin_76 rfl) ?_
  refine x_bok.cons (xs_aload_n d_R_pin_77 rfl) ?_
  refine x_bok.cons (xs_get d_R_pin_78 xc10 xw10 (by decide) q5_217 (Or.inl rfl)) ?_
  refine x_bok.cons (xs_iload_n d_R_pin_81 rfl) ?_
  refine x_bok.cons (xs_iald d_R_pin_82 rfl) ?_
  refine x_bok.cons (xs_iconst d_R_pin_83 (by decide)) ?_
  refine x_bok.cons (xs_icmp_ne d_R_pin_84 (by decide)) ?_
  refine x_bok.cons (xs_aload_n d_R_pin_87 rfl) ?_
  refine x_bok.cons (xs_get d_R_pin_88 xc10 xw10 (by decide) q5_215 (Or.inl rfl)) ?_
  refine x_bok.cons (xs_iload_n d_R_pin_91 rfl) ?_
  refine x_bok.cons (xs_iconst d_R_pin_92 (by decide)) ?_
  refine x_bok.cons (xs_iast d_R_pin_93 rfl) ?_
  refine x_bok.cons (xs_iconst d_R_pin_94 (by decide)) ?_
  refine x_bok.cons (xs_zret d_R_pin_95 rfl) ?_
  exact x_bok.nil
set_option maxRecDepth 100000 in
theorem mn_R_pin : x_bmn b_R_pin := by
  unfold b_R_pin
  refine x_bmn.cons (xm_aload) ?_
  refine x_bmn.cons (xm_iload) ?_
  refine x_bmn.cons (xm_push) ?_
  refine x_bmn.cons (xm_push) ?_
  refine x_bmn.cons (xm_invS ym_R_in) ?_
  refine x_bmn.cons (xm_if) ?_
  refine x_bmn.cons (xm_push) ?_
  refine x_bmn.cons (xm_goto) ?_
  refine x_bmn.cons (xm_aload) ?_
  refine x_bmn.cons (xm_get) ?_
  refine x_bmn.cons (xm_iload) ?_
  refine x_bmn.cons (xm_ald) ?_
  refine x_bmn.cons (xm_push) ?_
  refine x_bmn.cons (xm_icmp) ?_
  refine x_bmn.cons (xm_push) ?_
  refine x_bmn.cons (xm_goto) ?_
  refine x_bmn.cons (xm_push) ?_
  refine x_bmn.cons (xm_put) ?_
  refine x_bmn.cons (xm_aload) ?_
  refine x_bmn.cons (xm_get) ?_
  refine x_bmn.cons (xm_if) ?_
  refine x_bmn.cons (xm_push) ?_
  refine x_bmn.cons (xm_zret) ?_
  refine x_bmn.cons (xm_iload) ?_
  refine x_bmn.cons (xm_push) ?_
  refine x_bmn.cons (xm_push) ?_
  refine x_bmn.cons (xm_aload) ?_
  refine x_bmn.cons (xm_get) ?_
  refine x_bmn.cons (xm_iload) ?_
  refine x_bmn.cons (xm_ald) ?_
  refine x_bmn.cons (xm_bin) ?_
  refine x_bmn.cons (xm_bin) ?_
  refine x_bmn.cons (xm_icmp) ?_
  refine x_bmn.cons (xm_aload) ?_
  refine x_bmn.cons (xm_get) ?_
  refine x_bmn.cons (xm_iload) ?_
  refine x_bmn.cons (xm_push) ?_
  refine x_bmn.cons (xm_ast) ?_
  refine x_bmn.cons (xm_push) ?_
  refine x_bmn.cons (xm_zret) ?_
  refine x_bmn.cons (xm_aload) ?_
  refine x_bmn.cons (xm_get) ?_
  refine x_bmn.cons (xm_iload) ?_
  refine x_bmn.cons (xm_dup2) ?_
  refine x_bmn.cons (xm_ald) ?_
  refine x_bmn.cons (xm_push) ?_
  refine x_bmn.cons (xm_bin) ?_
  refine x_bmn.cons (xm_ast) ?_
  refine x_bmn.cons (xm_aload) ?_
  refine x_bmn.cons (xm_get) ?_
  refine x_bmn.cons (xm_iload) ?_
  refine x_bmn.cons (xm_ald) ?_
  refine x_bmn.cons (xm_push) ?_
  refine x_bmn.cons (xm_icmp) ?_
  refine x_bmn.cons (xm_aload) ?_
  refine x_bmn.cons (xm_get) ?_
  refine x_bmn.cons (xm_iload) ?_
  refine x_bmn.cons (xm_push) ?_
  refine x_bmn.cons (xm_ast) ?_
  refine x_bmn.cons (xm_push) ?_
  refine x_bmn.cons (xm_zret) ?_
  exact x_bmn.nil
theorem is_R_pin : x_Is y_R_pin m_R_pin := x_is_code q6_73
def Y_R_pin : XMeth := x_do 3 b_R_pin
theorem sn_R_pin : x_Snd y_R_pin m_R_pin Y_R_pin := x_snd_of (by decide) rfl rfl is_R_pin k_R_pin
theorem ym_R_pin : x_Ymn Y_R_pin := x_ymn_of mn_R_pin
/- CashLinkModel.mixed(II)Z -/
abbrev c_R_mixed : ByteArray := prog_12_method_16_code
def y_R_mixed : MethodName := ⟨"CashLinkModel", "mixed", "(II)Z"⟩
theorem d_R_mixed_0 : decode c_R_mixed 0 = .ok (.bipush 41, 2) := by decide +kernel
theorem d_R_mixed_2 : decode c_R_mixed 2 = .ok (.istore_n 3, 1) := by decide +kernel
theorem d_R_mixed_3 : decode c_R_mixed 3 = .ok (.bipush 40, 2) := by decide +kernel
theorem d_R_mixed_5 : decode c_R_mixed 5 = .ok (.aload_n 0, 1) := by decide +kernel
theorem d_R_mixed_6 : decode c_R_mixed 6 = .ok (.getfield 50, 3) := by decide +kernel
theorem d_R_mixed_9 : decode c_R_mixed 9 = .ok (.iconst 4, 1) := by decide +kernel
theorem d_R_mixed_10 : decode c_R_mixed 10 = .ok (.iload_n 1, 1) := by decide +kernel
theorem d_R_mixed_11 : decode c_R_mixed 11 = .ok (.imul, 1) := by decide +kernel
theorem d_R_mixed_12 : decode c_R_mixed 12 = .ok (.iconst 3, 1) := by decide +kernel
theorem d_R_mixed_13 : decode c_R_mixed 13 = .ok (.iadd, 1) := by decide +kernel
theorem d_R_mixed_14 : decode c_R_mixed 14 = .ok (.iaload, 1) := by decide +kernel
theorem d_R_mixed_15 : decode c_R_mixed 15 = .ok (.invokestatic 132, 3) := by decide +kernel
theorem d_R_mixed_18 : decode c_R_mixed 18 = .ok (.istore 4, 2) := by decide +kernel
theorem d_R_mixed_20 : decode c_R_mixed 20 = .ok (.iload 4, 2) := by decide +kernel
theorem d_R_mixed_22 : decode c_R_mixed 22 = .ok (.ifCond .lt 176, 3) := by decide +kernel
theorem d_R_mixed_25 : decode c_R_mixed 25 = .ok (.bipush 40, 2) := by decide +kernel
theorem d_R_mixed_27 : decode c_R_mixed 27 = .ok (.aload_n 0, 1) := by decide +kernel
theorem d_R_mixed_28 : decode c_R_mixed 28 = .ok (.getfield 50, 3) := by decide +kernel
theorem d_R_mixed_31 : decode c_R_mixed 31 = .ok (.iconst 4, 1) := by decide +kernel
theorem d_R_mixed_32 : decode c_R_mixed 32 = .ok (.iload_n 1, 1) := by decide +kernel
theorem d_R_mixed_33 : decode c_R_mixed 33 = .ok (.imul, 1) := by decide +kernel
theorem d_R_mixed_34 : decode c_R_mixed 34 = .ok (.iconst 2, 1) := by decide +kernel
theorem d_R_mixed_35 : decode c_R_mixed 35 = .ok (.iadd, 1) := by decide +kernel
theorem d_R_mixed_36 : decode c_R_mixed 36 = .ok (.iaload, 1) := by decide +kernel
theorem d_R_mixed_37 : decode c_R_mixed 37 = .ok (.invokestatic 132, 3) := by decide +kernel
theorem d_R_mixed_40 : decode c_R_mixed 40 = .ok (.istore 5, 2) := by decide +kernel
theorem d_R_mixed_42 : decode c_R_mixed 42 = .ok (.iload 5, 2) := by decide +kernel
theorem d_R_mixed_44 : decode c_R_mixed 44 = .ok (.ifCond .lt 148, 3) := by decide +kernel
theorem d_R_mixed_47 : decode c_R_mixed 47 = .ok (.bipush 40, 2) := by decide +kernel
theorem d_R_mixed_49 : decode c_R_mixed 49 = .ok (.aload_n 0, 1) := by decide +kernel
theorem d_R_mixed_50 : decode c_R_mixed 50 = .ok (.getfield 50, 3) := by decide +kernel
theorem d_R_mixed_53 : decode c_R_mixed 53 = .ok (.iconst 4, 1) := by decide +kernel
theorem d_R_mixed_54 : decode c_R_mixed 54 = .ok (.iload_n 1, 1) := by decide +kernel
theorem d_R_mixed_55 : decode c_R_mixed 55 = .ok (.imul, 1) := by decide +kernel
theorem d_R_mixed_56 : decode c_R_mixed 56 = .ok (.iconst 1, 1) := by decide +kernel
theorem d_R_mixed_57 : decode c_R_mixed 57 = .ok (.iadd, 1) := by decide +kernel
theorem d_R_mixed_58 : decode c_R_mixed 58 = .ok (.iaload, 1) := by decide +kernel
theorem d_R_mixed_59 : decode c_R_mixed 59 = .ok (.invokestatic 132, 3) := by decide +kernel
theorem d_R_mixed_62 : decode c_R_mixed 62 = .ok (.istore 6, 2) := by decide +kernel
theorem d_R_mixed_64 : decode c_R_mixed 64 = .ok (.iload 6, 2) := by decide +kernel
theorem d_R_mixed_66 : decode c_R_mixed 66 = .ok (.ifCond .lt 120, 3) := by decide +kernel
theorem d_R_mixed_69 : decode c_R_mixed 69 = .ok (.iload_n 2, 1) := by decide +kernel
theorem d_R_mixed_70 : decode c_R_mixed 70 = .ok (.bipush 50, 2) := by decide +kernel
theorem d_R_mixed_72 : decode c_R_mixed 72 = .ok (.iload 4, 2) := by decide +kernel
theorem d_R_mixed_74 : decode c_R_mixed 74 = .ok (.imul, 1) := by decide +kernel
theorem d_R_mixed_75 : decode c_R_mixed 75 = .ok (.isub, 1) := by decide +kernel
theorem d_R_mixed_76 : decode c_R_mixed 76 = .ok (.bipush 20, 2) := by decide +kernel
theorem d_R_mixed_78 : decode c_R_mixed 78 = .ok (.iload 5, 2) := by decide +kernel
theorem d_R_mixed_80 : decode c_R_mixed 80 = .ok (.imul, 1) := by decide +kernel
theorem d_R_mixed_81 : decode c_R_mixed 81 = .ok (.isub, 1) := by decide +kernel
theorem d_R_mixed_82 : decode c_R_mixed 82 = .ok (.bipush 10, 2) := by decide +kernel
theorem d_R_mixed_84 : decode c_R_mixed 84 = .ok (.iload 6, 2) := by decide +kernel
theorem d_R_mixed_86 : decode c_R_mixed 86 = .ok (.imul, 1) := by decide +kernel
theorem d_R_mixed_87 : decode c_R_mixed 87 = .ok (.isub, 1) := by decide +kernel
theorem d_R_mixed_88 : decode c_R_mixed 88 = .ok (.istore 7, 2) := by decide +kernel
theorem d_R_mixed_90 : decode c_R_mixed 90 = .ok (.iload 7, 2) := by decide +kernel
theorem d_R_mixed_92 : decode c_R_mixed 92 = .ok (.iconst 5, 1) := by decide +kernel
theorem d_R_mixed_93 : decode c_R_mixed 93 = .ok (.idiv, 1) := by decide +kernel
theorem d_R_mixed_94 : decode c_R_mixed 94 = .ok (.istore 8, 2) := by decide +kernel
theorem d_R_mixed_96 : decode c_R_mixed 96 = .ok (.iload 8, 2) := by decide +kernel
theorem d_R_mixed_98 : decode c_R_mixed 98 = .ok (.iload 6, 2) := by decide +kernel
theorem d_R_mixed_100 : decode c_R_mixed 100 = .ok (.iadd, 1) := by decide +kernel
theorem d_R_mixed_101 : decode c_R_mixed 101 = .ok (.iload 5, 2) := by decide +kernel
theorem d_R_mixed_103 : decode c_R_mixed 103 = .ok (.iadd, 1) := by decide +kernel
theorem d_R_mixed_104 : decode c_R_mixed 104 = .ok (.iload 4, 2) := by decide +kernel
theorem d_R_mixed_106 : decode c_R_mixed 106 = .ok (.iadd, 1) := by decide +kernel
theorem d_R_mixed_107 : decode c_R_mixed 107 = .ok (.istore 9, 2) := by decide +kernel
theorem d_R_mixed_109 : decode c_R_mixed 109 = .ok (.iload 7, 2) := by decide +kernel
theorem d_R_mixed_111 : decode c_R_mixed 111 = .ok (.ifCond .lt 69, 3) := by decide +kernel
theorem d_R_mixed_114 : decode c_R_mixed 114 = .ok (.iload 8, 2) := by decide +kernel
theorem d_R_mixed_116 : decode c_R_mixed 116 = .ok (.iconst 5, 1) := by decide +kernel
theorem d_R_mixed_117 : decode c_R_mixed 117 = .ok (.imul, 1) := by decide +kernel
theorem d_R_mixed_118 : decode c_R_mixed 118 = .ok (.iload 7, 2) := by decide +kernel
theorem d_R_mixed_120 : decode c_R_mixed 120 = .ok (.if_icmp .ne 60, 3) := by decide +kernel
theorem d_R_mixed_123 : decode c_R_mixed 123 = .ok (.iload 8, 2) := by decide +kernel
theorem d_R_mixed_125 : decode c_R_mixed 125 = .ok (.aload_n 0, 1) := by decide +kernel
theorem d_R_mixed_126 : decode c_R_mixed 126 = .ok (.getfield 50, 3) := by decide +kernel
theorem d_R_mixed_129 : decode c_R_mixed 129 = .ok (.iconst 4, 1) := by decide +kernel
theorem d_R_mixed_130 : decode c_R_mixed 130 = .ok (.iload_n 1, 1) := by decide +kernel
theorem d_R_mixed_131 : decode c_R_mixed 131 = .ok (.imul, 1) := by decide +kernel
theorem d_R_mixed_132 : decode c_R_mixed 132 = .ok (.iaload, 1) := by decide +kernel
theorem d_R_mixed_133 : decode c_R_mixed 133 = .ok (.if_icmp .gt 47, 3) := by decide +kernel
theorem d_R_mixed_136 : decode c_R_mixed 136 = .ok (.iload 9, 2) := by decide +kernel
theorem d_R_mixed_138 : decode c_R_mixed 138 = .ok (.iload_n 3, 1) := by decide +kernel
theorem d_R_mixed_139 : decode c_R_mixed 139 = .ok (.if_icmp .lt 6, 3) := by decide +kernel
theorem d_R_mixed_142 : decode c_R_mixed 142 = .ok (.goto 38, 3) := by decide +kernel
theorem d_R_mixed_145 : decode c_R_mixed 145 = .ok (.iload 9, 2) := by decide +kernel
theorem d_R_mixed_147 : decode c_R_mixed 147 = .ok (.istore_n 3, 1) := by decide +kernel
theorem d_R_mixed_148 : decode c_R_mixed 148 = .ok (.aload_n 0, 1) := by decide +kernel
theorem d_R_mixed_149 : decode c_R_mixed 149 = .ok (.getfield 86, 3) := by decide +kernel
theorem d_R_mixed_152 : decode c_R_mixed 152 = .ok (.iconst 0, 1) := by decide +kernel
theorem d_R_mixed_153 : decode c_R_mixed 153 = .ok (.iload 8, 2) := by decide +kernel
theorem d_R_mixed_155 : decode c_R_mixed 155 = .ok (.iastore, 1) := by decide +kernel
theorem d_R_mixed_156 : decode c_R_mixed 156 = .ok (.aload_n 0, 1) := by decide +kernel
theorem d_R_mixed_157 : decode c_R_mixed 157 = .ok (.getfield 86, 3) := by decide +kernel
theorem d_R_mixed_160 : decode c_R_mixed 160 = .ok (.iconst 1, 1) := by decide +kernel
theorem d_R_mixed_161 : decode c_R_mixed 161 = .ok (.iload 6, 2) := by decide +kernel
theorem d_R_mixed_163 : decode c_R_mixed 163 = .ok (.iastore, 1) := by decide +kernel
theorem d_R_mixed_164 : decode c_R_mixed 164 = .ok (.aload_n 0, 1) := by decide +kernel
theorem d_R_mixed_165 : decode c_R_mixed 165 = .ok (.getfield 86, 3) := by decide +kernel
theorem d_R_mixed_168 : decode c_R_mixed 168 = .ok (.iconst 2, 1) := by decide +kernel
theorem d_R_mixed_169 : decode c_R_mixed 169 = .ok (.iload 5, 2) := by decide +kernel
theorem d_R_mixed_171 : decode c_R_mixed 171 = .ok (.iastore, 1) := by decide +kernel
theorem d_R_mixed_172 : decode c_R_mixed 172 = .ok (.aload_n 0, 1) := by decide +kernel
theorem d_R_mixed_173 : decode c_R_mixed 173 = .ok (.getfield 86, 3) := by decide +kernel
theorem d_R_mixed_176 : decode c_R_mixed 176 = .ok (.iconst 3, 1) := by decide +kernel
theorem d_R_mixed_177 : decode c_R_mixed 177 = .ok (.iload 4, 2) := by decide +kernel
theorem d_R_mixed_179 : decode c_R_mixed 179 = .ok (.iastore, 1) := by decide +kernel
theorem d_R_mixed_180 : decode c_R_mixed 180 = .ok (.iinc 6 (-1), 3) := by decide +kernel
theorem d_R_mixed_183 : decode c_R_mixed 183 = .ok (.goto (-119), 3) := by decide +kernel
theorem d_R_mixed_186 : decode c_R_mixed 186 = .ok (.iinc 5 (-1), 3) := by decide +kernel
theorem d_R_mixed_189 : decode c_R_mixed 189 = .ok (.goto (-147), 3) := by decide +kernel
theorem d_R_mixed_192 : decode c_R_mixed 192 = .ok (.iinc 4 (-1), 3) := by decide +kernel
theorem d_R_mixed_195 : decode c_R_mixed 195 = .ok (.goto (-175), 3) := by decide +kernel
theorem d_R_mixed_198 : decode c_R_mixed 198 = .ok (.iload_n 3, 1) := by decide +kernel
theorem d_R_mixed_199 : decode c_R_mixed 199 = .ok (.bipush 40, 2) := by decide +kernel
theorem d_R_mixed_201 : decode c_R_mixed 201 = .ok (.if_icmp .gt 7, 3) := by decide +kernel
theorem d_R_mixed_204 : decode c_R_mixed 204 = .ok (.iconst 1, 1) := by decide +kernel
theorem d_R_mixed_205 : decode c_R_mixed 205 = .ok (.goto 4, 3) := by decide +kernel
theorem d_R_mixed_208 : decode c_R_mixed 208 = .ok (.iconst 0, 1) := by decide +kernel
theorem d_R_mixed_209 : decode c_R_mixed 209 = .ok (.ireturn, 1) := by decide +kernel
def m_R_mixed : XM := ("CashLinkModel", c_R_mixed, 10, (some .boolean), "mixed", [], 1, 21)
def b_R_mixed : XB := [(0, X_push (xv_i 41) 2),
  (2, X_istore 3 1),
  (3, X_push (xv_i 40) 2),
  (5, X_aload 0 1),
  (6, X_get 10 13),
  (9, X_push (xv_i 4) 1),
  (10, X_iload 1 1),
  (11, X_bin (fun x y => x * y)),
  (12, X_push (xv_i 3) 1),
  (13, X_bin (fun x y => x + y)),
  (14, X_ald 0),
  (15, X_mm (fun x y => if y < x then y else x)),
  (18, X_istore 4 2),
  (20, X_iload 4 2),
  (22, X_if (fun x => x < 0) 198),
  (25, X_push (xv_i 40) 2),
  (27, X_aload 0 1),
  (28, X_get 10 13),
  (31, X_push (xv_i 4) 1),
  (32, X_iload 1 1),
  (33, X_bin (fun x y => x * y)),
  (34, X_push (xv_i 2) 1),
  (35, X_bin (fun x y => x + y)),
  (36, X_ald 0),
  (37, X_mm (fun x y => if y < x then y else x)),
  (40, X_istore 5 2),
  (42, X_iload 5 2),
  (44, X_if (fun x => x < 0) 192),
  (47, X_push (xv_i 40) 2),
  (49, X_aload 0 1),
  (50, X_get 10 13),
  (53, X_push (xv_i 4) 1),
  (54, X_iload 1 1),
  (55, X_bin (fun x y => x * y)),
  (56, X_push (xv_i 1) 1),
  (57, X_bin (fun x y => x + y)),
  (58, X_ald 0),
  (59, X_mm (fun x y => if y < x then y else x)),
  (62, X_istore 6 2),
  (64, X_iload 6 2),
  (66, X_if (fun x => x < 0) 186),
  (69, X_iload 2 1),
  (70, X_push (xv_i 50) 2),
  (72, X_iload 4 2),
  (74, X_bin (fun x y => x * y)),
  (75, X_bin (fun x y => x - y)),
  (76, X_push (xv_i 20) 2),
  (78, X_iload 5 2),
  (80, X_bin (fun x y => x * y)),
  (81, X_bin (fun x y => x - y)),
  (82, X_push (xv_i 10) 2),
  (84, X_iload 6 2),
  (86, X_bin (fun x y => x * y)),
  (87, X_bin (fun x y => x - y)),
  (88, X_istore 7 2),
  (90, X_iload 7 2),
  (92, X_push (xv_i 5) 1),
  (93, X_div),
  (94, X_istore 8 2),
  (96, X_iload 8 2),
  (98, X_iload 6 2),
  (100, X_bin (fun x y => x + y)),
  (101, X_iload 5 2),
  (103, X_bin (fun x y => x + y)),
  (104, X_iload 4 2),
  (106, X_bin (fun x y => x + y)),
  (107, X_istore 9 2),
  (109, X_iload 7 2),
  (111, X_if (fun x => x < 0) 180),
  (114, X_iload 8 2),
  (116, X_push (xv_i 5) 1),
  (117, X_bin (fun x y => x * y)),
  (118, X_iload 7 2),
  (120, X_icmp (fun x y => ¬ x = y) 180),
  (123, X_iload 8 2),
  (125, X_aload 0 1),
  (126, X_get 10 13),
  (129, X_push (xv_i 4) 1),
  (130, X_iload 1 1),
  (131, X_bin (fun x y => x * y)),
  (132, X_ald 0),
  (133, X_icmp (fun x y => y < x) 180),
  (136, X_iload 9 2),
  (138, X_iload 3 1),
  (139, X_icmp (fun x y => x < y) 145),
  (142, X_goto 180),
  (145, X_iload 9 2),
  (147, X_istore 3 1),
  (148, X_aload 0 1),
  (149, X_get 10 27),
  (152, X_push (xv_i 0) 1),
  (153, X_iload 8 2),
  (155, X_ast 0 (fun x => x)),
  (156, X_aload 0 1),
  (157, X_get 10 27),
  (160, X_push (xv_i 1) 1),
  (161, X_iload 6 2),
  (163, X_ast 0 (fun x => x)),
  (164, X_aload 0 1),
  (165, X_get 10 27),
  (168, X_push (xv_i 2) 1),
  (169, X_iload 5 2),
  (171, X_ast 0 (fun x => x)),
  (172, X_aload 0 1),
  (173, X_get 10 27),
  (176, X_push (xv_i 3) 1),
  (177, X_iload 4 2),
  (179, X_ast 0 (fun x => x)),
  (180, X_iinc 6 (-1)),
  (183, X_goto 64),
  (186, X_iinc 5 (-1)),
  (189, X_goto 42),
  (192, X_iinc 4 (-1)),
  (195, X_goto 20),
  (198, X_iload 3 1),
  (199, X_push (xv_i 40) 2),
  (201, X_icmp (fun x y => y < x) 208),
  (204, X_push (xv_i 1) 1),
  (205, X_goto 209),
  (208, X_push (xv_i 0) 1),
  (209, X_zret)]
set_option maxRecDepth 100000 in
theorem k_R_mixed : x_bok m_R_mixed b_R_mixed := by
  unfold b_R_mixed
  refine x_bok.cons (xs_bipush d_R_mixed_0 (by decide)) ?_
  refine x_bok.cons (xs_istore_n d_R_mixed_2 rfl (by decide)) ?_
  refine x_bok.cons (xs_bipush d_R_mixed_3 (by decide)) ?_
  refine x_bok.cons (xs_aload_n d_R_mixed_5 rfl) ?_
  refine x_bok.cons (xs_get d_R_mixed_6 xc10 xw10 (by decide) q5_218 (Or.inl rfl)) ?_
  refine x_bok.cons (xs_iconst d_R_mixed_9 (by decide)) ?_
  refine x_bok.cons (xs_iload_n d_R_mixed_10 rfl) ?_
  refine x_bok.cons (xs_imul d_R_mixed_11) ?_
  refine x_bok.cons (xs_iconst d_R_mixed_12 (by decide)) ?_
  refine x_bok.cons (xs_iadd d_R_mixed_13) ?_
  refine x_bok.cons (xs_iald d_R_mixed_14 rfl) ?_
  refine x_bok.cons (xs_mmin d_R_mixed_15 ⟨q6_83, q2_123, q1_18, q2_124⟩ (by decide)) ?_
  refine x_bok.cons (xs_istore d_R_mixed_18 (by decide)) ?_
  refine x_bok.cons (xs_iload d_R_mixed_20) ?_
  refine x_bok.cons (xs_if_lt d_R_mixed_22 (by decide)) ?_
  refine x_bok.cons (xs_bipush d_R_mixed_25 (by decide)) ?_
  refine x_bok.cons (xs_aload_n d_R_mixed_27 rfl) ?_
  refine x_bok.cons (xs_get d_R_mixed_28 xc10 xw10 (by decide) q5_218 (Or.inl rfl)) ?_
  refine x_bok.cons (xs_iconst d_R_mixed_31 (by decide)) ?_
  refine x_bok.cons (xs_iload_n d_R_mixed_32 rfl) ?_
  refine x_bok.cons (xs_imul d_R_mixed_33) ?_
  refine x_bok.cons (xs_iconst d_R_mixed_34 (by decide)) ?_
  refine x_bok.cons (xs_iadd d_R_mixed_35) ?_
  refine x_bok.cons (xs_iald d_R_mixed_36 rfl) ?_
  refine x_bok.cons (xs_mmin d_R_mixed_37 ⟨q6_83, q2_123, q1_18, q2_124⟩ (by decide)) ?_
  refine x_bok.cons (xs_istore d_R_mixed_40 (by decide)) ?_
  refine x_bok.cons (xs_iload d_R_mixed_42) ?_
  refine x_bok.cons (xs_if_lt d_R_mixed_44 (by decide)) ?_
  refine x_bok.cons (xs_bipush d_R_mixed_47 (by decide)) ?_
  refine x_bok.cons (xs_aload_n d_R_mixed_49 rfl) ?_
  refine x_bok.cons (xs_get d_R_mixed_50 xc10 xw10 (by decide) q5_218 (Or.inl rfl)) ?_
  refine x_bok.cons (xs_iconst d_R_mixed_53 (by decide)) ?_
  refine x_bok.cons (xs_iload_n d_R_mixed_54 rfl) ?_
  refine x_bok.cons (xs_imul d_R_mixed_55) ?_
  refine x_bok.cons (xs_iconst d_R_mixed_56 (by decide)) ?_
  refine x_bok.cons (xs_iadd d_R_mixed_57) ?_
  refine x_bok.cons (xs_iald d_R_mixed_58 rfl) ?_
  refine x_bok.cons (xs_mmin d_R_mixed_59 ⟨q6_83, q2_123, q1_18, q2_124⟩ (by decide)) ?_
  refine x_bok.cons (xs_istore d_R_mixed_62 (by decide)) ?_
  refine x_bok.cons (xs_iload d_R_mixed_64) ?_
  refine x_bok.cons (xs_if_lt d_R_mixed_66 (by decide)) ?_
  refine x_bok.cons (xs_iload_n d_R_mixed_69 rfl) ?_
  refine x_bok.cons (xs_bipush d_R_mixed_70 (by decide)) ?_
  refine x_bok.cons (xs_iload d_R_mixed_72) ?_
  refine x_bok.cons (xs_imul d_R_mixed_74) ?_
  refine x_bok.cons (xs_isub d_R_mixed_75) ?_
  refine x_bok.cons (xs_bipush d_R_mixed_76 (by decide)) ?_
  refine x_bok.cons (xs_iload d_R_mixed_78) ?_
  refine x_bok.cons (xs_imul d_R_mixed_80) ?_
  refine x_bok.cons (xs_isub d_R_mixed_81) ?_
  refine x_bok.cons (xs_bipush d_R_mixed_82 (by decide)) ?_
  refine x_bok.cons (xs_iload d_R_mixed_84) ?_
  refine x_bok.cons (xs_imul d_R_mixed_86) ?_
  refine x_bok.cons (xs_isub d_R_mixed_87) ?_
  refine x_bok.cons (xs_istore d_R_mixed_88 (by decide)) ?_
  refine x_bok.cons (xs_iload d_R_mixed_90) ?_
  refine x_bok.cons (xs_iconst d_R_mixed_92 (by decide)) ?_
  refine x_bok.cons (xs_idiv d_R_mixed_93) ?_
  refine x_bok.cons (xs_istore d_R_mixed_94 (by decide)) ?_
  refine x_bok.cons (xs_iload d_R_mixed_96) ?_
  refine x_bok.cons (xs_iload d_R_mixed_98) ?_
  refine x_bok.cons (xs_iadd d_R_mixed_100) ?_
  refine x_bok.cons (xs_iload d_R_mixed_101) ?_
  refine x_bok.cons (xs_iadd d_R_mixed_103) ?_
  refine x_bok.cons (xs_iload d_R_mixed_104) ?_
  refine x_bok.cons (xs_iadd d_R_mixed_106) ?_
  refine x_bok.cons (xs_istore d_R_mixed_107 (by decide)) ?_
  refine x_bok.cons (xs_iload d_R_mixed_109) ?_
  refine x_bok.cons (xs_if_lt d_R_mixed_111 (by decide)) ?_
  refine x_bok.cons (xs_iload d_R_mixed_114) ?_
  refine x_bok.cons (xs_iconst d_R_mixed_116 (by decide)) ?_
  refine x_bok.cons (xs_imul d_R_mixed_117) ?_
  refine x_bok.cons (xs_iload d_R_mixed_118) ?_
  refine x_bok.cons (xs_icmp_ne d_R_mixed_120 (by decide)) ?_
  refine x_bok.cons (xs_iload d_R_mixed_123) ?_
  refine x_bok.cons (xs_aload_n d_R_mixed_125 rfl) ?_
  refine x_bok.cons (xs_get d_R_mixed_126 xc10 xw10 (by decide) q5_218 (Or.inl rfl)) ?_
  refine x_bok.cons (xs_iconst d_R_mixed_129 (by decide)) ?_
  refine x_bok.cons (xs_iload_n d_R_mixed_130 rfl) ?_
  refine x_bok.cons (xs_imul d_R_mixed_131) ?_
  refine x_bok.cons (xs_iald d_R_mixed_132 rfl) ?_
  refine x_bok.cons (xs_icmp_gt d_R_mixed_133 (by decide)) ?_
  refine x_bok.cons (xs_iload d_R_mixed_136) ?_
  refine x_bok.cons (xs_iload_n d_R_mixed_138 rfl) ?_
  refine x_bok.cons (xs_icmp_lt d_R_mixed_139 (by decide)) ?_
  refine x_bok.cons (xs_goto d_R_mixed_142 (by decide)) ?_
  refine x_bok.cons (xs_iload d_R_mixed_145) ?_
  refine x_bok.cons (xs_istore_n d_R_mixed_147 rfl (by decide)) ?_
  refine x_bok.cons (xs_aload_n d_R_mixed_148 rfl) ?_
  refine x_bok.cons (xs_get d_R_mixed_149 xc10 xw10 (by decide) q5_232 (Or.inl rfl)) ?_
  refine x_bok.cons (xs_iconst d_R_mixed_152 (by decide)) ?_
  refine x_bok.cons (xs_iload d_R_mixed_153) ?_
  refine x_bok.cons (xs_iast d_R_mixed_155 rfl) ?_
  refine x_bok.cons (xs_aload_n d_R_mixed_156 rfl) ?_
  refine x_bok.cons (xs_get d_R_mixed_157 xc10 xw10 (by decide) q5_232 (Or.inl rfl)) ?_
  refine x_bok.cons (xs_iconst d_R_mixed_160 (by decide)) ?_
  refine x_bok.cons (xs_iload d_R_mixed_161) ?_
  refine x_bok.cons (xs_iast d_R_mixed_163 rfl) ?_
  refine x_bok.cons (xs_aload_n d_R_mixed_164 rfl) ?_
  refine x_bok.cons (xs_get d_R_mixed_165 xc10 xw10 (by decide) q5_232 (Or.inl rfl)) ?_
  refine x_bok.cons (xs_iconst d_R_mixed_168 (by decide)) ?_
  refine x_bok.cons (xs_iload d_R_mixed_169) ?_
  refine x_bok.cons (xs_iast d_R_mixed_171 rfl) ?_
  refine x_bok.cons (xs_aload_n d_R_mixed_172 rfl) ?_
  refine x_bok.cons (xs_get d_R_mixed_173 xc10 xw10 (by decide) q5_232 (Or.inl rfl)) ?_
  refine x_bok.cons (xs_iconst d_R_mixed_176 (by decide)) ?_
  refine x_bok.cons (xs_iload d_R_mixed_177) ?_
  refine x_bok.cons (xs_iast d_R_mixed_179 rfl) ?_
  refine x_bok.cons (xs_iinc d_R_mixed_180 (by decide) (by decide)) ?_
  refine x_bok.cons (xs_goto d_R_mixed_183 (by decide)) ?_
  refine x_bok.cons (xs_iinc d_R_mixed_186 (by decide) (by decide)) ?_
  refine x_bok.cons (xs_goto d_R_mixed_189 (by decide)) ?_
  refine x_bok.cons (xs_iinc d_R_mixed_192 (by decide) (by decide)) ?_
  refine x_bok.cons (xs_goto d_R_mixed_195 (by decide)) ?_
  refine x_bok.cons (xs_iload_n d_R_mixed_198 rfl) ?_
  refine x_bok.cons (xs_bipush d_R_mixed_199 (by decide)) ?_
  refine x_bok.cons (xs_icmp_gt d_R_mixed_201 (by decide)) ?_
  refine x_bok.cons (xs_iconst d_R_mixed_204 (by decide)) ?_
  refine x_bok.cons (xs_goto d_R_mixed_205 (by decide)) ?_
  refine x_bok.cons (xs_iconst d_R_mixed_208 (by decide)) ?_
  refine x_bok.cons (xs_zret d_R_mixed_209 rfl) ?_
  exact x_bok.nil
set_option maxRecDepth 100000 in
theorem mn_R_mixed : x_bmn b_R_mixed := by
  unfold b_R_mixed
  refine x_bmn.cons (xm_push) ?_
  refine x_bmn.cons (xm_istore) ?_
  refine x_bmn.cons (xm_push) ?_
  refine x_bmn.cons (xm_aload) ?_
  refine x_bmn.cons (xm_get) ?_
  refine x_bmn.cons (xm_push) ?_
  refine x_bmn.cons (xm_iload) ?_
  refine x_bmn.cons (xm_bin) ?_
  refine x_bmn.cons (xm_push) ?_
  refine x_bmn.cons (xm_bin) ?_
  refine x_bmn.cons (xm_ald) ?_
  refine x_bmn.cons (xm_mm) ?_
  refine x_bmn.cons (xm_istore) ?_
  refine x_bmn.cons (xm_iload) ?_
  refine x_bmn.cons (xm_if) ?_
  refine x_bmn.cons (xm_push) ?_
  refine x_bmn.cons (xm_aload) ?_
  refine x_bmn.cons (xm_get) ?_
  refine x_bmn.cons (xm_push) ?_
  refine x_bmn.cons (xm_iload) ?_
  refine x_bmn.cons (xm_bin) ?_
  refine x_bmn.cons (xm_push) ?_
  refine x_bmn.cons (xm_bin) ?_
  refine x_bmn.cons (xm_ald) ?_
  refine x_bmn.cons (xm_mm) ?_
  refine x_bmn.cons (xm_istore) ?_
  refine x_bmn.cons (xm_iload) ?_
  refine x_bmn.cons (xm_if) ?_
  refine x_bmn.cons (xm_push) ?_
  refine x_bmn.cons (xm_aload) ?_
  refine x_bmn.cons (xm_get) ?_
  refine x_bmn.cons (xm_push) ?_
  refine x_bmn.cons (xm_iload) ?_
  refine x_bmn.cons (xm_bin) ?_
  refine x_bmn.cons (xm_push) ?_
  refine x_bmn.cons (xm_bin) ?_
  refine x_bmn.cons (xm_ald) ?_
  refine x_bmn.cons (xm_mm) ?_
  refine x_bmn.cons (xm_istore) ?_
  refine x_bmn.cons (xm_iload) ?_
  refine x_bmn.cons (xm_if) ?_
  refine x_bmn.cons (xm_iload) ?_
  refine x_bmn.cons (xm_push) ?_
  refine x_bmn.cons (xm_iload) ?_
  refine x_bmn.cons (xm_bin) ?_
  refine x_bmn.cons (xm_bin) ?_
  refine x_bmn.cons (xm_push) ?_
  refine x_bmn.cons (xm_iload) ?_
  refine x_bmn.cons (xm_bin) ?_
  refine x_bmn.cons (xm_bin) ?_
  refine x_bmn.cons (xm_push) ?_
  refine x_bmn.cons (xm_iload) ?_
  refine x_bmn.cons (xm_bin) ?_
  refine x_bmn.cons (xm_bin) ?_
  refine x_bmn.cons (xm_istore) ?_
  refine x_bmn.cons (xm_iload) ?_
  refine x_bmn.cons (xm_push) ?_
  refine x_bmn.cons (xm_div) ?_
  refine x_bmn.cons (xm_istore) ?_
  refine x_bmn.cons (xm_iload) ?_
  refine x_bmn.cons (xm_iload) ?_
  refine x_bmn.cons (xm_bin) ?_
  refine x_bmn.cons (xm_iload) ?_
  refine x_bmn.cons (xm_bin) ?_
  refine x_bmn.cons (xm_iload) ?_
  refine x_bmn.cons (xm_bin) ?_
  refine x_bmn.cons (xm_istore) ?_
  refine x_bmn.cons (xm_iload) ?_
  refine x_bmn.cons (xm_if) ?_
  refine x_bmn.cons (xm_iload) ?_
  refine x_bmn.cons (xm_push) ?_
  refine x_bmn.cons (xm_bin) ?_
  refine x_bmn.cons (xm_iload) ?_
  refine x_bmn.cons (xm_icmp) ?_
  refine x_bmn.cons (xm_iload) ?_
  refine x_bmn.cons (xm_aload) ?_
  refine x_bmn.cons (xm_get) ?_
  refine x_bmn.cons (xm_push) ?_
  refine x_bmn.cons (xm_iload) ?_
  refine x_bmn.cons (xm_bin) ?_
  refine x_bmn.cons (xm_ald) ?_
  refine x_bmn.cons (xm_icmp) ?_
  refine x_bmn.cons (xm_iload) ?_
  refine x_bmn.cons (xm_iload) ?_
  refine x_bmn.cons (xm_icmp) ?_
  refine x_bmn.cons (xm_goto) ?_
  refine x_bmn.cons (xm_iload) ?_
  refine x_bmn.cons (xm_istore) ?_
  refine x_bmn.cons (xm_aload) ?_
  refine x_bmn.cons (xm_get) ?_
  refine x_bmn.cons (xm_push) ?_
  refine x_bmn.cons (xm_iload) ?_
  refine x_bmn.cons (xm_ast) ?_
  refine x_bmn.cons (xm_aload) ?_
  refine x_bmn.cons (xm_get) ?_
  refine x_bmn.cons (xm_push) ?_
  refine x_bmn.cons (xm_iload) ?_
  refine x_bmn.cons (xm_ast) ?_
  refine x_bmn.cons (xm_aload) ?_
  refine x_bmn.cons (xm_get) ?_
  refine x_bmn.cons (xm_push) ?_
  refine x_bmn.cons (xm_iload) ?_
  refine x_bmn.cons (xm_ast) ?_
  refine x_bmn.cons (xm_aload) ?_
  refine x_bmn.cons (xm_get) ?_
  refine x_bmn.cons (xm_push) ?_
  refine x_bmn.cons (xm_iload) ?_
  refine x_bmn.cons (xm_ast) ?_
  refine x_bmn.cons (xm_iinc) ?_
  refine x_bmn.cons (xm_goto) ?_
  refine x_bmn.cons (xm_iinc) ?_
  refine x_bmn.cons (xm_goto) ?_
  refine x_bmn.cons (xm_iinc) ?_
  refine x_bmn.cons (xm_goto) ?_
  refine x_bmn.cons (xm_iload) ?_
  refine x_bmn.cons (xm_push) ?_
  refine x_bmn.cons (xm_icmp) ?_
  refine x_bmn.cons (xm_push) ?_
  refine x_bmn.cons (xm_goto) ?_
  refine x_bmn.cons (xm_push) ?_
  refine x_bmn.cons (xm_zret) ?_
  exact x_bmn.nil
theorem is_R_mixed : x_Is y_R_mixed m_R_mixed := x_is_code q6_82
def Y_R_mixed : XMeth := x_do 10 b_R_mixed
theorem sn_R_mixed : x_Snd y_R_mixed m_R_mixed Y_R_mixed := x_snd_of (by decide) rfl rfl is_R_mixed k_R_mixed
theorem ym_R_mixed : x_Ymn Y_R_mixed := x_ymn_of mn_R_mixed
/- CashLinkModel.at(I)I -/
abbrev c_R_at : ByteArray := prog_12_method_4_code
def y_R_at : MethodName := ⟨"CashLinkModel", "at", "(I)I"⟩
theorem d_R_at_0 : decode c_R_at 0 = .ok (.sipush 1200, 3) := by decide +kernel
theorem d_R_at_3 : decode c_R_at 3 = .ok (.iload_n 0, 1) := by decide +kernel
theorem d_R_at_4 : decode c_R_at 4 = .ok (.imul, 1) := by decide +kernel
theorem d_R_at_5 : decode c_R_at 5 = .ok (.ireturn, 1) := by decide +kernel
def m_R_at : XM := ("CashLinkModel", c_R_at, 1, (some .int), "at", [], 0, 0)
def b_R_at : XB := [(0, X_push (xv_i 1200) 3),
  (3, X_iload 0 1),
  (4, X_bin (fun x y => x * y)),
  (5, X_iret)]
set_option maxRecDepth 100000 in
theorem k_R_at : x_bok m_R_at b_R_at := by
  unfold b_R_at
  refine x_bok.cons (xs_sipush d_R_at_0 (by decide)) ?_
  refine x_bok.cons (xs_iload_n d_R_at_3 rfl) ?_
  refine x_bok.cons (xs_imul d_R_at_4) ?_
  refine x_bok.cons (xs_iret d_R_at_5 rfl) ?_
  exact x_bok.nil
set_option maxRecDepth 100000 in
theorem mn_R_at : x_bmn b_R_at := by
  unfold b_R_at
  refine x_bmn.cons (xm_push) ?_
  refine x_bmn.cons (xm_iload) ?_
  refine x_bmn.cons (xm_bin) ?_
  refine x_bmn.cons (xm_iret) ?_
  exact x_bmn.nil
theorem is_R_at : x_Is y_R_at m_R_at := x_is_code q6_90
def Y_R_at : XMeth := x_do 1 b_R_at
theorem sn_R_at : x_Snd y_R_at m_R_at Y_R_at := x_snd_of (by decide) rfl rfl is_R_at k_R_at
theorem ym_R_at : x_Ymn Y_R_at := x_ymn_of mn_R_at
/- CashLinkModel.find(IIII)I -/
abbrev c_R_find : ByteArray := prog_12_method_6_code
def y_R_find : MethodName := ⟨"CashLinkModel", "find", "(IIII)I"⟩
theorem d_R_find_0 : decode c_R_find 0 = .ok (.iload_n 1, 1) := by decide +kernel
theorem d_R_find_1 : decode c_R_find 1 = .ok (.invokestatic 100, 3) := by decide +kernel
theorem d_R_find_4 : decode c_R_find 4 = .ok (.istore 5, 2) := by decide +kernel
theorem d_R_find_6 : decode c_R_find 6 = .ok (.iload 5, 2) := by decide +kernel
theorem d_R_find_8 : decode c_R_find 8 = .ok (.iload_n 1, 1) := by decide +kernel
theorem d_R_find_9 : decode c_R_find 9 = .ok (.invokestatic 100, 3) := by decide +kernel
theorem d_R_find_12 : decode c_R_find 12 = .ok (.aload_n 0, 1) := by decide +kernel
theorem d_R_find_13 : decode c_R_find 13 = .ok (.getfield 28, 3) := by decide +kernel
theorem d_R_find_16 : decode c_R_find 16 = .ok (.iload_n 1, 1) := by decide +kernel
theorem d_R_find_17 : decode c_R_find 17 = .ok (.iaload, 1) := by decide +kernel
theorem d_R_find_18 : decode c_R_find 18 = .ok (.iadd, 1) := by decide +kernel
theorem d_R_find_19 : decode c_R_find 19 = .ok (.if_icmp .ge 46, 3) := by decide +kernel
theorem d_R_find_22 : decode c_R_find 22 = .ok (.aload_n 0, 1) := by decide +kernel
theorem d_R_find_23 : decode c_R_find 23 = .ok (.getfield 7, 3) := by decide +kernel
theorem d_R_find_26 : decode c_R_find 26 = .ok (.iload 5, 2) := by decide +kernel
theorem d_R_find_28 : decode c_R_find 28 = .ok (.iaload, 1) := by decide +kernel
theorem d_R_find_29 : decode c_R_find 29 = .ok (.iload_n 2, 1) := by decide +kernel
theorem d_R_find_30 : decode c_R_find 30 = .ok (.if_icmp .ne 29, 3) := by decide +kernel
theorem d_R_find_33 : decode c_R_find 33 = .ok (.aload_n 0, 1) := by decide +kernel
theorem d_R_find_34 : decode c_R_find 34 = .ok (.getfield 13, 3) := by decide +kernel
theorem d_R_find_37 : decode c_R_find 37 = .ok (.iload 5, 2) := by decide +kernel
theorem d_R_find_39 : decode c_R_find 39 = .ok (.iaload, 1) := by decide +kernel
theorem d_R_find_40 : decode c_R_find 40 = .ok (.iload_n 3, 1) := by decide +kernel
theorem d_R_find_41 : decode c_R_find 41 = .ok (.if_icmp .ne 18, 3) := by decide +kernel
theorem d_R_find_44 : decode c_R_find 44 = .ok (.aload_n 0, 1) := by decide +kernel
theorem d_R_find_45 : decode c_R_find 45 = .ok (.getfield 16, 3) := by decide +kernel
theorem d_R_find_48 : decode c_R_find 48 = .ok (.iload 5, 2) := by decide +kernel
theorem d_R_find_50 : decode c_R_find 50 = .ok (.iaload, 1) := by decide +kernel
theorem d_R_find_51 : decode c_R_find 51 = .ok (.iload 4, 2) := by decide +kernel
theorem d_R_find_53 : decode c_R_find 53 = .ok (.if_icmp .ne 6, 3) := by decide +kernel
theorem d_R_find_56 : decode c_R_find 56 = .ok (.iload 5, 2) := by decide +kernel
theorem d_R_find_58 : decode c_R_find 58 = .ok (.ireturn, 1) := by decide +kernel
theorem d_R_find_59 : decode c_R_find 59 = .ok (.iinc 5 1, 3) := by decide +kernel
theorem d_R_find_62 : decode c_R_find 62 = .ok (.goto (-56), 3) := by decide +kernel
theorem d_R_find_65 : decode c_R_find 65 = .ok (.iconst (-1), 1) := by decide +kernel
theorem d_R_find_66 : decode c_R_find 66 = .ok (.ireturn, 1) := by decide +kernel
def m_R_find : XM := ("CashLinkModel", c_R_find, 6, (some .int), "find", [], 1, 20)
def b_R_find : XB := [(0, X_iload 1 1),
  (1, X_invS Y_R_at 1 []),
  (4, X_istore 5 2),
  (6, X_iload 5 2),
  (8, X_iload 1 1),
  (9, X_invS Y_R_at 1 []),
  (12, X_aload 0 1),
  (13, X_get 10 6),
  (16, X_iload 1 1),
  (17, X_ald 0),
  (18, X_bin (fun x y => x + y)),
  (19, X_icmp (fun x y => y ≤ x) 65),
  (22, X_aload 0 1),
  (23, X_get 10 0),
  (26, X_iload 5 2),
  (28, X_ald 0),
  (29, X_iload 2 1),
  (30, X_icmp (fun x y => ¬ x = y) 59),
  (33, X_aload 0 1),
  (34, X_get 10 1),
  (37, X_iload 5 2),
  (39, X_ald 0),
  (40, X_iload 3 1),
  (41, X_icmp (fun x y => ¬ x = y) 59),
  (44, X_aload 0 1),
  (45, X_get 10 2),
  (48, X_iload 5 2),
  (50, X_ald 0),
  (51, X_iload 4 2),
  (53, X_icmp (fun x y => ¬ x = y) 59),
  (56, X_iload 5 2),
  (58, X_iret),
  (59, X_iinc 5 1),
  (62, X_goto 6),
  (65, X_push (xv_i (-1)) 1),
  (66, X_iret)]
set_option maxRecDepth 100000 in
theorem k_R_find : x_bok m_R_find b_R_find := by
  unfold b_R_find
  refine x_bok.cons (xs_iload_n d_R_find_0 rfl) ?_
  refine x_bok.cons (xs_invS d_R_find_1 sn_R_at is_R_at ⟨q6_88, q6_89, q1_12⟩ (by decide) (by decide) rfl) ?_
  refine x_bok.cons (xs_istore d_R_find_4 (by decide)) ?_
  refine x_bok.cons (xs_iload d_R_find_6) ?_
  refine x_bok.cons (xs_iload_n d_R_find_8 rfl) ?_
  refine x_bok.cons (xs_invS d_R_find_9 sn_R_at is_R_at ⟨q6_88, q6_89, q1_12⟩ (by decide) (by decide) rfl) ?_
  refine x_bok.cons (xs_aload_n d_R_find_12 rfl) ?_
  refine x_bok.cons (xs_get d_R_find_13 xc10 xw10 (by decide) q5_211 (Or.inl rfl)) ?_
  refine x_bok.cons (xs_iload_n d_R_find_16 rfl) ?_
  refine x_bok.cons (xs_iald d_R_find_17 rfl) ?_
  refine x_bok.cons (xs_iadd d_R_find_18) ?_
  refine x_bok.cons (xs_icmp_ge d_R_find_19 (by decide)) ?_
  refine x_bok.cons (xs_aload_n d_R_find_22 rfl) ?_
  refine x_bok.cons (xs_get d_R_find_23 xc10 xw10 (by decide) q5_205 (Or.inl rfl)) ?_
  refine x_bok.cons (xs_iload d_R_find_26) ?_
  refine x_bok.cons (xs_iald d_R_find_28 rfl) ?_
  refine x_bok.cons (xs_iload_n d_R_find_29 rfl) ?_
  refine x_bok.cons (xs_icmp_ne d_R_find_30 (by decide)) ?_
  refine x_bok.cons (xs_aload_n d_R_find_33 rfl) ?_
  refine x_bok.cons (xs_get d_R_find_34 xc10 xw10 (by decide) q5_206 (Or.inl rfl)) ?_
  refine x_bok.cons (xs_iload d_R_find_37) ?_
  refine x_bok.cons (xs_iald d_R_find_39 rfl) ?_
  refine x_bok.cons (xs_iload_n d_R_find_40 rfl) ?_
  refine x_bok.cons (xs_icmp_ne d_R_find_41 (by decide)) ?_
  refine x_bok.cons (xs_aload_n d_R_find_44 rfl) ?_
  refine x_bok.cons (xs_get d_R_find_45 xc10 xw10 (by decide) q5_207 (Or.inl rfl)) ?_
  refine x_bok.cons (xs_iload d_R_find_48) ?_
  refine x_bok.cons (xs_iald d_R_find_50 rfl) ?_
  refine x_bok.cons (xs_iload d_R_find_51) ?_
  refine x_bok.cons (xs_icmp_ne d_R_find_53 (by decide)) ?_
  refine x_bok.cons (xs_iload d_R_find_56) ?_
  refine x_bok.cons (xs_iret d_R_find_58 rfl) ?_
  refine x_bok.cons (xs_iinc d_R_find_59 (by decide) (by decide)) ?_
  refine x_bok.cons (xs_goto d_R_find_62 (by decide)) ?_
  refine x_bok.cons (xs_iconst d_R_find_65 (by decide)) ?_
  refine x_bok.cons (xs_iret d_R_find_66 rfl) ?_
  exact x_bok.nil
set_option maxRecDepth 100000 in
theorem mn_R_find : x_bmn b_R_find := by
  unfold b_R_find
  refine x_bmn.cons (xm_iload) ?_
  refine x_bmn.cons (xm_invS ym_R_at) ?_
  refine x_bmn.cons (xm_istore) ?_
  refine x_bmn.cons (xm_iload) ?_
  refine x_bmn.cons (xm_iload) ?_
  refine x_bmn.cons (xm_invS ym_R_at) ?_
  refine x_bmn.cons (xm_aload) ?_
  refine x_bmn.cons (xm_get) ?_
  refine x_bmn.cons (xm_iload) ?_
  refine x_bmn.cons (xm_ald) ?_
  refine x_bmn.cons (xm_bin) ?_
  refine x_bmn.cons (xm_icmp) ?_
  refine x_bmn.cons (xm_aload) ?_
  refine x_bmn.cons (xm_get) ?_
  refine x_bmn.cons (xm_iload) ?_
  refine x_bmn.cons (xm_ald) ?_
  refine x_bmn.cons (xm_iload) ?_
  refine x_bmn.cons (xm_icmp) ?_
  refine x_bmn.cons (xm_aload) ?_
  refine x_bmn.cons (xm_get) ?_
  refine x_bmn.cons (xm_iload) ?_
  refine x_bmn.cons (xm_ald) ?_
  refine x_bmn.cons (xm_iload) ?_
  refine x_bmn.cons (xm_icmp) ?_
  refine x_bmn.cons (xm_aload) ?_
  refine x_bmn.cons (xm_get) ?_
  refine x_bmn.cons (xm_iload) ?_
  refine x_bmn.cons (xm_ald) ?_
  refine x_bmn.cons (xm_iload) ?_
  refine x_bmn.cons (xm_icmp) ?_
  refine x_bmn.cons (xm_iload) ?_
  refine x_bmn.cons (xm_iret) ?_
  refine x_bmn.cons (xm_iinc) ?_
  refine x_bmn.cons (xm_goto) ?_
  refine x_bmn.cons (xm_push) ?_
  refine x_bmn.cons (xm_iret) ?_
  exact x_bmn.nil
theorem is_R_find : x_Is y_R_find m_R_find := x_is_code q6_102
def Y_R_find : XMeth := x_do 6 b_R_find
theorem sn_R_find : x_Snd y_R_find m_R_find Y_R_find := x_snd_of (by decide) rfl rfl is_R_find k_R_find
theorem ym_R_find : x_Ymn Y_R_find := x_ymn_of mn_R_find
/- CashLinkModel.has(III)Z -/
abbrev c_R_has : ByteArray := prog_12_method_7_code
def y_R_has : MethodName := ⟨"CashLinkModel", "has", "(III)Z"⟩
theorem d_R_has_0 : decode c_R_has 0 = .ok (.aload_n 0, 1) := by decide +kernel
theorem d_R_has_1 : decode c_R_has 1 = .ok (.iload_n 1, 1) := by decide +kernel
theorem d_R_has_2 : decode c_R_has 2 = .ok (.iload_n 2, 1) := by decide +kernel
theorem d_R_has_3 : decode c_R_has 3 = .ok (.iload_n 1, 1) := by decide +kernel
theorem d_R_has_4 : decode c_R_has 4 = .ok (.iload_n 3, 1) := by decide +kernel
theorem d_R_has_5 : decode c_R_has 5 = .ok (.invokevirtual 107, 3) := by decide +kernel
theorem d_R_has_8 : decode c_R_has 8 = .ok (.ifCond .lt 7, 3) := by decide +kernel
theorem d_R_has_11 : decode c_R_has 11 = .ok (.iconst 1, 1) := by decide +kernel
theorem d_R_has_12 : decode c_R_has 12 = .ok (.goto 4, 3) := by decide +kernel
theorem d_R_has_15 : decode c_R_has 15 = .ok (.iconst 0, 1) := by decide +kernel
theorem d_R_has_16 : decode c_R_has 16 = .ok (.ireturn, 1) := by decide +kernel
def m_R_has : XM := ("CashLinkModel", c_R_has, 4, (some .boolean), "has", [], 2, 45)
def b_R_has : XB := [(0, X_aload 0 1),
  (1, X_iload 1 1),
  (2, X_iload 2 1),
  (3, X_iload 1 1),
  (4, X_iload 3 1),
  (5, X_invV 10 Y_R_find 4 []),
  (8, X_if (fun x => x < 0) 15),
  (11, X_push (xv_i 1) 1),
  (12, X_goto 16),
  (15, X_push (xv_i 0) 1),
  (16, X_zret)]
set_option maxRecDepth 100000 in
theorem k_R_has : x_bok m_R_has b_R_has := by
  unfold b_R_has
  refine x_bok.cons (xs_aload_n d_R_has_0 rfl) ?_
  refine x_bok.cons (xs_iload_n d_R_has_1 rfl) ?_
  refine x_bok.cons (xs_iload_n d_R_has_2 rfl) ?_
  refine x_bok.cons (xs_iload_n d_R_has_3 rfl) ?_
  refine x_bok.cons (xs_iload_n d_R_has_4 rfl) ?_
  refine x_bok.cons (xs_invV d_R_has_5 xc10 sn_R_find is_R_find ⟨q6_99, q6_101, (x_sel (x_p3 (List.mem_of_getElem? (i := 1) rfl))), q1_12⟩ (by decide) (by decide) rfl) ?_
  refine x_bok.cons (xs_if_lt d_R_has_8 (by decide)) ?_
  refine x_bok.cons (xs_iconst d_R_has_11 (by decide)) ?_
  refine x_bok.cons (xs_goto d_R_has_12 (by decide)) ?_
  refine x_bok.cons (xs_iconst d_R_has_15 (by decide)) ?_
  refine x_bok.cons (xs_zret d_R_has_16 rfl) ?_
  exact x_bok.nil
set_option maxRecDepth 100000 in
theorem mn_R_has : x_bmn b_R_has := by
  unfold b_R_has
  refine x_bmn.cons (xm_aload) ?_
  refine x_bmn.cons (xm_iload) ?_
  refine x_bmn.cons (xm_iload) ?_
  refine x_bmn.cons (xm_iload) ?_
  refine x_bmn.cons (xm_iload) ?_
  refine x_bmn.cons (xm_invV ym_R_find) ?_
  refine x_bmn.cons (xm_if) ?_
  refine x_bmn.cons (xm_push) ?_
  refine x_bmn.cons (xm_goto) ?_
  refine x_bmn.cons (xm_push) ?_
  refine x_bmn.cons (xm_zret) ?_
  exact x_bmn.nil
theorem is_R_has : x_Is y_R_has m_R_has := x_is_code q6_98
def Y_R_has : XMeth := x_do 4 b_R_has
theorem sn_R_has : x_Snd y_R_has m_R_has Y_R_has := x_snd_of (by decide) rfl rfl is_R_has k_R_has
theorem ym_R_has : x_Ymn Y_R_has := x_ymn_of mn_R_has
/- CashLinkModel.isVoid(II)Z -/
abbrev c_R_isVoid : ByteArray := prog_12_method_9_code
def y_R_isVoid : MethodName := ⟨"CashLinkModel", "isVoid", "(II)Z"⟩
theorem d_R_isVoid_0 : decode c_R_isVoid 0 = .ok (.aload_n 0, 1) := by decide +kernel
theorem d_R_isVoid_1 : decode c_R_isVoid 1 = .ok (.getfield 7, 3) := by decide +kernel
theorem d_R_isVoid_4 : decode c_R_isVoid 4 = .ok (.iload_n 2, 1) := by decide +kernel
theorem d_R_isVoid_5 : decode c_R_isVoid 5 = .ok (.iaload, 1) := by decide +kernel
theorem d_R_isVoid_6 : decode c_R_isVoid 6 = .ok (.iconst 4, 1) := by decide +kernel
theorem d_R_isVoid_7 : decode c_R_isVoid 7 = .ok (.if_icmp .ne 22, 3) := by decide +kernel
theorem d_R_isVoid_10 : decode c_R_isVoid 10 = .ok (.aload_n 0, 1) := by decide +kernel
theorem d_R_isVoid_11 : decode c_R_isVoid 11 = .ok (.iload_n 1, 1) := by decide +kernel
theorem d_R_isVoid_12 : decode c_R_isVoid 12 = .ok (.iconst 5, 1) := by decide +kernel
theorem d_R_isVoid_13 : decode c_R_isVoid 13 = .ok (.aload_n 0, 1) := by decide +kernel
theorem d_R_isVoid_14 : decode c_R_isVoid 14 = .ok (.getfield 16, 3) := by decide +kernel
theorem d_R_isVoid_17 : decode c_R_isVoid 17 = .ok (.iload_n 2, 1) := by decide +kernel
theorem d_R_isVoid_18 : decode c_R_isVoid 18 = .ok (.iaload, 1) := by decide +kernel
theorem d_R_isVoid_19 : decode c_R_isVoid 19 = .ok (.invokevirtual 111, 3) := by decide +kernel
theorem d_R_isVoid_22 : decode c_R_isVoid 22 = .ok (.ifCond .ne 7, 3) := by decide +kernel
theorem d_R_isVoid_25 : decode c_R_isVoid 25 = .ok (.iconst 1, 1) := by decide +kernel
theorem d_R_isVoid_26 : decode c_R_isVoid 26 = .ok (.goto 4, 3) := by decide +kernel
theorem d_R_isVoid_29 : decode c_R_isVoid 29 = .ok (.iconst 0, 1) := by decide +kernel
theorem d_R_isVoid_30 : decode c_R_isVoid 30 = .ok (.ireturn, 1) := by decide +kernel
def m_R_isVoid : XM := ("CashLinkModel", c_R_isVoid, 3, (some .boolean), "isVoid", [], 3, 68)
def b_R_isVoid : XB := [(0, X_aload 0 1),
  (1, X_get 10 0),
  (4, X_iload 2 1),
  (5, X_ald 0),
  (6, X_push (xv_i 4) 1),
  (7, X_icmp (fun x y => ¬ x = y) 29),
  (10, X_aload 0 1),
  (11, X_iload 1 1),
  (12, X_push (xv_i 5) 1),
  (13, X_aload 0 1),
  (14, X_get 10 2),
  (17, X_iload 2 1),
  (18, X_ald 0),
  (19, X_invV 10 Y_R_has 3 []),
  (22, X_if (fun x => ¬ x = 0) 29),
  (25, X_push (xv_i 1) 1),
  (26, X_goto 30),
  (29, X_push (xv_i 0) 1),
  (30, X_zret)]
set_option maxRecDepth 100000 in
theorem k_R_isVoid : x_bok m_R_isVoid b_R_isVoid := by
  unfold b_R_isVoid
  refine x_bok.cons (xs_aload_n d_R_isVoid_0 rfl) ?_
  refine x_bok.cons (xs_get d_R_isVoid_1 xc10 xw10 (by decide) q5_205 (Or.inl rfl)) ?_
  refine x_bok.cons (xs_iload_n d_R_isVoid_4 rfl) ?_
  refine x_bok.cons (xs_iald d_R_isVoid_5 rfl) ?_
  refine x_bok.cons (xs_iconst d_R_isVoid_6 (by decide)) ?_
  refine x_bok.cons (xs_icmp_ne d_R_isVoid_7 (by decide)) ?_
  refine x_bok.cons (xs_aload_n d_R_isVoid_10 rfl) ?_
  refine x_bok.cons (xs_iload_n d_R_isVoid_11 rfl) ?_
  refine x_bok.cons (xs_iconst d_R_isVoid_12 (by decide)) ?_
  refine x_bok.cons (xs_aload_n d_R_isVoid_13 rfl) ?_
  refine x_bok.cons (xs_get d_R_isVoid_14 xc10 xw10 (by decide) q5_207 (Or.inl rfl)) ?_
  refine x_bok.cons (xs_iload_n d_R_isVoid_17 rfl) ?_
  refine x_bok.cons (xs_iald d_R_isVoid_18 rfl) ?_
  refine x_bok.cons (xs_invV d_R_isVoid_19 xc10 sn_R_has is_R_has ⟨q6_95, q6_97, (x_sel (x_p3 (List.mem_of_getElem? (i := 0) rfl))), q1_12⟩ (by decide) (by decide) rfl) ?_
  refine x_bok.cons (xs_if_ne d_R_isVoid_22 (by decide)) ?_
  refine x_bok.cons (xs_iconst d_R_isVoid_25 (by decide)) ?_
  refine x_bok.cons (xs_goto d_R_isVoid_26 (by decide)) ?_
  refine x_bok.cons (xs_iconst d_R_isVoid_29 (by decide)) ?_
  refine x_bok.cons (xs_zret d_R_isVoid_30 rfl) ?_
  exact x_bok.nil
set_option maxRecDepth 100000 in
theorem mn_R_isVoid : x_bmn b_R_isVoid := by
  unfold b_R_isVoid
  refine x_bmn.cons (xm_aload) ?_
  refine x_bmn.cons (xm_get) ?_
  refine x_bmn.cons (xm_iload) ?_
  refine x_bmn.cons (xm_ald) ?_
  refine x_bmn.cons (xm_push) ?_
  refine x_bmn.cons (xm_icmp) ?_
  refine x_bmn.cons (xm_aload) ?_
  refine x_bmn.cons (xm_iload) ?_
  refine x_bmn.cons (xm_push) ?_
  refine x_bmn.cons (xm_aload) ?_
  refine x_bmn.cons (xm_get) ?_
  refine x_bmn.cons (xm_iload) ?_
  refine x_bmn.cons (xm_ald) ?_
  refine x_bmn.cons (xm_invV ym_R_has) ?_
  refine x_bmn.cons (xm_if) ?_
  refine x_bmn.cons (xm_push) ?_
  refine x_bmn.cons (xm_goto) ?_
  refine x_bmn.cons (xm_push) ?_
  refine x_bmn.cons (xm_zret) ?_
  exact x_bmn.nil
theorem is_R_isVoid : x_Is y_R_isVoid m_R_isVoid := x_is_code q6_94
def Y_R_isVoid : XMeth := x_do 3 b_R_isVoid
theorem sn_R_isVoid : x_Snd y_R_isVoid m_R_isVoid Y_R_isVoid := x_snd_of (by decide) rfl rfl is_R_isVoid k_R_isVoid
theorem ym_R_isVoid : x_Ymn Y_R_isVoid := x_ymn_of mn_R_isVoid
