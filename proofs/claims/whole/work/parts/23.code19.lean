/- CashLinkModel.settle(I)I -/
abbrev c_R_settle : ByteArray := prog_12_method_30_code
def y_R_settle : MethodName := ⟨"CashLinkModel", "settle", "(I)I"⟩
theorem d_R_settle_0 : decode c_R_settle 0 = .ok (.aload_n 0, 1) := by decide +kernel
theorem d_R_settle_1 : decode c_R_settle 1 = .ok (.iload_n 1, 1) := by decide +kernel
theorem d_R_settle_2 : decode c_R_settle 2 = .ok (.iconst 0, 1) := by decide +kernel
theorem d_R_settle_3 : decode c_R_settle 3 = .ok (.iconst 3, 1) := by decide +kernel
theorem d_R_settle_4 : decode c_R_settle 4 = .ok (.invokestatic 175, 3) := by decide +kernel
theorem d_R_settle_7 : decode c_R_settle 7 = .ok (.ifCond .ne 7, 3) := by decide +kernel
theorem d_R_settle_10 : decode c_R_settle 10 = .ok (.iconst 1, 1) := by decide +kernel
theorem d_R_settle_11 : decode c_R_settle 11 = .ok (.goto 35, 3) := by decide +kernel
theorem d_R_settle_14 : decode c_R_settle 14 = .ok (.aload_n 0, 1) := by decide +kernel
theorem d_R_settle_15 : decode c_R_settle 15 = .ok (.getfield 41, 3) := by decide +kernel
theorem d_R_settle_18 : decode c_R_settle 18 = .ok (.iload_n 1, 1) := by decide +kernel
theorem d_R_settle_19 : decode c_R_settle 19 = .ok (.iaload, 1) := by decide +kernel
theorem d_R_settle_20 : decode c_R_settle 20 = .ok (.ifCond .eq 21, 3) := by decide +kernel
theorem d_R_settle_23 : decode c_R_settle 23 = .ok (.aload_n 0, 1) := by decide +kernel
theorem d_R_settle_24 : decode c_R_settle 24 = .ok (.getfield 41, 3) := by decide +kernel
theorem d_R_settle_27 : decode c_R_settle 27 = .ok (.iload_n 1, 1) := by decide +kernel
theorem d_R_settle_28 : decode c_R_settle 28 = .ok (.iaload, 1) := by decide +kernel
theorem d_R_settle_29 : decode c_R_settle 29 = .ok (.iconst 4, 1) := by decide +kernel
theorem d_R_settle_30 : decode c_R_settle 30 = .ok (.if_icmp .eq 11, 3) := by decide +kernel
theorem d_R_settle_33 : decode c_R_settle 33 = .ok (.aload_n 0, 1) := by decide +kernel
theorem d_R_settle_34 : decode c_R_settle 34 = .ok (.iload_n 1, 1) := by decide +kernel
theorem d_R_settle_35 : decode c_R_settle 35 = .ok (.invokevirtual 178, 3) := by decide +kernel
theorem d_R_settle_38 : decode c_R_settle 38 = .ok (.ifCond .le 7, 3) := by decide +kernel
theorem d_R_settle_41 : decode c_R_settle 41 = .ok (.iconst 2, 1) := by decide +kernel
theorem d_R_settle_42 : decode c_R_settle 42 = .ok (.goto 4, 3) := by decide +kernel
theorem d_R_settle_45 : decode c_R_settle 45 = .ok (.iconst 0, 1) := by decide +kernel
theorem d_R_settle_46 : decode c_R_settle 46 = .ok (.putfield 96, 3) := by decide +kernel
theorem d_R_settle_49 : decode c_R_settle 49 = .ok (.aload_n 0, 1) := by decide +kernel
theorem d_R_settle_50 : decode c_R_settle 50 = .ok (.getfield 96, 3) := by decide +kernel
theorem d_R_settle_53 : decode c_R_settle 53 = .ok (.ifCond .le 5, 3) := by decide +kernel
theorem d_R_settle_56 : decode c_R_settle 56 = .ok (.iconst 0, 1) := by decide +kernel
theorem d_R_settle_57 : decode c_R_settle 57 = .ok (.ireturn, 1) := by decide +kernel
theorem d_R_settle_58 : decode c_R_settle 58 = .ok (.iconst 0, 1) := by decide +kernel
theorem d_R_settle_59 : decode c_R_settle 59 = .ok (.istore_n 2, 1) := by decide +kernel
theorem d_R_settle_60 : decode c_R_settle 60 = .ok (.iload_n 1, 1) := by decide +kernel
theorem d_R_settle_61 : decode c_R_settle 61 = .ok (.invokestatic 100, 3) := by decide +kernel
theorem d_R_settle_64 : decode c_R_settle 64 = .ok (.istore_n 3, 1) := by decide +kernel
theorem d_R_settle_65 : decode c_R_settle 65 = .ok (.iload_n 3, 1) := by decide +kernel
theorem d_R_settle_66 : decode c_R_settle 66 = .ok (.iload_n 1, 1) := by decide +kernel
theorem d_R_settle_67 : decode c_R_settle 67 = .ok (.invokestatic 100, 3) := by decide +kernel
theorem d_R_settle_70 : decode c_R_settle 70 = .ok (.aload_n 0, 1) := by decide +kernel
theorem d_R_settle_71 : decode c_R_settle 71 = .ok (.getfield 28, 3) := by decide +kernel
theorem d_R_settle_74 : decode c_R_settle 74 = .ok (.iload_n 1, 1) := by decide +kernel
theorem d_R_settle_75 : decode c_R_settle 75 = .ok (.iaload, 1) := by decide +kernel
theorem d_R_settle_76 : decode c_R_settle 76 = .ok (.iadd, 1) := by decide +kernel
theorem d_R_settle_77 : decode c_R_settle 77 = .ok (.if_icmp .ge 28, 3) := by decide +kernel
theorem d_R_settle_80 : decode c_R_settle 80 = .ok (.aload_n 0, 1) := by decide +kernel
theorem d_R_settle_81 : decode c_R_settle 81 = .ok (.getfield 7, 3) := by decide +kernel
theorem d_R_settle_84 : decode c_R_settle 84 = .ok (.iload_n 3, 1) := by decide +kernel
theorem d_R_settle_85 : decode c_R_settle 85 = .ok (.iaload, 1) := by decide +kernel
theorem d_R_settle_86 : decode c_R_settle 86 = .ok (.iconst 3, 1) := by decide +kernel
theorem d_R_settle_87 : decode c_R_settle 87 = .ok (.if_icmp .ne 12, 3) := by decide +kernel
theorem d_R_settle_90 : decode c_R_settle 90 = .ok (.iload_n 2, 1) := by decide +kernel
theorem d_R_settle_91 : decode c_R_settle 91 = .ok (.aload_n 0, 1) := by decide +kernel
theorem d_R_settle_92 : decode c_R_settle 92 = .ok (.getfield 19, 3) := by decide +kernel
theorem d_R_settle_95 : decode c_R_settle 95 = .ok (.iload_n 3, 1) := by decide +kernel
theorem d_R_settle_96 : decode c_R_settle 96 = .ok (.iaload, 1) := by decide +kernel
theorem d_R_settle_97 : decode c_R_settle 97 = .ok (.iadd, 1) := by decide +kernel
theorem d_R_settle_98 : decode c_R_settle 98 = .ok (.istore_n 2, 1) := by decide +kernel
theorem d_R_settle_99 : decode c_R_settle 99 = .ok (.iinc 3 1, 3) := by decide +kernel
theorem d_R_settle_102 : decode c_R_settle 102 = .ok (.goto (-37), 3) := by decide +kernel
theorem d_R_settle_105 : decode c_R_settle 105 = .ok (.aload_n 0, 1) := by decide +kernel
theorem d_R_settle_106 : decode c_R_settle 106 = .ok (.sipush 500, 3) := by decide +kernel
theorem d_R_settle_109 : decode c_R_settle 109 = .ok (.iconst 0, 1) := by decide +kernel
theorem d_R_settle_110 : decode c_R_settle 110 = .ok (.iload_n 2, 1) := by decide +kernel
theorem d_R_settle_111 : decode c_R_settle 111 = .ok (.aload_n 0, 1) := by decide +kernel
theorem d_R_settle_112 : decode c_R_settle 112 = .ok (.iload_n 1, 1) := by decide +kernel
theorem d_R_settle_113 : decode c_R_settle 113 = .ok (.invokevirtual 146, 3) := by decide +kernel
theorem d_R_settle_116 : decode c_R_settle 116 = .ok (.iconst 0, 1) := by decide +kernel
theorem d_R_settle_117 : decode c_R_settle 117 = .ok (.iload_n 1, 1) := by decide +kernel
theorem d_R_settle_118 : decode c_R_settle 118 = .ok (.invokevirtual 142, 3) := by decide +kernel
theorem d_R_settle_121 : decode c_R_settle 121 = .ok (.iload_n 2, 1) := by decide +kernel
theorem d_R_settle_122 : decode c_R_settle 122 = .ok (.ireturn, 1) := by decide +kernel
def m_R_settle : XM := ("CashLinkModel", c_R_settle, 4, (some .int), "settle", [], 5, 113)
def b_R_settle : XB := [(0, X_aload 0 1),
  (1, X_iload 1 1),
  (2, X_push (xv_i 0) 1),
  (3, X_push (xv_i 3) 1),
  (4, X_invS Y_R_in 3 []),
  (7, X_if (fun x => ¬ x = 0) 14),
  (10, X_push (xv_i 1) 1),
  (11, X_goto 46),
  (14, X_aload 0 1),
  (15, X_get 10 10),
  (18, X_iload 1 1),
  (19, X_ald 0),
  (20, X_if (fun x => x = 0) 41),
  (23, X_aload 0 1),
  (24, X_get 10 10),
  (27, X_iload 1 1),
  (28, X_ald 0),
  (29, X_push (xv_i 4) 1),
  (30, X_icmp (fun x y => x = y) 41),
  (33, X_aload 0 1),
  (34, X_iload 1 1),
  (35, X_invV 10 Y_R_voids 1 []),
  (38, X_if (fun x => x ≤ 0) 45),
  (41, X_push (xv_i 2) 1),
  (42, X_goto 46),
  (45, X_push (xv_i 0) 1),
  (46, X_put x_tI 10 26),
  (49, X_aload 0 1),
  (50, X_get 10 26),
  (53, X_if (fun x => x ≤ 0) 58),
  (56, X_push (xv_i 0) 1),
  (57, X_iret),
  (58, X_push (xv_i 0) 1),
  (59, X_istore 2 1),
  (60, X_iload 1 1),
  (61, X_invS Y_R_at 1 []),
  (64, X_istore 3 1),
  (65, X_iload 3 1),
  (66, X_iload 1 1),
  (67, X_invS Y_R_at 1 []),
  (70, X_aload 0 1),
  (71, X_get 10 6),
  (74, X_iload 1 1),
  (75, X_ald 0),
  (76, X_bin (fun x y => x + y)),
  (77, X_icmp (fun x y => y ≤ x) 105),
  (80, X_aload 0 1),
  (81, X_get 10 0),
  (84, X_iload 3 1),
  (85, X_ald 0),
  (86, X_push (xv_i 3) 1),
  (87, X_icmp (fun x y => ¬ x = y) 99),
  (90, X_iload 2 1),
  (91, X_aload 0 1),
  (92, X_get 10 3),
  (95, X_iload 3 1),
  (96, X_ald 0),
  (97, X_bin (fun x y => x + y)),
  (98, X_istore 2 1),
  (99, X_iinc 3 1),
  (102, X_goto 65),
  (105, X_aload 0 1),
  (106, X_push (xv_i 500) 3),
  (109, X_push (xv_i 0) 1),
  (110, X_iload 2 1),
  (111, X_aload 0 1),
  (112, X_iload 1 1),
  (113, X_invV 10 Y_R_lastTrace 1 []),
  (116, X_push (xv_i 0) 1),
  (117, X_iload 1 1),
  (118, X_invV 10 Y_R_sent 6 []),
  (121, X_iload 2 1),
  (122, X_iret)]
set_option maxRecDepth 100000 in
theorem k_R_settle : x_bok m_R_settle b_R_settle := by
  unfold b_R_settle
  refine x_bok.cons (xs_aload_n d_R_settle_0 rfl) ?_
  refine x_bok.cons (xs_iload_n d_R_settle_1 rfl) ?_
  refine x_bok.cons (xs_iconst d_R_settle_2 (by decide)) ?_
  refine x_bok.cons (xs_iconst d_R_settle_3 (by decide)) ?_
  refine x_bok.cons (xs_invS d_R_settle_4 sn_R_in is_R_in ⟨q6_67, q6_68, q1_12⟩ (by decide) (by decide) rfl) ?_
  refine x_bok.cons (xs_if_ne d_R_settle_7 (by decide)) ?_
  refine x_bok.cons (xs_iconst d_R_settle_10 (by decide)) ?_
  refine x_bok.cons (xs_goto d_R_settle_11 (by decide)) ?_
  refine x_bok.cons (xs_aload_n d_R_settle_14 rfl) ?_
  refine x_bok.cons (xs_get d_R_settle_15 xc10 xw10 (by decide) q5_215 (Or.inl rfl)) ?_
  refine x_bok.cons (xs_iload_n d_R_settle_18 rfl) ?_
  refine x_bok.cons (xs_iald d_R_settle_19 rfl) ?_
  refine x_bok.cons (xs_if_eq d_R_settle_20 (by decide)) ?_
  refine x_bok.cons (xs_aload_n d_R_settle_23 rfl) ?_
  refine x_bok.cons (xs_get d_R_settle_24 xc10 xw10 (by decide) q5_215 (Or.inl rfl)) ?_
  refine x_bok.cons (xs_iload_n d_R_settle_27 rfl) ?_
  refine x_bok.cons (xs_iald d_R_settle_28 rfl) ?_
  refine x_bok.cons (xs_iconst d_R_settle_29 (by decide)) ?_
  refine x_bok.cons (xs_icmp_eq d_R_settle_30 (by decide)) ?_
  refine x_bok.cons (xs_aload_n d_R_settle_33 rfl) ?_
  refine x_bok.cons (xs_iload_n d_R_settle_34 rfl) ?_
  refine x_bok.cons (xs_invV d_R_settle_35 xc10 sn_R_voids is_R_voids ⟨q6_84, q6_86, (x_sel (x_p2 (List.mem_of_getElem? (i := 14) rfl))), q1_12⟩ (by decide) (by decide) rfl) ?_
  refine x_bok.cons (xs_if_le d_R_settle_38 (by decide)) ?_
  refine x_bok.cons (xs_iconst d_R_settle_41 (by decide)) ?_
  refine x_bok.cons (xs_goto d_R_settle_42 (by decide)) ?_
  refine x_bok.cons (xs_iconst d_R_settle_45 (by decide)) ?_
  refine x_bok.cons (xs_put d_R_settle_46 xc10 xw10 xt10 xn10 (by decide) q5_231 (Or.inl rfl) rfl rfl x_fitI) ?_
  refine x_bok.cons (xs_aload_n d_R_settle_49 rfl) ?_
  refine x_bok.cons (xs_get d_R_settle_50 xc10 xw10 (by decide) q5_231 (Or.inl rfl)) ?_
  refine x_bok.cons (xs_if_le d_R_settle_53 (by decide)) ?_
  refine x_bok.cons (xs_iconst d_R_settle_56 (by decide)) ?_
  refine x_bok.cons (xs_iret d_R_settle_57 rfl) ?_
  refine x_bok.cons (xs_iconst d_R_settle_58 (by decide)) ?_
  refine x_bok.cons (xs_istore_n d_R_settle_59 rfl (by decide)) ?_
  refine x_bok.cons (xs_iload_n d_R_settle_60 rfl) ?_
  refine x_bok.cons (xs_invS d_R_settle_61 sn_R_at is_R_at ⟨q6_88, q6_89, q1_12⟩ (by decide) (by decide) rfl) ?_
  refine x_bok.cons (xs_istore_n d_R_settle_64 rfl (by decide)) ?_
  refine x_bok.cons (xs_iload_n d_R_settle_65 rfl) ?_
  refine x_bok.cons (xs_iload_n d_R_settle_66 rfl) ?_
  refine x_bok.cons (xs_invS d_R_settle_67 sn_R_at is_R_at ⟨q6_88, q6_89, q1_12⟩ (by decide) (by decide) rfl) ?_
  refine x_bok.cons (xs_aload_n d_R_settle_70 rfl) ?_
  refine x_bok.cons (xs_get d_R_settle_71 xc10 xw10 (by decide) q5_211 (Or.inl rfl)) ?_
  refine x_bok.cons (xs_iload_n d_R_settle_74 rfl) ?_
  refine x_bok.cons (xs_iald d_R_settle_75 rfl) ?_
  refine x_bok.cons (xs_iadd d_R_settle_76) ?_
  refine x_bok.cons (xs_icmp_ge d_R_settle_77 (by decide)) ?_
  refine x_bok.cons (xs_aload_n d_R_settle_80 rfl) ?_
  refine x_bok.cons (xs_get d_R_settle_81 xc10 xw10 (by decide) q5_205 (Or.inl rfl)) ?_
  refine x_bok.cons (xs_iload_n d_R_settle_84 rfl) ?_
  refine x_bok.cons (xs_iald d_R_settle_85 rfl) ?_
  refine x_bok.cons (xs_iconst d_R_settle_86 (by decide)) ?_
  refine x_bok.cons (xs_icmp_ne d_R_settle_87 (by decide)) ?_
  refine x_bok.cons (xs_iload_n d_R_settle_90 rfl) ?_
  refine x_bok.cons (xs_aload_n d_R_settle_91 rfl) ?_
  refine x_bok.cons (xs_get d_R_settle_92 xc10 xw10 (by decide) q5_208 (Or.inl rfl)) ?_
  refine x_bok.cons (xs_iload_n d_R_settle_95 rfl) ?_
  refine x_bok.cons (xs_iald d_R_settle_96 rfl) ?_
  refine x_bok.cons (xs_iadd d_R_settle_97) ?_
  refine x_bok.cons (xs_istore_n d_R_settle_98 rfl (by decide)) ?_
  refine x_bok.cons (xs_iinc d_R_settle_99 (by decide) (by decide)) ?_
  refine x_bok.cons (xs_goto d_R_settle_102 (by decide)) ?_
  refine x_bok.cons (xs_aload_n d_R_settle_105 rfl) ?_
  refine x_bok.cons (xs_sipush d_R_settle_106 (by decide)) ?_
  refine x_bok.cons (xs_iconst d_R_settle_109 (by decide)) ?_
  refine x_bok.cons (xs_iload_n d_R_settle_110 rfl) ?_
  refine x_bok.cons (xs_aload_n d_R_settle_111 rfl) ?_
  refine x_bok.cons (xs_iload_n d_R_settle_112 rfl) ?_
  refine x_bok.cons (xs_invV d_R_settle_113 xc10 sn_R_lastTrace is_R_lastTrace ⟨q6_103, q6_105, (x_sel (x_p3 (List.mem_of_getElem? (i := 2) rfl))), q1_12⟩ (by decide) (by decide) rfl) ?_
  refine x_bok.cons (xs_iconst d_R_settle_116 (by decide)) ?_
  refine x_bok.cons (xs_iload_n d_R_settle_117 rfl) ?_
  refine x_bok.cons (xs_invV d_R_settle_118 xc10 sn_R_sent is_R_sent ⟨q6_121, q6_123, (x_sel (x_p3 (List.mem_of_getElem? (i := 4) rfl))), q1_12⟩ (by decide) (by decide) rfl) ?_
  refine x_bok.cons (xs_iload_n d_R_settle_121 rfl) ?_
  refine x_bok.cons (xs_iret d_R_settle_122 rfl) ?_
  exact x_bok.nil
set_option maxRecDepth 100000 in
theorem mn_R_settle : x_bmn b_R_settle := by
  unfold b_R_settle
  refine x_bmn.cons (xm_aload) ?_
  refine x_bmn.cons (xm_iload) ?_
  refine x_bmn.cons (xm_push) ?_
  refine x_bmn.cons (xm_push) ?_
  refine x_bmn.cons (xm_invS ym_R_in) ?_
  refine x_bmn.cons (xm_if) ?_
  refine x_bmn.cons (xm_push) ?_
  refine x_bmn.cons (xm_goto) ?_
  refine x_bmn.cons (xm_aload) ?_
  refine x_bmn.cons (xm_get) ?_
  refine x_bmn.cons (xm_iload) ?_
  refine x_bmn.cons (xm_ald) ?_
  refine x_bmn.cons (xm_if) ?_
  refine x_bmn.cons (xm_aload) ?_
  refine x_bmn.cons (xm_get) ?_
  refine x_bmn.cons (xm_iload) ?_
  refine x_bmn.cons (xm_ald) ?_
  refine x_bmn.cons (xm_push) ?_
  refine x_bmn.cons (xm_icmp) ?_
  refine x_bmn.cons (xm_aload) ?_
  refine x_bmn.cons (xm_iload) ?_
  refine x_bmn.cons (xm_invV ym_R_voids) ?_
  refine x_bmn.cons (xm_if) ?_
  refine x_bmn.cons (xm_push) ?_
  refine x_bmn.cons (xm_goto) ?_
  refine x_bmn.cons (xm_push) ?_
  refine x_bmn.cons (xm_put) ?_
  refine x_bmn.cons (xm_aload) ?_
  refine x_bmn.cons (xm_get) ?_
  refine x_bmn.cons (xm_if) ?_
  refine x_bmn.cons (xm_push) ?_
  refine x_bmn.cons (xm_iret) ?_
  refine x_bmn.cons (xm_push) ?_
  refine x_bmn.cons (xm_istore) ?_
  refine x_bmn.cons (xm_iload) ?_
  refine x_bmn.cons (xm_invS ym_R_at) ?_
  refine x_bmn.cons (xm_istore) ?_
  refine x_bmn.cons (xm_iload) ?_
  refine x_bmn.cons (xm_iload) ?_
  refine x_bmn.cons (xm_invS ym_R_at) ?_
  refine x_bmn.cons (xm_aload) ?_
  refine x_bmn.cons (xm_get) ?_
  refine x_bmn.cons (xm_iload) ?_
  refine x_bmn.cons (xm_ald) ?_
  refine x_bmn.cons (xm_bin) ?_
  refine x_bmn.cons (xm_icmp) ?_
  refine x_bmn.cons (xm_aload) ?_
  refine x_bmn.cons (xm_get) ?_
  refine x_bmn.cons (xm_iload) ?_
  refine x_bmn.cons (xm_ald) ?_
  refine x_bmn.cons (xm_push) ?_
  refine x_bmn.cons (xm_icmp) ?_
  refine x_bmn.cons (xm_iload) ?_
  refine x_bmn.cons (xm_aload) ?_
  refine x_bmn.cons (xm_get) ?_
  refine x_bmn.cons (xm_iload) ?_
  refine x_bmn.cons (xm_ald) ?_
  refine x_bmn.cons (xm_bin) ?_
  refine x_bmn.cons (xm_istore) ?_
  refine x_bmn.cons (xm_iinc) ?_
  refine x_bmn.cons (xm_goto) ?_
  refine x_bmn.cons (xm_aload) ?_
  refine x_bmn.cons (xm_push) ?_
  refine x_bmn.cons (xm_push) ?_
  refine x_bmn.cons (xm_iload) ?_
  refine x_bmn.cons (xm_aload) ?_
  refine x_bmn.cons (xm_iload) ?_
  refine x_bmn.cons (xm_invV ym_R_lastTrace) ?_
  refine x_bmn.cons (xm_push) ?_
  refine x_bmn.cons (xm_iload) ?_
  refine x_bmn.cons (xm_invV ym_R_sent) ?_
  refine x_bmn.cons (xm_iload) ?_
  refine x_bmn.cons (xm_iret) ?_
  exact x_bmn.nil
theorem is_R_settle : x_Is y_R_settle m_R_settle := x_is_code q6_148
def Y_R_settle : XMeth := x_do 4 b_R_settle
theorem sn_R_settle : x_Snd y_R_settle m_R_settle Y_R_settle := x_snd_of (by decide) rfl rfl is_R_settle k_R_settle
theorem ym_R_settle : x_Ymn Y_R_settle := x_ymn_of mn_R_settle
/- CashLinkModel.worth(I)I -/
abbrev c_R_worth : ByteArray := prog_12_method_23_code
def y_R_worth : MethodName := ⟨"CashLinkModel", "worth", "(I)I"⟩
theorem d_R_worth_0 : decode c_R_worth 0 = .ok (.sipush 500, 3) := by decide +kernel
theorem d_R_worth_3 : decode c_R_worth 3 = .ok (.istore_n 2, 1) := by decide +kernel
theorem d_R_worth_4 : decode c_R_worth 4 = .ok (.iconst 4, 1) := by decide +kernel
theorem d_R_worth_5 : decode c_R_worth 5 = .ok (.invokestatic 100, 3) := by decide +kernel
theorem d_R_worth_8 : decode c_R_worth 8 = .ok (.istore_n 3, 1) := by decide +kernel
theorem d_R_worth_9 : decode c_R_worth 9 = .ok (.iload_n 3, 1) := by decide +kernel
theorem d_R_worth_10 : decode c_R_worth 10 = .ok (.iconst 4, 1) := by decide +kernel
theorem d_R_worth_11 : decode c_R_worth 11 = .ok (.invokestatic 100, 3) := by decide +kernel
theorem d_R_worth_14 : decode c_R_worth 14 = .ok (.aload_n 0, 1) := by decide +kernel
theorem d_R_worth_15 : decode c_R_worth 15 = .ok (.getfield 28, 3) := by decide +kernel
theorem d_R_worth_18 : decode c_R_worth 18 = .ok (.iconst 4, 1) := by decide +kernel
theorem d_R_worth_19 : decode c_R_worth 19 = .ok (.iaload, 1) := by decide +kernel
theorem d_R_worth_20 : decode c_R_worth 20 = .ok (.iadd, 1) := by decide +kernel
theorem d_R_worth_21 : decode c_R_worth 21 = .ok (.if_icmp .ge 114, 3) := by decide +kernel
theorem d_R_worth_24 : decode c_R_worth 24 = .ok (.aload_n 0, 1) := by decide +kernel
theorem d_R_worth_25 : decode c_R_worth 25 = .ok (.getfield 7, 3) := by decide +kernel
theorem d_R_worth_28 : decode c_R_worth 28 = .ok (.iload_n 3, 1) := by decide +kernel
theorem d_R_worth_29 : decode c_R_worth 29 = .ok (.iaload, 1) := by decide +kernel
theorem d_R_worth_30 : decode c_R_worth 30 = .ok (.bipush 6, 2) := by decide +kernel
theorem d_R_worth_32 : decode c_R_worth 32 = .ok (.if_icmp .ne 31, 3) := by decide +kernel
theorem d_R_worth_35 : decode c_R_worth 35 = .ok (.aload_n 0, 1) := by decide +kernel
theorem d_R_worth_36 : decode c_R_worth 36 = .ok (.getfield 19, 3) := by decide +kernel
theorem d_R_worth_39 : decode c_R_worth 39 = .ok (.iload_n 3, 1) := by decide +kernel
theorem d_R_worth_40 : decode c_R_worth 40 = .ok (.iaload, 1) := by decide +kernel
theorem d_R_worth_41 : decode c_R_worth 41 = .ok (.iload_n 1, 1) := by decide +kernel
theorem d_R_worth_42 : decode c_R_worth 42 = .ok (.if_icmp .ne 21, 3) := by decide +kernel
theorem d_R_worth_45 : decode c_R_worth 45 = .ok (.aload_n 0, 1) := by decide +kernel
theorem d_R_worth_46 : decode c_R_worth 46 = .ok (.getfield 25, 3) := by decide +kernel
theorem d_R_worth_49 : decode c_R_worth 49 = .ok (.iload_n 3, 1) := by decide +kernel
theorem d_R_worth_50 : decode c_R_worth 50 = .ok (.iaload, 1) := by decide +kernel
theorem d_R_worth_51 : decode c_R_worth 51 = .ok (.ifCond .ne 12, 3) := by decide +kernel
theorem d_R_worth_54 : decode c_R_worth 54 = .ok (.iload_n 2, 1) := by decide +kernel
theorem d_R_worth_55 : decode c_R_worth 55 = .ok (.aload_n 0, 1) := by decide +kernel
theorem d_R_worth_56 : decode c_R_worth 56 = .ok (.getfield 22, 3) := by decide +kernel
theorem d_R_worth_59 : decode c_R_worth 59 = .ok (.iload_n 3, 1) := by decide +kernel
theorem d_R_worth_60 : decode c_R_worth 60 = .ok (.iaload, 1) := by decide +kernel
theorem d_R_worth_61 : decode c_R_worth 61 = .ok (.isub, 1) := by decide +kernel
theorem d_R_worth_62 : decode c_R_worth 62 = .ok (.istore_n 2, 1) := by decide +kernel
theorem d_R_worth_63 : decode c_R_worth 63 = .ok (.aload_n 0, 1) := by decide +kernel
theorem d_R_worth_64 : decode c_R_worth 64 = .ok (.getfield 7, 3) := by decide +kernel
theorem d_R_worth_67 : decode c_R_worth 67 = .ok (.iload_n 3, 1) := by decide +kernel
theorem d_R_worth_68 : decode c_R_worth 68 = .ok (.iaload, 1) := by decide +kernel
theorem d_R_worth_69 : decode c_R_worth 69 = .ok (.bipush 7, 2) := by decide +kernel
theorem d_R_worth_71 : decode c_R_worth 71 = .ok (.if_icmp .ne 58, 3) := by decide +kernel
theorem d_R_worth_74 : decode c_R_worth 74 = .ok (.aload_n 0, 1) := by decide +kernel
theorem d_R_worth_75 : decode c_R_worth 75 = .ok (.getfield 19, 3) := by decide +kernel
theorem d_R_worth_78 : decode c_R_worth 78 = .ok (.iload_n 3, 1) := by decide +kernel
theorem d_R_worth_79 : decode c_R_worth 79 = .ok (.iaload, 1) := by decide +kernel
theorem d_R_worth_80 : decode c_R_worth 80 = .ok (.ifCond .le 49, 3) := by decide +kernel
theorem d_R_worth_83 : decode c_R_worth 83 = .ok (.aload_n 0, 1) := by decide +kernel
theorem d_R_worth_84 : decode c_R_worth 84 = .ok (.iconst 4, 1) := by decide +kernel
theorem d_R_worth_85 : decode c_R_worth 85 = .ok (.bipush 6, 2) := by decide +kernel
theorem d_R_worth_87 : decode c_R_worth 87 = .ok (.aload_n 0, 1) := by decide +kernel
theorem d_R_worth_88 : decode c_R_worth 88 = .ok (.getfield 13, 3) := by decide +kernel
theorem d_R_worth_91 : decode c_R_worth 91 = .ok (.iload_n 3, 1) := by decide +kernel
theorem d_R_worth_92 : decode c_R_worth 92 = .ok (.iaload, 1) := by decide +kernel
theorem d_R_worth_93 : decode c_R_worth 93 = .ok (.aload_n 0, 1) := by decide +kernel
theorem d_R_worth_94 : decode c_R_worth 94 = .ok (.getfield 16, 3) := by decide +kernel
theorem d_R_worth_97 : decode c_R_worth 97 = .ok (.iload_n 3, 1) := by decide +kernel
theorem d_R_worth_98 : decode c_R_worth 98 = .ok (.iaload, 1) := by decide +kernel
theorem d_R_worth_99 : decode c_R_worth 99 = .ok (.invokevirtual 107, 3) := by decide +kernel
theorem d_R_worth_102 : decode c_R_worth 102 = .ok (.istore 4, 2) := by decide +kernel
theorem d_R_worth_104 : decode c_R_worth 104 = .ok (.iload 4, 2) := by decide +kernel
theorem d_R_worth_106 : decode c_R_worth 106 = .ok (.ifCond .lt 23, 3) := by decide +kernel
theorem d_R_worth_109 : decode c_R_worth 109 = .ok (.aload_n 0, 1) := by decide +kernel
theorem d_R_worth_110 : decode c_R_worth 110 = .ok (.getfield 19, 3) := by decide +kernel
theorem d_R_worth_113 : decode c_R_worth 113 = .ok (.iload 4, 2) := by decide +kernel
theorem d_R_worth_115 : decode c_R_worth 115 = .ok (.iaload, 1) := by decide +kernel
theorem d_R_worth_116 : decode c_R_worth 116 = .ok (.iload_n 1, 1) := by decide +kernel
theorem d_R_worth_117 : decode c_R_worth 117 = .ok (.if_icmp .ne 12, 3) := by decide +kernel
theorem d_R_worth_120 : decode c_R_worth 120 = .ok (.iload_n 2, 1) := by decide +kernel
theorem d_R_worth_121 : decode c_R_worth 121 = .ok (.aload_n 0, 1) := by decide +kernel
theorem d_R_worth_122 : decode c_R_worth 122 = .ok (.getfield 19, 3) := by decide +kernel
theorem d_R_worth_125 : decode c_R_worth 125 = .ok (.iload_n 3, 1) := by decide +kernel
theorem d_R_worth_126 : decode c_R_worth 126 = .ok (.iaload, 1) := by decide +kernel
theorem d_R_worth_127 : decode c_R_worth 127 = .ok (.iadd, 1) := by decide +kernel
theorem d_R_worth_128 : decode c_R_worth 128 = .ok (.istore_n 2, 1) := by decide +kernel
theorem d_R_worth_129 : decode c_R_worth 129 = .ok (.iinc 3 1, 3) := by decide +kernel
theorem d_R_worth_132 : decode c_R_worth 132 = .ok (.goto (-123), 3) := by decide +kernel
theorem d_R_worth_135 : decode c_R_worth 135 = .ok (.iload_n 2, 1) := by decide +kernel
theorem d_R_worth_136 : decode c_R_worth 136 = .ok (.ireturn, 1) := by decide +kernel
def m_R_worth : XM := ("CashLinkModel", c_R_worth, 5, (some .int), "worth", [], 2, 45)
def b_R_worth : XB := [(0, X_push (xv_i 500) 3),
  (3, X_istore 2 1),
  (4, X_push (xv_i 4) 1),
  (5, X_invS Y_R_at 1 []),
  (8, X_istore 3 1),
  (9, X_iload 3 1),
  (10, X_push (xv_i 4) 1),
  (11, X_invS Y_R_at 1 []),
  (14, X_aload 0 1),
  (15, X_get 10 6),
  (18, X_push (xv_i 4) 1),
  (19, X_ald 0),
  (20, X_bin (fun x y => x + y)),
  (21, X_icmp (fun x y => y ≤ x) 135),
  (24, X_aload 0 1),
  (25, X_get 10 0),
  (28, X_iload 3 1),
  (29, X_ald 0),
  (30, X_push (xv_i 6) 2),
  (32, X_icmp (fun x y => ¬ x = y) 63),
  (35, X_aload 0 1),
  (36, X_get 10 3),
  (39, X_iload 3 1),
  (40, X_ald 0),
  (41, X_iload 1 1),
  (42, X_icmp (fun x y => ¬ x = y) 63),
  (45, X_aload 0 1),
  (46, X_get 10 5),
  (49, X_iload 3 1),
  (50, X_ald 0),
  (51, X_if (fun x => ¬ x = 0) 63),
  (54, X_iload 2 1),
  (55, X_aload 0 1),
  (56, X_get 10 4),
  (59, X_iload 3 1),
  (60, X_ald 0),
  (61, X_bin (fun x y => x - y)),
  (62, X_istore 2 1),
  (63, X_aload 0 1),
  (64, X_get 10 0),
  (67, X_iload 3 1),
  (68, X_ald 0),
  (69, X_push (xv_i 7) 2),
  (71, X_icmp (fun x y => ¬ x = y) 129),
  (74, X_aload 0 1),
  (75, X_get 10 3),
  (78, X_iload 3 1),
  (79, X_ald 0),
  (80, X_if (fun x => x ≤ 0) 129),
  (83, X_aload 0 1),
  (84, X_push (xv_i 4) 1),
  (85, X_push (xv_i 6) 2),
  (87, X_aload 0 1),
  (88, X_get 10 1),
  (91, X_iload 3 1),
  (92, X_ald 0),
  (93, X_aload 0 1),
  (94, X_get 10 2),
  (97, X_iload 3 1),
  (98, X_ald 0),
  (99, X_invV 10 Y_R_find 4 []),
  (102, X_istore 4 2),
  (104, X_iload 4 2),
  (106, X_if (fun x => x < 0) 129),
  (109, X_aload 0 1),
  (110, X_get 10 3),
  (113, X_iload 4 2),
  (115, X_ald 0),
  (116, X_iload 1 1),
  (117, X_icmp (fun x y => ¬ x = y) 129),
  (120, X_iload 2 1),
  (121, X_aload 0 1),
  (122, X_get 10 3),
  (125, X_iload 3 1),
  (126, X_ald 0),
  (127, X_bin (fun x y => x + y)),
  (128, X_istore 2 1),
  (129, X_iinc 3 1),
  (132, X_goto 9),
  (135, X_iload 2 1),
  (136, X_iret)]
set_option maxRecDepth 100000 in
theorem k_R_worth : x_bok m_R_worth b_R_worth := by
  unfold b_R_worth
  refine x_bok.cons (xs_sipush d_R_worth_0 (by decide)) ?_
  refine x_bok.cons (xs_istore_n d_R_worth_3 rfl (by decide)) ?_
  refine x_bok.cons (xs_iconst d_R_worth_4 (by decide)) ?_
  refine x_bok.cons (xs_invS d_R_worth_5 sn_R_at is_R_at ⟨q6_88, q6_89, q1_12⟩ (by decide) (by decide) rfl) ?_
  refine x_bok.cons (xs_istore_n d_R_worth_8 rfl (by decide)) ?_
  refine x_bok.cons (xs_iload_n d_R_worth_9 rfl) ?_
  refine x_bok.cons (xs_iconst d_R_worth_10 (by decide)) ?_
  refine x_bok.cons (xs_invS d_R_worth_11 sn_R_at is_R_at ⟨q6_88, q6_89, q1_12⟩ (by decide) (by decide) rfl) ?_
  refine x_bok.cons (xs_aload_n d_R_worth_14 rfl) ?_
  refine x_bok.cons (xs_get d_R_worth_15 xc10 xw10 (by decide) q5_211 (Or.inl rfl)) ?_
  refine x_bok.cons (xs_iconst d_R_worth_18 (by decide)) ?_
  refine x_bok.cons (xs_iald d_R_worth_19 rfl) ?_
  refine x_bok.cons (xs_iadd d_R_worth_20) ?_
  refine x_bok.cons (xs_icmp_ge d_R_worth_21 (by decide)) ?_
  refine x_bok.cons (xs_aload_n d_R_worth_24 rfl) ?_
  refine x_bok.cons (xs_get d_R_worth_25 xc10 xw10 (by decide) q5_205 (Or.inl rfl)) ?_
  refine x_bok.cons (xs_iload_n d_R_worth_28 rfl) ?_
  refine x_bok.cons (xs_iald d_R_worth_29 rfl) ?_
  refine x_bok.cons (xs_bipush d_R_worth_30 (by decide)) ?_
  refine x_bok.cons (xs_icmp_ne d_R_worth_32 (by decide)) ?_
  refine x_bok.cons (xs_aload_n d_R_worth_35 rfl) ?_
  refine x_bok.cons (xs_get d_R_worth_36 xc10 xw10 (by decide) q5_208 (Or.inl rfl)) ?_
  refine x_bok.cons (xs_iload_n d_R_worth_39 rfl) ?_
  refine x_bok.cons (xs_iald d_R_worth_40 rfl) ?_
  refine x_bok.cons (xs_iload_n d_R_worth_41 rfl) ?_
  refine x_bok.cons (xs_icmp_ne d_R_worth_42 (by decide)) ?_
  refine x_bok.cons (xs_aload_n d_R_worth_45 rfl) ?_
  refine x_bok.cons (xs_get d_R_worth_46 xc10 xw10 (by decide) q5_210 (Or.inl rfl)) ?_
  refine x_bok.cons (xs_iload_n d_R_worth_49 rfl) ?_
  refine x_bok.cons (xs_iald d_R_worth_50 rfl) ?_
  refine x_bok.cons (xs_if_ne d_R_worth_51 (by decide)) ?_
  refine x_bok.cons (xs_iload_n d_R_worth_54 rfl) ?_
  refine x_bok.cons (xs_aload_n d_R_worth_55 rfl) ?_
  refine x_bok.cons (xs_get d_R_worth_56 xc10 xw10 (by decide) q5_209 (Or.inl rfl)) ?_
  refine x_bok.cons (xs_iload_n d_R_worth_59 rfl) ?_
  refine x_bok.cons (xs_iald d_R_worth_60 rfl) ?_
  refine x_bok.cons (xs_isub d_R_worth_61) ?_
  refine x_bok.cons (xs_istore_n d_R_worth_62 rfl (by decide)) ?_
  refine x_bok.cons (xs_aload_n d_R_worth_63 rfl) ?_
  refine x_bok.cons (xs_get d_R_worth_64 xc10 xw10 (by decide) q5_205 (Or.inl rfl)) ?_
  refine x_bok.cons (xs_iload_n d_R_worth_67 rfl) ?_
  refine x_bok.cons (xs_iald d_R_worth_68 rfl) ?_
  refine x_bok.cons (xs_bipush d_R_worth_69 (by decide)) ?_
  refine x_bok.cons (xs_icmp_ne d_R_worth_71 (by decide)) ?_
  refine x_bok.cons (xs_aload_n d_R_worth_74 rfl) ?_
  refine x_bok.cons (xs_get d_R_worth_75 xc10 xw10 (by decide) q5_208 (Or.inl rfl)) ?_
  refine x_bok.cons (xs_iload_n d_R_worth_78 rfl) ?_
  refine x_bok.cons (xs_iald d_R_worth_79 rfl) ?_
  refine x_bok.cons (xs_if_le d_R_worth_80 (by decide)) ?_
  refine x_bok.cons (xs_aload_n d_R_worth_83 rfl) ?_
  refine x_bok.cons (xs_iconst d_R_worth_84 (by decide)) ?_
  refine x_bok.cons (xs_bipush d_R_worth_85 (by decide)) ?_
  refine x_bok.cons (xs_aload_n d_R_worth_87 rfl) ?_
  refine x_bok.cons (xs_get d_R_worth_88 xc10 xw10 (by decide) q5_206 (Or.inl rfl)) ?_
  refine x_bok.cons (xs_iload_n d_R_worth_91 rfl) ?_
  refine x_bok.cons (xs_iald d_R_worth_92 rfl) ?_
  refine x_bok.cons (xs_aload_n d_R_worth_93 rfl) ?_
  refine x_bok.cons (xs_get d_R_worth_94 xc10 xw10 (by decide) q5_207 (Or.inl rfl)) ?_
  refine x_bok.cons (xs_iload_n d_R_worth_97 rfl) ?_
  refine x_bok.cons (xs_iald d_R_worth_98 rfl) ?_
  refine x_bok.cons (xs_invV d_R_worth_99 xc10 sn_R_find is_R_find ⟨q6_99, q6_101, (x_sel (x_p3 (List.mem_of_getElem? (i := 1) rfl))), q1_12⟩ (by decide) (by decide) rfl) ?_
  refine x_bok.cons (xs_istore d_R_worth_102 (by decide)) ?_
  refine x_bok.cons (xs_iload d_R_worth_104) ?_
  refine x_bok.cons (xs_if_lt d_R_worth_106 (by decide)) ?_
  refine x_bok.cons (xs_aload_n d_R_worth_109 rfl) ?_
  refine x_bok.cons (xs_get d_R_worth_110 xc10 xw10 (by decide) q5_208 (Or.inl rfl)) ?_
  refine x_bok.cons (xs_iload d_R_worth_113) ?_
  refine x_bok.cons (xs_iald d_R_worth_115 rfl) ?_
  refine x_bok.cons (xs_iload_n d_R_worth_116 rfl) ?_
  refine x_bok.cons (xs_icmp_ne d_R_worth_117 (by decide)) ?_
  refine x_bok.cons (xs_iload_n d_R_worth_120 rfl) ?_
  refine x_bok.cons (xs_aload_n d_R_worth_121 rfl) ?_
  refine x_bok.cons (xs_get d_R_worth_122 xc10 xw10 (by decide) q5_208 (Or.inl rfl)) ?_
  refine x_bok.cons (xs_iload_n d_R_worth_125 rfl) ?_
  refine x_bok.cons (xs_iald d_R_worth_126 rfl) ?_
  refine x_bok.cons (xs_iadd d_R_worth_127) ?_
  refine x_bok.cons (xs_istore_n d_R_worth_128 rfl (by decide)) ?_
  refine x_bok.cons (xs_iinc d_R_worth_129 (by decide) (by decide)) ?_
  refine x_bok.cons (xs_goto d_R_worth_132 (by decide)) ?_
  refine x_bok.cons (xs_iload_n d_R_worth_135 rfl) ?_
  refine x_bok.cons (xs_iret d_R_worth_136 rfl) ?_
  exact x_bok.nil
set_option maxRecDepth 100000 in
theorem mn_R_worth : x_bmn b_R_worth := by
  unfold b_R_worth
  refine x_bmn.cons (xm_push) ?_
  refine x_bmn.cons (xm_istore) ?_
  refine x_bmn.cons (xm_push) ?_
  refine x_bmn.cons (xm_invS ym_R_at) ?_
  refine x_bmn.cons (xm_istore) ?_
  refine x_bmn.cons (xm_iload) ?_
  refine x_bmn.cons (xm_push) ?_
  refine x_bmn.cons (xm_invS ym_R_at) ?_
  refine x_bmn.cons (xm_aload) ?_
  refine x_bmn.cons (xm_get) ?_
  refine x_bmn.cons (xm_push) ?_
  refine x_bmn.cons (xm_ald) ?_
  refine x_bmn.cons (xm_bin) ?_
  refine x_bmn.cons (xm_icmp) ?_
  refine x_bmn.cons (xm_aload) ?_
  refine x_bmn.cons (xm_get) ?_
  refine x_bmn.cons (xm_iload) ?_
  refine x_bmn.cons (xm_ald) ?_
  refine x_bmn.cons (xm_push) ?_
  refine x_bmn.cons (xm_icmp) ?_
  refine x_bmn.cons (xm_aload) ?_
  refine x_bmn.cons (xm_get) ?_
  refine x_bmn.cons (xm_iload) ?_
  refine x_bmn.cons (xm_ald) ?_
  refine x_bmn.cons (xm_iload) ?_
  refine x_bmn.cons (xm_icmp) ?_
  refine x_bmn.cons (xm_aload) ?_
  refine x_bmn.cons (xm_get) ?_
  refine x_bmn.cons (xm_iload) ?_
  refine x_bmn.cons (xm_ald) ?_
  refine x_bmn.cons (xm_if) ?_
  refine x_bmn.cons (xm_iload) ?_
  refine x_bmn.cons (xm_aload) ?_
  refine x_bmn.cons (xm_get) ?_
  refine x_bmn.cons (xm_iload) ?_
  refine x_bmn.cons (xm_ald) ?_
  refine x_bmn.cons (xm_bin) ?_
  refine x_bmn.cons (xm_istore) ?_
  refine x_bmn.cons (xm_aload) ?_
  refine x_bmn.cons (xm_get) ?_
  refine x_bmn.cons (xm_iload) ?_
  refine x_bmn.cons (xm_ald) ?_
  refine x_bmn.cons (xm_push) ?_
  refine x_bmn.cons (xm_icmp) ?_
  refine x_bmn.cons (xm_aload) ?_
  refine x_bmn.cons (xm_get) ?_
  refine x_bmn.cons (xm_iload) ?_
  refine x_bmn.cons (xm_ald) ?_
  refine x_bmn.cons (xm_if) ?_
  refine x_bmn.cons (xm_aload) ?_
  refine x_bmn.cons (xm_push) ?_
  refine x_bmn.cons (xm_push) ?_
  refine x_bmn.cons (xm_aload) ?_
  refine x_bmn.cons (xm_get) ?_
  refine x_bmn.cons (xm_iload) ?_
  refine x_bmn.cons (xm_ald) ?_
  refine x_bmn.cons (xm_aload) ?_
  refine x_bmn.cons (xm_get) ?_
  refine x_bmn.cons (xm_iload) ?_
  refine x_bmn.cons (xm_ald) ?_
  refine x_bmn.cons (xm_invV ym_R_find) ?_
  refine x_bmn.cons (xm_istore) ?_
  refine x_bmn.cons (xm_iload) ?_
  refine x_bmn.cons (xm_if) ?_
  refine x_bmn.cons (xm_aload) ?_
  refine x_bmn.cons (xm_get) ?_
  refine x_bmn.cons (xm_iload) ?_
  refine x_bmn.cons (xm_ald) ?_
  refine x_bmn.cons (xm_iload) ?_
  refine x_bmn.cons (xm_icmp) ?_
  refine x_bmn.cons (xm_iload) ?_
  refine x_bmn.cons (xm_aload) ?_
  refine x_bmn.cons (xm_get) ?_
  refine x_bmn.cons (xm_iload) ?_
  refine x_bmn.cons (xm_ald) ?_
  refine x_bmn.cons (xm_bin) ?_
  refine x_bmn.cons (xm_istore) ?_
  refine x_bmn.cons (xm_iinc) ?_
  refine x_bmn.cons (xm_goto) ?_
  refine x_bmn.cons (xm_iload) ?_
  refine x_bmn.cons (xm_iret) ?_
  exact x_bmn.nil
theorem is_R_worth : x_Is y_R_worth m_R_worth := x_is_code q6_160
def Y_R_worth : XMeth := x_do 5 b_R_worth
theorem sn_R_worth : x_Snd y_R_worth m_R_worth Y_R_worth := x_snd_of (by decide) rfl rfl is_R_worth k_R_worth
theorem ym_R_worth : x_Ymn Y_R_worth := x_ymn_of mn_R_worth
