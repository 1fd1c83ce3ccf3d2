/- CashLinkModel.wakes(I)V -/
abbrev c_R_wakes : ByteArray := prog_12_method_22_code
def y_R_wakes : MethodName := ⟨"CashLinkModel", "wakes", "(I)V"⟩
theorem d_R_wakes_0 : decode c_R_wakes 0 = .ok (.aload_n 0, 1) := by decide +kernel
theorem d_R_wakes_1 : decode c_R_wakes 1 = .ok (.getfield 41, 3) := by decide +kernel
theorem d_R_wakes_4 : decode c_R_wakes 4 = .ok (.iload_n 1, 1) := by decide +kernel
theorem d_R_wakes_5 : decode c_R_wakes 5 = .ok (.iconst 1, 1) := by decide +kernel
theorem d_R_wakes_6 : decode c_R_wakes 6 = .ok (.iastore, 1) := by decide +kernel
theorem d_R_wakes_7 : decode c_R_wakes 7 = .ok (.aload_n 0, 1) := by decide +kernel
theorem d_R_wakes_8 : decode c_R_wakes 8 = .ok (.iload_n 1, 1) := by decide +kernel
theorem d_R_wakes_9 : decode c_R_wakes 9 = .ok (.invokevirtual 146, 3) := by decide +kernel
theorem d_R_wakes_12 : decode c_R_wakes 12 = .ok (.istore_n 2, 1) := by decide +kernel
theorem d_R_wakes_13 : decode c_R_wakes 13 = .ok (.iload_n 2, 1) := by decide +kernel
theorem d_R_wakes_14 : decode c_R_wakes 14 = .ok (.ifCond .ne 4, 3) := by decide +kernel
theorem d_R_wakes_17 : decode c_R_wakes 17 = .ok (.return_, 1) := by decide +kernel
theorem d_R_wakes_18 : decode c_R_wakes 18 = .ok (.aload_n 0, 1) := by decide +kernel
theorem d_R_wakes_19 : decode c_R_wakes 19 = .ok (.iload_n 1, 1) := by decide +kernel
theorem d_R_wakes_20 : decode c_R_wakes 20 = .ok (.iconst 2, 1) := by decide +kernel
theorem d_R_wakes_21 : decode c_R_wakes 21 = .ok (.iload_n 2, 1) := by decide +kernel
theorem d_R_wakes_22 : decode c_R_wakes 22 = .ok (.invokevirtual 111, 3) := by decide +kernel
theorem d_R_wakes_25 : decode c_R_wakes 25 = .ok (.istore_n 3, 1) := by decide +kernel
theorem d_R_wakes_26 : decode c_R_wakes 26 = .ok (.aload_n 0, 1) := by decide +kernel
theorem d_R_wakes_27 : decode c_R_wakes 27 = .ok (.iload_n 1, 1) := by decide +kernel
theorem d_R_wakes_28 : decode c_R_wakes 28 = .ok (.iconst 3, 1) := by decide +kernel
theorem d_R_wakes_29 : decode c_R_wakes 29 = .ok (.iload_n 2, 1) := by decide +kernel
theorem d_R_wakes_30 : decode c_R_wakes 30 = .ok (.invokevirtual 111, 3) := by decide +kernel
theorem d_R_wakes_33 : decode c_R_wakes 33 = .ok (.istore 4, 2) := by decide +kernel
theorem d_R_wakes_35 : decode c_R_wakes 35 = .ok (.aload_n 0, 1) := by decide +kernel
theorem d_R_wakes_36 : decode c_R_wakes 36 = .ok (.iload_n 1, 1) := by decide +kernel
theorem d_R_wakes_37 : decode c_R_wakes 37 = .ok (.iconst 4, 1) := by decide +kernel
theorem d_R_wakes_38 : decode c_R_wakes 38 = .ok (.iload_n 2, 1) := by decide +kernel
theorem d_R_wakes_39 : decode c_R_wakes 39 = .ok (.invokevirtual 111, 3) := by decide +kernel
theorem d_R_wakes_42 : decode c_R_wakes 42 = .ok (.istore 5, 2) := by decide +kernel
theorem d_R_wakes_44 : decode c_R_wakes 44 = .ok (.aload_n 0, 1) := by decide +kernel
theorem d_R_wakes_45 : decode c_R_wakes 45 = .ok (.iload_n 1, 1) := by decide +kernel
theorem d_R_wakes_46 : decode c_R_wakes 46 = .ok (.iconst 5, 1) := by decide +kernel
theorem d_R_wakes_47 : decode c_R_wakes 47 = .ok (.iload_n 2, 1) := by decide +kernel
theorem d_R_wakes_48 : decode c_R_wakes 48 = .ok (.invokevirtual 111, 3) := by decide +kernel
theorem d_R_wakes_51 : decode c_R_wakes 51 = .ok (.istore 6, 2) := by decide +kernel
theorem d_R_wakes_53 : decode c_R_wakes 53 = .ok (.iload_n 3, 1) := by decide +kernel
theorem d_R_wakes_54 : decode c_R_wakes 54 = .ok (.ifCond .ne 33, 3) := by decide +kernel
theorem d_R_wakes_57 : decode c_R_wakes 57 = .ok (.iload 4, 2) := by decide +kernel
theorem d_R_wakes_59 : decode c_R_wakes 59 = .ok (.ifCond .ne 28, 3) := by decide +kernel
theorem d_R_wakes_62 : decode c_R_wakes 62 = .ok (.iload 5, 2) := by decide +kernel
theorem d_R_wakes_64 : decode c_R_wakes 64 = .ok (.ifCond .ne 23, 3) := by decide +kernel
theorem d_R_wakes_67 : decode c_R_wakes 67 = .ok (.iload 6, 2) := by decide +kernel
theorem d_R_wakes_69 : decode c_R_wakes 69 = .ok (.ifCond .ne 18, 3) := by decide +kernel
theorem d_R_wakes_72 : decode c_R_wakes 72 = .ok (.aload_n 0, 1) := by decide +kernel
theorem d_R_wakes_73 : decode c_R_wakes 73 = .ok (.iload_n 1, 1) := by decide +kernel
theorem d_R_wakes_74 : decode c_R_wakes 74 = .ok (.iload_n 2, 1) := by decide +kernel
theorem d_R_wakes_75 : decode c_R_wakes 75 = .ok (.aload_n 0, 1) := by decide +kernel
theorem d_R_wakes_76 : decode c_R_wakes 76 = .ok (.iload_n 1, 1) := by decide +kernel
theorem d_R_wakes_77 : decode c_R_wakes 77 = .ok (.iload_n 2, 1) := by decide +kernel
theorem d_R_wakes_78 : decode c_R_wakes 78 = .ok (.invokevirtual 149, 3) := by decide +kernel
theorem d_R_wakes_81 : decode c_R_wakes 81 = .ok (.invokevirtual 152, 3) := by decide +kernel
theorem d_R_wakes_84 : decode c_R_wakes 84 = .ok (.goto 86, 3) := by decide +kernel
theorem d_R_wakes_87 : decode c_R_wakes 87 = .ok (.iload_n 3, 1) := by decide +kernel
theorem d_R_wakes_88 : decode c_R_wakes 88 = .ok (.ifCond .eq 37, 3) := by decide +kernel
theorem d_R_wakes_91 : decode c_R_wakes 91 = .ok (.iload 4, 2) := by decide +kernel
theorem d_R_wakes_93 : decode c_R_wakes 93 = .ok (.ifCond .ne 32, 3) := by decide +kernel
theorem d_R_wakes_96 : decode c_R_wakes 96 = .ok (.aload_n 0, 1) := by decide +kernel
theorem d_R_wakes_97 : decode c_R_wakes 97 = .ok (.iload_n 1, 1) := by decide +kernel
theorem d_R_wakes_98 : decode c_R_wakes 98 = .ok (.iload_n 2, 1) := by decide +kernel
theorem d_R_wakes_99 : decode c_R_wakes 99 = .ok (.aload_n 0, 1) := by decide +kernel
theorem d_R_wakes_100 : decode c_R_wakes 100 = .ok (.getfield 53, 3) := by decide +kernel
theorem d_R_wakes_103 : decode c_R_wakes 103 = .ok (.iload_n 1, 1) := by decide +kernel
theorem d_R_wakes_104 : decode c_R_wakes 104 = .ok (.iaload, 1) := by decide +kernel
theorem d_R_wakes_105 : decode c_R_wakes 105 = .ok (.iload_n 2, 1) := by decide +kernel
theorem d_R_wakes_106 : decode c_R_wakes 106 = .ok (.if_icmp .ne 12, 3) := by decide +kernel
theorem d_R_wakes_109 : decode c_R_wakes 109 = .ok (.aload_n 0, 1) := by decide +kernel
theorem d_R_wakes_110 : decode c_R_wakes 110 = .ok (.getfield 56, 3) := by decide +kernel
theorem d_R_wakes_113 : decode c_R_wakes 113 = .ok (.iload_n 1, 1) := by decide +kernel
theorem d_R_wakes_114 : decode c_R_wakes 114 = .ok (.iaload, 1) := by decide +kernel
theorem d_R_wakes_115 : decode c_R_wakes 115 = .ok (.goto 4, 3) := by decide +kernel
theorem d_R_wakes_118 : decode c_R_wakes 118 = .ok (.iconst 0, 1) := by decide +kernel
theorem d_R_wakes_119 : decode c_R_wakes 119 = .ok (.invokevirtual 169, 3) := by decide +kernel
theorem d_R_wakes_122 : decode c_R_wakes 122 = .ok (.goto 48, 3) := by decide +kernel
theorem d_R_wakes_125 : decode c_R_wakes 125 = .ok (.iload 4, 2) := by decide +kernel
theorem d_R_wakes_127 : decode c_R_wakes 127 = .ok (.ifCond .eq 43, 3) := by decide +kernel
theorem d_R_wakes_130 : decode c_R_wakes 130 = .ok (.iload 5, 2) := by decide +kernel
theorem d_R_wakes_132 : decode c_R_wakes 132 = .ok (.ifCond .ne 38, 3) := by decide +kernel
theorem d_R_wakes_135 : decode c_R_wakes 135 = .ok (.aload_n 0, 1) := by decide +kernel
theorem d_R_wakes_136 : decode c_R_wakes 136 = .ok (.iload_n 1, 1) := by decide +kernel
theorem d_R_wakes_137 : decode c_R_wakes 137 = .ok (.iload_n 2, 1) := by decide +kernel
theorem d_R_wakes_138 : decode c_R_wakes 138 = .ok (.invokevirtual 149, 3) := by decide +kernel
theorem d_R_wakes_141 : decode c_R_wakes 141 = .ok (.aload_n 0, 1) := by decide +kernel
theorem d_R_wakes_142 : decode c_R_wakes 142 = .ok (.getfield 19, 3) := by decide +kernel
theorem d_R_wakes_145 : decode c_R_wakes 145 = .ok (.aload_n 0, 1) := by decide +kernel
theorem d_R_wakes_146 : decode c_R_wakes 146 = .ok (.iload_n 1, 1) := by decide +kernel
theorem d_R_wakes_147 : decode c_R_wakes 147 = .ok (.iconst 3, 1) := by decide +kernel
theorem d_R_wakes_148 : decode c_R_wakes 148 = .ok (.iload_n 1, 1) := by decide +kernel
theorem d_R_wakes_149 : decode c_R_wakes 149 = .ok (.iload_n 2, 1) := by decide +kernel
theorem d_R_wakes_150 : decode c_R_wakes 150 = .ok (.invokevirtual 107, 3) := by decide +kernel
theorem d_R_wakes_153 : decode c_R_wakes 153 = .ok (.iaload, 1) := by decide +kernel
theorem d_R_wakes_154 : decode c_R_wakes 154 = .ok (.isub, 1) := by decide +kernel
theorem d_R_wakes_155 : decode c_R_wakes 155 = .ok (.istore 7, 2) := by decide +kernel
theorem d_R_wakes_157 : decode c_R_wakes 157 = .ok (.iload 7, 2) := by decide +kernel
theorem d_R_wakes_159 : decode c_R_wakes 159 = .ok (.ifCond .le 11, 3) := by decide +kernel
theorem d_R_wakes_162 : decode c_R_wakes 162 = .ok (.aload_n 0, 1) := by decide +kernel
theorem d_R_wakes_163 : decode c_R_wakes 163 = .ok (.iload_n 1, 1) := by decide +kernel
theorem d_R_wakes_164 : decode c_R_wakes 164 = .ok (.iload_n 2, 1) := by decide +kernel
theorem d_R_wakes_165 : decode c_R_wakes 165 = .ok (.iload 7, 2) := by decide +kernel
theorem d_R_wakes_167 : decode c_R_wakes 167 = .ok (.invokevirtual 152, 3) := by decide +kernel
theorem d_R_wakes_170 : decode c_R_wakes 170 = .ok (.return_, 1) := by decide +kernel
def m_R_wakes : XM := ("CashLinkModel", c_R_wakes, 8, none, "wakes", [], 9, 166)
def b_R_wakes : XB := [(0, X_aload 0 1),
  (1, X_get 10 10),
  (4, X_iload 1 1),
  (5, X_push (xv_i 1) 1),
  (6, X_ast 0 (fun x => x)),
  (7, X_aload 0 1),
  (8, X_iload 1 1),
  (9, X_invV 10 Y_R_lastTrace 1 []),
  (12, X_istore 2 1),
  (13, X_iload 2 1),
  (14, X_if (fun x => ¬ x = 0) 18),
  (17, X_vret),
  (18, X_aload 0 1),
  (19, X_iload 1 1),
  (20, X_push (xv_i 2) 1),
  (21, X_iload 2 1),
  (22, X_invV 10 Y_R_has 3 []),
  (25, X_istore 3 1),
  (26, X_aload 0 1),
  (27, X_iload 1 1),
  (28, X_push (xv_i 3) 1),
  (29, X_iload 2 1),
  (30, X_invV 10 Y_R_has 3 []),
  (33, X_istore 4 2),
  (35, X_aload 0 1),
  (36, X_iload 1 1),
  (37, X_push (xv_i 4) 1),
  (38, X_iload 2 1),
  (39, X_invV 10 Y_R_has 3 []),
  (42, X_istore 5 2),
  (44, X_aload 0 1),
  (45, X_iload 1 1),
  (46, X_push (xv_i 5) 1),
  (47, X_iload 2 1),
  (48, X_invV 10 Y_R_has 3 []),
  (51, X_istore 6 2),
  (53, X_iload 3 1),
  (54, X_if (fun x => ¬ x = 0) 87),
  (57, X_iload 4 2),
  (59, X_if (fun x => ¬ x = 0) 87),
  (62, X_iload 5 2),
  (64, X_if (fun x => ¬ x = 0) 87),
  (67, X_iload 6 2),
  (69, X_if (fun x => ¬ x = 0) 87),
  (72, X_aload 0 1),
  (73, X_iload 1 1),
  (74, X_iload 2 1),
  (75, X_aload 0 1),
  (76, X_iload 1 1),
  (77, X_iload 2 1),
  (78, X_invV 10 Y_R_amountOf 2 []),
  (81, X_invV 10 Y_R_reverse 3 []),
  (84, X_goto 170),
  (87, X_iload 3 1),
  (88, X_if (fun x => x = 0) 125),
  (91, X_iload 4 2),
  (93, X_if (fun x => ¬ x = 0) 125),
  (96, X_aload 0 1),
  (97, X_iload 1 1),
  (98, X_iload 2 1),
  (99, X_aload 0 1),
  (100, X_get 10 14),
  (103, X_iload 1 1),
  (104, X_ald 0),
  (105, X_iload 2 1),
  (106, X_icmp (fun x y => ¬ x = y) 118),
  (109, X_aload 0 1),
  (110, X_get 10 15),
  (113, X_iload 1 1),
  (114, X_ald 0),
  (115, X_goto 119),
  (118, X_push (xv_i 0) 1),
  (119, X_invV 10 Y_R_paid 3 []),
  (122, X_goto 170),
  (125, X_iload 4 2),
  (127, X_if (fun x => x = 0) 170),
  (130, X_iload 5 2),
  (132, X_if (fun x => ¬ x = 0) 170),
  (135, X_aload 0 1),
  (136, X_iload 1 1),
  (137, X_iload 2 1),
  (138, X_invV 10 Y_R_amountOf 2 []),
  (141, X_aload 0 1),
  (142, X_get 10 3),
  (145, X_aload 0 1),
  (146, X_iload 1 1),
  (147, X_push (xv_i 3) 1),
  (148, X_iload 1 1),
  (149, X_iload 2 1),
  (150, X_invV 10 Y_R_find 4 []),
  (153, X_ald 0),
  (154, X_bin (fun x y => x - y)),
  (155, X_istore 7 2),
  (157, X_iload 7 2),
  (159, X_if (fun x => x ≤ 0) 170),
  (162, X_aload 0 1),
  (163, X_iload 1 1),
  (164, X_iload 2 1),
  (165, X_iload 7 2),
  (167, X_invV 10 Y_R_reverse 3 []),
  (170, X_vret)]
set_option maxRecDepth 100000 in
theorem k_R_wakes : x_bok m_R_wakes b_R_wakes := by
  unfold b_R_wakes
  refine x_bok.cons (xs_aload_n d_R_wakes_0 rfl) ?_
  refine x_bok.cons (xs_get d_R_wakes_1 xc10 xw10 (by decide) q5_215 (Or.inl rfl)) ?_
  refine x_bok.cons (xs_iload_n d_R_wakes_4 rfl) ?_
  refine x_bok.cons (xs_iconst d_R_wakes_5 (by decide)) ?_
  refine x_bok.cons (xs_iast d_R_wakes_6 rfl) ?_
  refine x_bok.cons (xs_aload_n d_R_wakes_7 rfl) ?_
  refine x_bok.cons (xs_iload_n d_R_wakes_8 rfl) ?_
  refine x_bok.cons (xs_invV d_R_wakes_9 xc10 sn_R_lastTrace is_R_lastTrace ⟨q6_103, q6_105, (x_sel (x_p3 (List.mem_of_getElem? (i := 2) rfl))), q1_12⟩ (by decide) (by decide) rfl) ?_
  refine x_bok.cons (xs_istore_n d_R_wakes_12 rfl (by decide)) ?_
  refine x_bok.cons (xs_iload_n d_R_wakes_13 rfl) ?_
  refine x_bok.cons (xs_if_ne d_R_wakes_14 (by decide)) ?_
  refine x_bok.cons (xs_vret d_R_wakes_17 rfl) ?_
  refine x_bok.cons (xs_aload_n d_R_wakes_18 rfl) ?_
  refine x_bok.cons (xs_iload_n d_R_wakes_19 rfl) ?_
  refine x_bok.cons (xs_iconst d_R_wakes_20 (by decide)) ?_
  refine x_bok.cons (xs_iload_n d_R_wakes_21 rfl) ?_
  refine x_bok.cons (xs_invV d_R_wakes_22 xc10 sn_R_has is_R_has ⟨q6_95, q6_97, (x_sel (x_p3 (List.mem_of_getElem? (i := 0) rfl))), q1_12⟩ (by decide) (by decide) rfl) ?_
  refine x_bok.cons (xs_istore_n d_R_wakes_25 rfl (by decide)) ?_
  refine x_bok.cons (xs_aload_n d_R_wakes_26 rfl) ?_
  refine x_bok.cons (xs_iload_n d_R_wakes_27 rfl) ?_
  refine x_bok.cons (xs_iconst d_R_wakes_28 (by decide)) ?_
  refine x_bok.cons (xs_iload_n d_R_wakes_29 rfl) ?_
  refine x_bok.cons (xs_invV d_R_wakes_30 xc10 sn_R_has is_R_has ⟨q6_95, q6_97, (x_sel (x_p3 (List.mem_of_getElem? (i := 0) rfl))), q1_12⟩ (by decide) (by decide) rfl) ?_
  refine x_bok.cons (xs_istore d_R_wakes_33 (by decide)) ?_
  refine x_bok.cons (xs_aload_n d_R_wakes_35 rfl) ?_
  refine x_bok.cons (xs_iload_n d_R_wakes_36 rfl) ?_
  refine x_bok.cons (xs_iconst d_R_wakes_37 (by decide)) ?_
  refine x_bok.cons (xs_iload_n d_R_wakes_38 rfl) ?_
  refine x_bok.cons (xs_invV d_R_wakes_39 xc10 sn_R_has is_R_has ⟨q6_95, q6_97, (x_sel (x_p3 (List.mem_of_getElem? (i := 0) rfl))), q1_12⟩ (by decide) (by decide) rfl) ?_
  refine x_bok.cons (xs_istore d_R_wakes_42 (by decide)) ?_
  refine x_bok.cons (xs_aload_n d_R_wakes_44 rfl) ?_
  refine x_bok.cons (xs_iload_n d_R_wakes_45 rfl) ?_
  refine x_bok.cons (xs_iconst d_R_wakes_46 (by decide)) ?_
  refine x_bok.cons (xs_iload_n d_R_wakes_47 rfl) ?_
  refine x_bok.cons (xs_invV d_R_wakes_48 xc10 sn_R_has is_R_has ⟨q6_95, q6_97, (x_sel (x_p3 (List.mem_of_getElem? (i := 0) rfl))), q1_12⟩ (by decide) (by decide) rfl) ?_
  refine x_bok.cons (xs_istore d_R_wakes_51 (by decide)) ?_
  refine x_bok.cons (xs_iload_n d_R_wakes_53 rfl) ?_
  refine x_bok.cons (xs_if_ne d_R_wakes_54 (by decide)) ?_
  refine x_bok.cons (xs_iload d_R_wakes_57) ?_
  refine x_bok.cons (xs_if_ne d_R_wakes_59 (by decide)) ?_
  refine x_bok.cons (xs_iload d_R_wakes_62) ?_
  refine x_bok.cons (xs_if_ne d_R_wakes_64 (by decide)) ?_
  refine x_bok.cons (xs_iload d_R_wakes_67) ?_
  refine x_bok.cons (xs_if_ne d_R_wakes_69 (by decide)) ?_
  refine x_bok.cons (xs_aload_n d_R_wakes_72 rfl) ?_
  refine x_bok.cons (xs_iload_n d_R_wakes_73 rfl) ?_
  refine x_bok.cons (xs_iload_n d_R_wakes_74 rfl) ?_
  refine x_bok.cons (xs_aload_n d_R_wakes_75 rfl) ?_
  refine x_bok.cons (xs_iload_n d_R_wakes_76 rfl) ?_
  refine x_bok.cons (xs_iload_n d_R_wakes_77 rfl) ?_
  refine x_bok.cons (xs_invV d_R_wakes_78 xc10 sn_R_amountOf is_R_amountOf ⟨q6_133, q6_135, (x_sel (x_p3 (List.mem_of_getElem? (i := 6) rfl))), q1_12⟩ (by decide) (by decide) rfl) ?_
  refine x_bok.cons (xs_invV d_R_wakes_81 xc10 sn_R_reverse is_R_reverse ⟨q6_137, q6_139, (x_sel (x_p3 (List.mem_of_getElem? (i := 7) rfl))), q1_12⟩ (by decide) (by decide) rfl) ?_
  refine x_bok.cons (xs_goto d_R_wakes_84 (by decide)) ?_
  refine x_bok.cons (xs_iload_n d_R_wakes_87 rfl) ?_
  refine x_bok.cons (xs_if_eq d_R_wakes_88 (by decide)) ?_
  refine x_bok.cons (xs_iload d_R_wakes_91) ?_
  refine x_bok.cons (xs_if_ne d_R_wakes_93 (by decide)) ?_
  refine x_bok.cons (xs_aload_n d_R_wakes_96 rfl) ?_
  refine x_bok.cons (xs_iload_n d_R_wakes_97 rfl) ?_
  refine x_bok.cons (xs_iload_n d_R_wakes_98 rfl) ?_
  refine x_bok.cons (xs_aload_n d_R_wakes_99 rfl) ?_
  refine x_bok.cons (xs_get d_R_wakes_100 xc10 xw10 (by decide) q5_219 (Or.inl rfl)) ?_
  refine x_bok.cons (xs_iload_n d_R_wakes_103 rfl) ?_
  refine x_bok.cons (xs_iald d_R_wakes_104 rfl) ?_
  refine x_bok.cons (xs_iload_n d_R_wakes_105 rfl) ?_
  refine x_bok.cons (xs_icmp_ne d_R_wakes_106 (by decide)) ?_
  refine x_bok.cons (xs_aload_n d_R_wakes_109 rfl) ?_
  refine x_bok.cons (xs_get d_R_wakes_110 xc10 xw10 (by decide) q5_220 (Or.inl rfl)) ?_
  refine x_bok.cons (xs_iload_n d_R_wakes_113 rfl) ?_
  refine x_bok.cons (xs_iald d_R_wakes_114 rfl) ?_
  refine x_bok.cons (xs_goto d_R_wakes_115 (by decide)) ?_
  refine x_bok.cons (xs_iconst d_R_wakes_118 (by decide)) ?_
  refine x_bok.cons (xs_invV d_R_wakes_119 xc10 sn_R_paid is_R_paid ⟨q6_171, q6_173, (x_sel (x_p3 (List.mem_of_getElem? (i := 12) rfl))), q1_12⟩ (by decide) (by decide) rfl) ?_
  refine x_bok.cons (xs_goto d_R_wakes_122 (by decide)) ?_
  refine x_bok.cons (xs_iload d_R_wakes_125) ?_
  refine x_bok.cons (xs_if_eq d_R_wakes_127 (by decide)) ?_
  refine x_bok.cons (xs_iload d_R_wakes_130) ?_
  refine x_bok.cons (xs_if_ne d_R_wakes_132 (by decide)) ?_
  refine x_bok.cons (xs_aload_n d_R_wakes_135 rfl) ?_
  refine x_bok.cons (xs_iload_n d_R_wakes_136 rfl) ?_
  refine x_bok.cons (xs_iload_n d_R_wakes_137 rfl) ?_
  refine x_bok.cons (xs_invV d_R_wakes_138 xc10 sn_R_amountOf is_R_amountOf ⟨q6_133, q6_135, (x_sel (x_p3 (List.mem_of_getElem? (i := 6) rfl))), q1_12⟩ (by decide) (by decide) rfl) ?_
  refine x_bok.cons (xs_aload_n d_R_wakes_141 rfl) ?_
  refine x_bok.cons (xs_get d_R_wakes_142 xc10 xw10 (by decide) q5_208 (Or.inl rfl)) ?_
  refine x_bok.cons (xs_aload_n d_R_wakes_145 rfl) ?_
  refine x_bok.cons (xs_iload_n d_R_wakes_146 rfl) ?_
  refine x_bok.cons (xs_iconst d_R_wakes_147 (by decide)) ?_
  refine x_bok.cons (xs_iload_n d_R_wakes_148 rfl) ?_
  refine x_bok.cons (xs_iload_n d_R_wakes_149 rfl) ?_
  refine x_bok.cons (xs_invV d_R_wakes_150 xc10 sn_R_find is_R_find ⟨q6_99, q6_101, (x_sel (x_p3 (List.mem_of_getElem? (i := 1) rfl))), q1_12⟩ (by decide) (by decide) rfl) ?_
  refine x_bok.cons (xs_iald d_R_wakes_153 rfl) ?_
  refine x_bok.cons (xs_isub d_R_wakes_154) ?_
  refine x_bok.cons (xs_istore d_R_wakes_155 (by decide)) ?_
  refine x_bok.cons (xs_iload d_R_wakes_157) ?_
  refine x_bok.cons (xs_if_le d_R_wakes_159 (by decide)) ?_
  refine x_bok.cons (xs_aload_n d_R_wakes_162 rfl) ?_
  refine x_bok.cons (xs_iload_n d_R_wakes_163 rfl) ?_
  refine x_bok.cons (xs_iload_n d_R_wakes_164 rfl) ?_
  refine x_bok.cons (xs_iload d_R_wakes_165) ?_
  refine x_bok.cons (xs_invV d_R_wakes_167 xc10 sn_R_reverse is_R_reverse ⟨q6_137, q6_139, (x_sel (x_p3 (List.mem_of_getElem? (i := 7) rfl))), q1_12⟩ (by decide) (by decide) rfl) ?_
  refine x_bok.cons (xs_vret d_R_wakes_170 rfl) ?_
  exact x_bok.nil
set_option maxRecDepth 100000 in
theorem mn_R_wakes : x_bmn b_R_wakes := by
  unfold b_R_wakes
  refine x_bmn.cons (xm_aload) ?_
  refine x_bmn.cons (xm_get) ?_
  refine x_bmn.cons (xm_iload) ?_
  refine x_bmn.cons (xm_push) ?_
  refine x_bmn.cons (xm_ast) ?_
  refine x_bmn.cons (xm_aload) ?_
  refine x_bmn.cons (xm_iload) ?_
  refine x_bmn.cons (xm_invV ym_R_lastTrace) ?_
  refine x_bmn.cons (xm_istore) ?_
  refine x_bmn.cons (xm_iload) ?_
  refine x_bmn.cons (xm_if) ?_
  refine x_bmn.cons (xm_vret) ?_
  refine x_bmn.cons (xm_aload) ?_
  refine x_bmn.cons (xm_iload) ?_
  refine x_bmn.cons (xm_push) ?_
  refine x_bmn.cons (xm_iload) ?_
  refine x_bmn.cons (xm_invV ym_R_has) ?_
  refine x_bmn.cons (xm_istore) ?_
  refine x_bmn.cons (xm_aload) ?_
  refine x_bmn.cons (xm_iload) ?_
  refine x_bmn.cons (xm_push) ?_
  refine x_bmn.cons (xm_iload) ?_
  refine x_bmn.cons (xm_invV ym_R_has) ?_
  refine x_bmn.cons (xm_istore) ?_
  refine x_bmn.cons (xm_aload) ?_
  refine x_bmn.cons (xm_iload) ?_
  refine x_bmn.cons (xm_push) ?_
  refine x_bmn.cons (xm_iload) ?_
  refine x_bmn.cons (xm_invV ym_R_has) ?_
  refine x_bmn.cons (xm_istore) ?_
  refine x_bmn.cons (xm_aload) ?_
  refine x_bmn.cons (xm_iload) ?_
  refine x_bmn.cons (xm_push) ?_
  refine x_bmn.cons (xm_iload) ?_
  refine x_bmn.cons (xm_invV ym_R_has) ?_
  refine x_bmn.cons (xm_istore) ?_
  refine x_bmn.cons (xm_iload) ?_
  refine x_bmn.cons (xm_if) ?_
  refine x_bmn.cons (xm_iload) ?_
  refine x_bmn.cons (xm_if) ?_
  refine x_bmn.cons (xm_iload) ?_
  refine x_bmn.cons (xm_if) ?_
  refine x_bmn.cons (xm_iload) ?_
  refine x_bmn.cons (xm_if) ?_
  refine x_bmn.cons (xm_aload) ?_
  refine x_bmn.cons (xm_iload) ?_
  refine x_bmn.cons (xm_iload) ?_
  refine x_bmn.cons (xm_aload) ?_
  refine x_bmn.cons (xm_iload) ?_
  refine x_bmn.cons (xm_iload) ?_
  refine x_bmn.cons (xm_invV ym_R_amountOf) ?_
  refine x_bmn.cons (xm_invV ym_R_reverse) ?_
  refine x_bmn.cons (xm_goto) ?_
  refine x_bmn.cons (xm_iload) ?_
  refine x_bmn.cons (xm_if) ?_
  refine x_bmn.cons (xm_iload) ?_
  refine x_bmn.cons (xm_if) ?_
  refine x_bmn.cons (xm_aload) ?_
  refine x_bmn.cons (xm_iload) ?_
  refine x_bmn.cons (xm_iload) ?_
  refine x_bmn.cons (xm_aload) ?_
  refine x_bmn.cons (xm_get) ?_
  refine x_bmn.cons (xm_iload) ?_
  refine x_bmn.cons (xm_ald) ?_
  refine x_bmn.cons (xm_iload) ?_
  refine x_bmn.cons (xm_icmp) ?_
  refine x_bmn.cons (xm_aload) ?_
  refine x_bmn.cons (xm_get) ?_
  refine x_bmn.cons (xm_iload) ?_
  refine x_bmn.cons (xm_ald) ?_
  refine x_bmn.cons (xm_goto) ?_
  refine x_bmn.cons (xm_push) ?_
  refine x_bmn.cons (xm_invV ym_R_paid) ?_
  refine x_bmn.cons (xm_goto) ?_
  refine x_bmn.cons (xm_iload) ?_
  refine x_bmn.cons (xm_if) ?_
  refine x_bmn.cons (xm_iload) ?_
  refine x_bmn.cons (xm_if) ?_
  refine x_bmn.cons (xm_aload) ?_
  refine x_bmn.cons (xm_iload) ?_
  refine x_bmn.cons (xm_iload) ?_
  refine x_bmn.cons (xm_invV ym_R_amountOf) ?_
  refine x_bmn.cons (xm_aload) ?_
  refine x_bmn.cons (xm_get) ?_
  refine x_bmn.cons (xm_aload) ?_
  refine x_bmn.cons (xm_iload) ?_
  refine x_bmn.cons (xm_push) ?_
  refine x_bmn.cons (xm_iload) ?_
  refine x_bmn.cons (xm_iload) ?_
  refine x_bmn.cons (xm_invV ym_R_find) ?_
  refine x_bmn.cons (xm_ald) ?_
  refine x_bmn.cons (xm_bin) ?_
  refine x_bmn.cons (xm_istore) ?_
  refine x_bmn.cons (xm_iload) ?_
  refine x_bmn.cons (xm_if) ?_
  refine x_bmn.cons (xm_aload) ?_
  refine x_bmn.cons (xm_iload) ?_
  refine x_bmn.cons (xm_iload) ?_
  refine x_bmn.cons (xm_iload) ?_
  refine x_bmn.cons (xm_invV ym_R_reverse) ?_
  refine x_bmn.cons (xm_vret) ?_
  exact x_bmn.nil
theorem is_R_wakes : x_Is y_R_wakes m_R_wakes := x_is_code q6_194
def Y_R_wakes : XMeth := x_do 8 b_R_wakes
theorem sn_R_wakes : x_Snd y_R_wakes m_R_wakes Y_R_wakes := x_snd_of (by decide) rfl rfl is_R_wakes k_R_wakes
theorem ym_R_wakes : x_Ymn Y_R_wakes := x_ymn_of mn_R_wakes
/- CashLinkModel.on(I)I -/
abbrev c_R_on : ByteArray := prog_12_method_35_code
def y_R_on : MethodName := ⟨"CashLinkModel", "on", "(I)I"⟩
theorem d_R_on_0 : decode c_R_on 0 = .ok (.aload_n 0, 1) := by decide +kernel
theorem d_R_on_1 : decode c_R_on 1 = .ok (.iload_n 1, 1) := by decide +kernel
theorem d_R_on_2 : decode c_R_on 2 = .ok (.iconst 0, 1) := by decide +kernel
theorem d_R_on_3 : decode c_R_on 3 = .ok (.iconst 4, 1) := by decide +kernel
theorem d_R_on_4 : decode c_R_on 4 = .ok (.invokestatic 175, 3) := by decide +kernel
theorem d_R_on_7 : decode c_R_on 7 = .ok (.ifCond .eq 7, 3) := by decide +kernel
theorem d_R_on_10 : decode c_R_on 10 = .ok (.iconst 0, 1) := by decide +kernel
theorem d_R_on_11 : decode c_R_on 11 = .ok (.goto 4, 3) := by decide +kernel
theorem d_R_on_14 : decode c_R_on 14 = .ok (.iconst 1, 1) := by decide +kernel
theorem d_R_on_15 : decode c_R_on 15 = .ok (.putfield 96, 3) := by decide +kernel
theorem d_R_on_18 : decode c_R_on 18 = .ok (.aload_n 0, 1) := by decide +kernel
theorem d_R_on_19 : decode c_R_on 19 = .ok (.getfield 96, 3) := by decide +kernel
theorem d_R_on_22 : decode c_R_on 22 = .ok (.ifCond .le 5, 3) := by decide +kernel
theorem d_R_on_25 : decode c_R_on 25 = .ok (.iconst 0, 1) := by decide +kernel
theorem d_R_on_26 : decode c_R_on 26 = .ok (.ireturn, 1) := by decide +kernel
theorem d_R_on_27 : decode c_R_on 27 = .ok (.aload_n 0, 1) := by decide +kernel
theorem d_R_on_28 : decode c_R_on 28 = .ok (.getfield 28, 3) := by decide +kernel
theorem d_R_on_31 : decode c_R_on 31 = .ok (.iload_n 1, 1) := by decide +kernel
theorem d_R_on_32 : decode c_R_on 32 = .ok (.iaload, 1) := by decide +kernel
theorem d_R_on_33 : decode c_R_on 33 = .ok (.istore_n 2, 1) := by decide +kernel
theorem d_R_on_34 : decode c_R_on 34 = .ok (.iload_n 1, 1) := by decide +kernel
theorem d_R_on_35 : decode c_R_on 35 = .ok (.iconst 4, 1) := by decide +kernel
theorem d_R_on_36 : decode c_R_on 36 = .ok (.if_icmp .ne 10, 3) := by decide +kernel
theorem d_R_on_39 : decode c_R_on 39 = .ok (.aload_n 0, 1) := by decide +kernel
theorem d_R_on_40 : decode c_R_on 40 = .ok (.iconst 1, 1) := by decide +kernel
theorem d_R_on_41 : decode c_R_on 41 = .ok (.putfield 37, 3) := by decide +kernel
theorem d_R_on_44 : decode c_R_on 44 = .ok (.iload_n 2, 1) := by decide +kernel
theorem d_R_on_45 : decode c_R_on 45 = .ok (.ireturn, 1) := by decide +kernel
theorem d_R_on_46 : decode c_R_on 46 = .ok (.aload_n 0, 1) := by decide +kernel
theorem d_R_on_47 : decode c_R_on 47 = .ok (.iload_n 1, 1) := by decide +kernel
theorem d_R_on_48 : decode c_R_on 48 = .ok (.invokevirtual 187, 3) := by decide +kernel
theorem d_R_on_51 : decode c_R_on 51 = .ok (.goto 11, 3) := by decide +kernel
theorem d_R_on_54 : decode c_R_on 54 = .ok (.astore_n 3, 1) := by decide +kernel
theorem d_R_on_55 : decode c_R_on 55 = .ok (.aload_n 0, 1) := by decide +kernel
theorem d_R_on_56 : decode c_R_on 56 = .ok (.iconst 2, 1) := by decide +kernel
theorem d_R_on_57 : decode c_R_on 57 = .ok (.putfield 96, 3) := by decide +kernel
theorem d_R_on_60 : decode c_R_on 60 = .ok (.iconst 0, 1) := by decide +kernel
theorem d_R_on_61 : decode c_R_on 61 = .ok (.ireturn, 1) := by decide +kernel
theorem d_R_on_62 : decode c_R_on 62 = .ok (.iload_n 2, 1) := by decide +kernel
theorem d_R_on_63 : decode c_R_on 63 = .ok (.ireturn, 1) := by decide +kernel
def m_R_on : XM := ("CashLinkModel", c_R_on, 4, (some .int), "on", [(46, 51, 54, 104)], 10, 193)
theorem h_R_on_48 : x_hok m_R_on 48 [(14, 54)] := by
  intro ci h hc
  by_cases e0 : ci = 14
  · subst e0
    have hh : h = 54 := (Option.some.inj (hc.symm.trans (by rfl : x_catch [(14, 54)] 14 = some 54)))
    subst hh
    refine ⟨"java/lang/ArithmeticException", xT14, 0, [], ⟨46, 51, 54, 104⟩, [], rfl, rfl, rfl, rfl, by decide, q6_78, ?_⟩
    intro z hz
    cases hz
  exfalso
  simp only [x_catch] at hc
  rw [if_neg (fun q => e0 q.symm)] at hc
  cases hc
def b_R_on : XB := [(0, X_aload 0 1),
  (1, X_iload 1 1),
  (2, X_push (xv_i 0) 1),
  (3, X_push (xv_i 4) 1),
  (4, X_invS Y_R_in 3 []),
  (7, X_if (fun x => x = 0) 14),
  (10, X_push (xv_i 0) 1),
  (11, X_goto 15),
  (14, X_push (xv_i 1) 1),
  (15, X_put x_tI 10 26),
  (18, X_aload 0 1),
  (19, X_get 10 26),
  (22, X_if (fun x => x ≤ 0) 27),
  (25, X_push (xv_i 0) 1),
  (26, X_iret),
  (27, X_aload 0 1),
  (28, X_get 10 6),
  (31, X_iload 1 1),
  (32, X_ald 0),
  (33, X_istore 2 1),
  (34, X_iload 1 1),
  (35, X_push (xv_i 4) 1),
  (36, X_icmp (fun x y => ¬ x = y) 46),
  (39, X_aload 0 1),
  (40, X_push (xv_i 1) 1),
  (41, X_put x_tZ 10 9),
  (44, X_iload 2 1),
  (45, X_iret),
  (46, X_aload 0 1),
  (47, X_iload 1 1),
  (48, X_invV 10 Y_R_wakes 1 [(14, 54)]),
  (51, X_goto 62),
  (54, X_astore 3 1),
  (55, X_aload 0 1),
  (56, X_push (xv_i 2) 1),
  (57, X_put x_tI 10 26),
  (60, X_push (xv_i 0) 1),
  (61, X_iret),
  (62, X_iload 2 1),
  (63, X_iret)]
set_option maxRecDepth 100000 in
theorem k_R_on : x_bok m_R_on b_R_on := by
  unfold b_R_on
  refine x_bok.cons (xs_aload_n d_R_on_0 rfl) ?_
  refine x_bok.cons (xs_iload_n d_R_on_1 rfl) ?_
  refine x_bok.cons (xs_iconst d_R_on_2 (by decide)) ?_
  refine x_bok.cons (xs_iconst d_R_on_3 (by decide)) ?_
  refine x_bok.cons (xs_invS d_R_on_4 sn_R_in is_R_in ⟨q6_67, q6_68, q1_12⟩ (by decide) (by decide) rfl) ?_
  refine x_bok.cons (xs_if_eq d_R_on_7 (by decide)) ?_
  refine x_bok.cons (xs_iconst d_R_on_10 (by decide)) ?_
  refine x_bok.cons (xs_goto d_R_on_11 (by decide)) ?_
  refine x_bok.cons (xs_iconst d_R_on_14 (by decide)) ?_
  refine x_bok.cons (xs_put d_R_on_15 xc10 xw10 xt10 xn10 (by decide) q5_231 (Or.inl rfl) rfl rfl x_fitI) ?_
  refine x_bok.cons (xs_aload_n d_R_on_18 rfl) ?_
  refine x_bok.cons (xs_get d_R_on_19 xc10 xw10 (by decide) q5_231 (Or.inl rfl)) ?_
  refine x_bok.cons (xs_if_le d_R_on_22 (by decide)) ?_
  refine x_bok.cons (xs_iconst d_R_on_25 (by decide)) ?_
  refine x_bok.cons (xs_iret d_R_on_26 rfl) ?_
  refine x_bok.cons (xs_aload_n d_R_on_27 rfl) ?_
  refine x_bok.cons (xs_get d_R_on_28 xc10 xw10 (by decide) q5_211 (Or.inl rfl)) ?_
  refine x_bok.cons (xs_iload_n d_R_on_31 rfl) ?_
  refine x_bok.cons (xs_iald d_R_on_32 rfl) ?_
  refine x_bok.cons (xs_istore_n d_R_on_33 rfl (by decide)) ?_
  refine x_bok.cons (xs_iload_n d_R_on_34 rfl) ?_
  refine x_bok.cons (xs_iconst d_R_on_35 (by decide)) ?_
  refine x_bok.cons (xs_icmp_ne d_R_on_36 (by decide)) ?_
  refine x_bok.cons (xs_aload_n d_R_on_39 rfl) ?_
  refine x_bok.cons (xs_iconst d_R_on_40 (by decide)) ?_
  refine x_bok.cons (xs_put d_R_on_41 xc10 xw10 xt10 xn10 (by decide) q5_214 (Or.inl rfl) rfl rfl x_fitZ) ?_
  refine x_bok.cons (xs_iload_n d_R_on_44 rfl) ?_
  refine x_bok.cons (xs_iret d_R_on_45 rfl) ?_
  refine x_bok.cons (xs_aload_n d_R_on_46 rfl) ?_
  refine x_bok.cons (xs_iload_n d_R_on_47 rfl) ?_
  refine x_bok.cons (xs_invV d_R_on_48 xc10 sn_R_wakes is_R_wakes ⟨q6_191, q6_193, (x_sel (x_p3 (List.mem_of_getElem? (i := 13) rfl))), q1_12⟩ (by decide) (by decide) h_R_on_48) ?_
  refine x_bok.cons (xs_goto d_R_on_51 (by decide)) ?_
  refine x_bok.cons (xs_astore_n d_R_on_54 rfl (by decide)) ?_
  refine x_bok.cons (xs_aload_n d_R_on_55 rfl) ?_
  refine x_bok.cons (xs_iconst d_R_on_56 (by decide)) ?_
  refine x_bok.cons (xs_put d_R_on_57 xc10 xw10 xt10 xn10 (by decide) q5_231 (Or.inl rfl) rfl rfl x_fitI) ?_
  refine x_bok.cons (xs_iconst d_R_on_60 (by decide)) ?_
  refine x_bok.cons (xs_iret d_R_on_61 rfl) ?_
  refine x_bok.cons (xs_iload_n d_R_on_62 rfl) ?_
  refine x_bok.cons (xs_iret d_R_on_63 rfl) ?_
  exact x_bok.nil
set_option maxRecDepth 100000 in
theorem mn_R_on : x_bmn b_R_on := by
  unfold b_R_on
  refine x_bmn.cons (xm_aload) ?_
  refine x_bmn.cons (xm_iload) ?_
  refine x_bmn.cons (xm_push) ?_
  refine x_bmn.cons (xm_push) ?_
  refine x_bmn.cons (xm_invS ym_R_in) ?_
  refine x_bmn.cons (xm_if) ?_
  refine x_bmn.cons (xm_push) ?_
  refine x_bmn.cons (xm_goto) ?_
  refine x_bmn.cons (xm_push) ?_
  refine x_bmn.cons (xm_put) ?_
  refine x_bmn.cons (xm_aload) ?_
  refine x_bmn.cons (xm_get) ?_
  refine x_bmn.cons (xm_if) ?_
  refine x_bmn.cons (xm_push) ?_
  refine x_bmn.cons (xm_iret) ?_
  refine x_bmn.cons (xm_aload) ?_
  refine x_bmn.cons (xm_get) ?_
  refine x_bmn.cons (xm_iload) ?_
  refine x_bmn.cons (xm_ald) ?_
  refine x_bmn.cons (xm_istore) ?_
  refine x_bmn.cons (xm_iload) ?_
  refine x_bmn.cons (xm_push) ?_
  refine x_bmn.cons (xm_icmp) ?_
  refine x_bmn.cons (xm_aload) ?_
  refine x_bmn.cons (xm_push) ?_
  refine x_bmn.cons (xm_put) ?_
  refine x_bmn.cons (xm_iload) ?_
  refine x_bmn.cons (xm_iret) ?_
  refine x_bmn.cons (xm_aload) ?_
  refine x_bmn.cons (xm_iload) ?_
  refine x_bmn.cons (xm_invV ym_R_wakes) ?_
  refine x_bmn.cons (xm_goto) ?_
  refine x_bmn.cons (xm_astore) ?_
  refine x_bmn.cons (xm_aload) ?_
  refine x_bmn.cons (xm_push) ?_
  refine x_bmn.cons (xm_put) ?_
  refine x_bmn.cons (xm_push) ?_
  refine x_bmn.cons (xm_iret) ?_
  refine x_bmn.cons (xm_iload) ?_
  refine x_bmn.cons (xm_iret) ?_
  exact x_bmn.nil
theorem is_R_on : x_Is y_R_on m_R_on := x_is_with q6_190
def Y_R_on : XMeth := x_do 4 b_R_on
theorem sn_R_on : x_Snd y_R_on m_R_on Y_R_on := x_snd_of (by decide) rfl rfl is_R_on k_R_on
theorem ym_R_on : x_Ymn Y_R_on := x_ymn_of mn_R_on
/- CashLinkModel.told(II)I -/
abbrev c_R_told : ByteArray := prog_12_method_36_code
def y_R_told : MethodName := ⟨"CashLinkModel", "told", "(II)I"⟩
theorem d_R_told_0 : decode c_R_told 0 = .ok (.aload_n 0, 1) := by decide +kernel
theorem d_R_told_1 : decode c_R_told 1 = .ok (.iload_n 1, 1) := by decide +kernel
theorem d_R_told_2 : decode c_R_told 2 = .ok (.iconst 0, 1) := by decide +kernel
theorem d_R_told_3 : decode c_R_told 3 = .ok (.iconst 3, 1) := by decide +kernel
theorem d_R_told_4 : decode c_R_told 4 = .ok (.invokestatic 175, 3) := by decide +kernel
theorem d_R_told_7 : decode c_R_told 7 = .ok (.ifCond .eq 17, 3) := by decide +kernel
theorem d_R_told_10 : decode c_R_told 10 = .ok (.iload_n 2, 1) := by decide +kernel
theorem d_R_told_11 : decode c_R_told 11 = .ok (.iconst 0, 1) := by decide +kernel
theorem d_R_told_12 : decode c_R_told 12 = .ok (.bipush 10, 2) := by decide +kernel
theorem d_R_told_14 : decode c_R_told 14 = .ok (.invokestatic 175, 3) := by decide +kernel
theorem d_R_told_17 : decode c_R_told 17 = .ok (.ifCond .eq 7, 3) := by decide +kernel
theorem d_R_told_20 : decode c_R_told 20 = .ok (.iconst 0, 1) := by decide +kernel
theorem d_R_told_21 : decode c_R_told 21 = .ok (.goto 4, 3) := by decide +kernel
theorem d_R_told_24 : decode c_R_told 24 = .ok (.iconst 1, 1) := by decide +kernel
theorem d_R_told_25 : decode c_R_told 25 = .ok (.putfield 96, 3) := by decide +kernel
theorem d_R_told_28 : decode c_R_told 28 = .ok (.aload_n 0, 1) := by decide +kernel
theorem d_R_told_29 : decode c_R_told 29 = .ok (.getfield 96, 3) := by decide +kernel
theorem d_R_told_32 : decode c_R_told 32 = .ok (.ifCond .le 5, 3) := by decide +kernel
theorem d_R_told_35 : decode c_R_told 35 = .ok (.iconst 0, 1) := by decide +kernel
theorem d_R_told_36 : decode c_R_told 36 = .ok (.ireturn, 1) := by decide +kernel
theorem d_R_told_37 : decode c_R_told 37 = .ok (.aload_n 0, 1) := by decide +kernel
theorem d_R_told_38 : decode c_R_told 38 = .ok (.getfield 41, 3) := by decide +kernel
theorem d_R_told_41 : decode c_R_told 41 = .ok (.iload_n 1, 1) := by decide +kernel
theorem d_R_told_42 : decode c_R_told 42 = .ok (.iaload, 1) := by decide +kernel
theorem d_R_told_43 : decode c_R_told 43 = .ok (.ifCond .ne 15, 3) := by decide +kernel
theorem d_R_told_46 : decode c_R_told 46 = .ok (.iload_n 2, 1) := by decide +kernel
theorem d_R_told_47 : decode c_R_told 47 = .ok (.iconst 1, 1) := by decide +kernel
theorem d_R_told_48 : decode c_R_told 48 = .ok (.if_icmp .eq 8, 3) := by decide +kernel
theorem d_R_told_51 : decode c_R_told 51 = .ok (.iload_n 2, 1) := by decide +kernel
theorem d_R_told_52 : decode c_R_told 52 = .ok (.iconst 2, 1) := by decide +kernel
theorem d_R_told_53 : decode c_R_told 53 = .ok (.if_icmp .ne 5, 3) := by decide +kernel
theorem d_R_told_56 : decode c_R_told 56 = .ok (.iconst (-1), 1) := by decide +kernel
theorem d_R_told_57 : decode c_R_told 57 = .ok (.ireturn, 1) := by decide +kernel
theorem d_R_told_58 : decode c_R_told 58 = .ok (.iload_n 2, 1) := by decide +kernel
theorem d_R_told_59 : decode c_R_told 59 = .ok (.iconst 4, 1) := by decide +kernel
theorem d_R_told_60 : decode c_R_told 60 = .ok (.if_icmp .lt 22, 3) := by decide +kernel
theorem d_R_told_63 : decode c_R_told 63 = .ok (.iload_n 2, 1) := by decide +kernel
theorem d_R_told_64 : decode c_R_told 64 = .ok (.bipush 7, 2) := by decide +kernel
theorem d_R_told_66 : decode c_R_told 66 = .ok (.if_icmp .gt 16, 3) := by decide +kernel
theorem d_R_told_69 : decode c_R_told 69 = .ok (.aload_n 0, 1) := by decide +kernel
theorem d_R_told_70 : decode c_R_told 70 = .ok (.getfield 50, 3) := by decide +kernel
theorem d_R_told_73 : decode c_R_told 73 = .ok (.iconst 4, 1) := by decide +kernel
theorem d_R_told_74 : decode c_R_told 74 = .ok (.iload_n 1, 1) := by decide +kernel
theorem d_R_told_75 : decode c_R_told 75 = .ok (.imul, 1) := by decide +kernel
theorem d_R_told_76 : decode c_R_told 76 = .ok (.iload_n 2, 1) := by decide +kernel
theorem d_R_told_77 : decode c_R_told 77 = .ok (.iadd, 1) := by decide +kernel
theorem d_R_told_78 : decode c_R_told 78 = .ok (.iconst 4, 1) := by decide +kernel
theorem d_R_told_79 : decode c_R_told 79 = .ok (.isub, 1) := by decide +kernel
theorem d_R_told_80 : decode c_R_told 80 = .ok (.iaload, 1) := by decide +kernel
theorem d_R_told_81 : decode c_R_told 81 = .ok (.ireturn, 1) := by decide +kernel
theorem d_R_told_82 : decode c_R_told 82 = .ok (.iload_n 2, 1) := by decide +kernel
theorem d_R_told_83 : decode c_R_told 83 = .ok (.tableswitch 93 0 9 #[53, 60, 66, 72, 93, 93, 93, 93, 79, 86], 53) := by decide +kernel
theorem d_R_told_136 : decode c_R_told 136 = .ok (.aload_n 0, 1) := by decide +kernel
theorem d_R_told_137 : decode c_R_told 137 = .ok (.getfield 41, 3) := by decide +kernel
theorem d_R_told_140 : decode c_R_told 140 = .ok (.iload_n 1, 1) := by decide +kernel
theorem d_R_told_141 : decode c_R_told 141 = .ok (.iaload, 1) := by decide +kernel
theorem d_R_told_142 : decode c_R_told 142 = .ok (.ireturn, 1) := by decide +kernel
theorem d_R_told_143 : decode c_R_told 143 = .ok (.aload_n 0, 1) := by decide +kernel
theorem d_R_told_144 : decode c_R_told 144 = .ok (.iload_n 1, 1) := by decide +kernel
theorem d_R_told_145 : decode c_R_told 145 = .ok (.invokevirtual 146, 3) := by decide +kernel
theorem d_R_told_148 : decode c_R_told 148 = .ok (.ireturn, 1) := by decide +kernel
theorem d_R_told_149 : decode c_R_told 149 = .ok (.aload_n 0, 1) := by decide +kernel
theorem d_R_told_150 : decode c_R_told 150 = .ok (.iload_n 1, 1) := by decide +kernel
theorem d_R_told_151 : decode c_R_told 151 = .ok (.invokevirtual 178, 3) := by decide +kernel
theorem d_R_told_154 : decode c_R_told 154 = .ok (.ireturn, 1) := by decide +kernel
theorem d_R_told_155 : decode c_R_told 155 = .ok (.aload_n 0, 1) := by decide +kernel
theorem d_R_told_156 : decode c_R_told 156 = .ok (.getfield 28, 3) := by decide +kernel
theorem d_R_told_159 : decode c_R_told 159 = .ok (.iload_n 1, 1) := by decide +kernel
theorem d_R_told_160 : decode c_R_told 160 = .ok (.iaload, 1) := by decide +kernel
theorem d_R_told_161 : decode c_R_told 161 = .ok (.ireturn, 1) := by decide +kernel
theorem d_R_told_162 : decode c_R_told 162 = .ok (.aload_n 0, 1) := by decide +kernel
theorem d_R_told_163 : decode c_R_told 163 = .ok (.getfield 53, 3) := by decide +kernel
theorem d_R_told_166 : decode c_R_told 166 = .ok (.iload_n 1, 1) := by decide +kernel
theorem d_R_told_167 : decode c_R_told 167 = .ok (.iaload, 1) := by decide +kernel
theorem d_R_told_168 : decode c_R_told 168 = .ok (.ireturn, 1) := by decide +kernel
theorem d_R_told_169 : decode c_R_told 169 = .ok (.aload_n 0, 1) := by decide +kernel
theorem d_R_told_170 : decode c_R_told 170 = .ok (.getfield 56, 3) := by decide +kernel
theorem d_R_told_173 : decode c_R_told 173 = .ok (.iload_n 1, 1) := by decide +kernel
theorem d_R_told_174 : decode c_R_told 174 = .ok (.iaload, 1) := by decide +kernel
theorem d_R_told_175 : decode c_R_told 175 = .ok (.ireturn, 1) := by decide +kernel
theorem d_R_told_176 : decode c_R_told 176 = .ok (.aload_n 0, 1) := by decide +kernel
theorem d_R_told_177 : decode c_R_told 177 = .ok (.getfield 59, 3) := by decide +kernel
theorem d_R_told_180 : decode c_R_told 180 = .ok (.iload_n 1, 1) := by decide +kernel
theorem d_R_told_181 : decode c_R_told 181 = .ok (.iaload, 1) := by decide +kernel
theorem d_R_told_182 : decode c_R_told 182 = .ok (.ireturn, 1) := by decide +kernel
def m_R_told : XM := ("CashLinkModel", c_R_told, 3, (some .int), "told", [], 5, 113)
def b_R_told : XB := [(0, X_aload 0 1),
  (1, X_iload 1 1),
  (2, X_push (xv_i 0) 1),
  (3, X_push (xv_i 3) 1),
  (4, X_invS Y_R_in 3 []),
  (7, X_if (fun x => x = 0) 24),
  (10, X_iload 2 1),
  (11, X_push (xv_i 0) 1),
  (12, X_push (xv_i 10) 2),
  (14, X_invS Y_R_in 3 []),
  (17, X_if (fun x => x = 0) 24),
  (20, X_push (xv_i 0) 1),
  (21, X_goto 25),
  (24, X_push (xv_i 1) 1),
  (25, X_put x_tI 10 26),
  (28, X_aload 0 1),
  (29, X_get 10 26),
  (32, X_if (fun x => x ≤ 0) 37),
  (35, X_push (xv_i 0) 1),
  (36, X_iret),
  (37, X_aload 0 1),
  (38, X_get 10 10),
  (41, X_iload 1 1),
  (42, X_ald 0),
  (43, X_if (fun x => ¬ x = 0) 58),
  (46, X_iload 2 1),
  (47, X_push (xv_i 1) 1),
  (48, X_icmp (fun x y => x = y) 56),
  (51, X_iload 2 1),
  (52, X_push (xv_i 2) 1),
  (53, X_icmp (fun x y => ¬ x = y) 58),
  (56, X_push (xv_i (-1)) 1),
  (57, X_iret),
  (58, X_iload 2 1),
  (59, X_push (xv_i 4) 1),
  (60, X_icmp (fun x y => x < y) 82),
  (63, X_iload 2 1),
  (64, X_push (xv_i 7) 2),
  (66, X_icmp (fun x y => y < x) 82),
  (69, X_aload 0 1),
  (70, X_get 10 13),
  (73, X_push (xv_i 4) 1),
  (74, X_iload 1 1),
  (75, X_bin (fun x y => x * y)),
  (76, X_iload 2 1),
  (77, X_bin (fun x y => x + y)),
  (78, X_push (xv_i 4) 1),
  (79, X_bin (fun x y => x - y)),
  (80, X_ald 0),
  (81, X_iret),
  (82, X_iload 2 1),
  (83, X_sw [(0, 136), (1, 143), (2, 149), (3, 155), (4, 176), (5, 176), (6, 176), (7, 176), (8, 162), (9, 169)] 176),
  (136, X_aload 0 1),
  (137, X_get 10 10),
  (140, X_iload 1 1),
  (141, X_ald 0),
  (142, X_iret),
  (143, X_aload 0 1),
  (144, X_iload 1 1),
  (145, X_invV 10 Y_R_lastTrace 1 []),
  (148, X_iret),
  (149, X_aload 0 1),
  (150, X_iload 1 1),
  (151, X_invV 10 Y_R_voids 1 []),
  (154, X_iret),
  (155, X_aload 0 1),
  (156, X_get 10 6),
  (159, X_iload 1 1),
  (160, X_ald 0),
  (161, X_iret),
  (162, X_aload 0 1),
  (163, X_get 10 14),
  (166, X_iload 1 1),
  (167, X_ald 0),
  (168, X_iret),
  (169, X_aload 0 1),
  (170, X_get 10 15),
  (173, X_iload 1 1),
  (174, X_ald 0),
  (175, X_iret),
  (176, X_aload 0 1),
  (177, X_get 10 16),
  (180, X_iload 1 1),
  (181, X_ald 0),
  (182, X_iret)]
set_option maxRecDepth 100000 in
theorem k_R_told : x_bok m_R_told b_R_told := by
  unfold b_R_told
  refine x_bok.cons (xs_aload_n d_R_told_0 rfl) ?_
  refine x_bok.cons (xs_iload_n d_R_told_1 rfl) ?_
  refine x_bok.cons (xs_iconst d_R_told_2 (by decide)) ?_
  refine x_bok.cons (xs_iconst d_R_told_3 (by decide)) ?_
  refine x_bok.cons (xs_invS d_R_told_4 sn_R_in is_R_in ⟨q6_67, q6_68, q1_12⟩ (by decide) (by decide) rfl) ?_
  refine x_bok.cons (xs_if_eq d_R_told_7 (by decide)) ?_
  refine x_bok.cons (xs_iload_n d_R_told_10 rfl) ?_
  refine x_bok.cons (xs_iconst d_R_told_11 (by decide)) ?_
  refine x_bok.cons (xs_bipush d_R_told_12 (by decide)) ?_
  refine x_bok.cons (xs_invS d_R_told_14 sn_R_in is_R_in ⟨q6_67, q6_68, q1_12⟩ (by decide) (by decide) rfl) ?_
  refine x_bok.cons (xs_if_eq d_R_told_17 (by decide)) ?_
  refine x_bok.cons (xs_iconst d_R_told_20 (by decide)) ?_
  refine x_bok.cons (xs_goto d_R_told_21 (by decide)) ?_
  refine x_bok.cons (xs_iconst d_R_told_24 (by decide)) ?_
  refine x_bok.cons (xs_put d_R_told_25 xc10 xw10 xt10 xn10 (by decide) q5_231 (Or.inl rfl) rfl rfl x_fitI) ?_
  refine x_bok.cons (xs_aload_n d_R_told_28 rfl) ?_
  refine x_bok.cons (xs_get d_R_told_29 xc10 xw10 (by decide) q5_231 (Or.inl rfl)) ?_
  refine x_bok.cons (xs_if_le d_R_told_32 (by decide)) ?_
  refine x_bok.cons (xs_iconst d_R_told_35 (by decide)) ?_
  refine x_bok.cons (xs_iret d_R_told_36 rfl) ?_
  refine x_bok.cons (xs_aload_n d_R_told_37 rfl) ?_
  refine x_bok.cons (xs_get d_R_told_38 xc10 xw10 (by decide) q5_215 (Or.inl rfl)) ?_
  refine x_bok.cons (xs_iload_n d_R_told_41 rfl) ?_
  refine x_bok.cons (xs_iald d_R_told_42 rfl) ?_
  refine x_bok.cons (xs_if_ne d_R_told_43 (by decide)) ?_
  refine x_bok.cons (xs_iload_n d_R_told_46 rfl) ?_
  refine x_bok.cons (xs_iconst d_R_told_47 (by decide)) ?_
  refine x_bok.cons (xs_icmp_eq d_R_told_48 (by decide)) ?_
  refine x_bok.cons (xs_iload_n d_R_told_51 rfl) ?_
  refine x_bok.cons (xs_iconst d_R_told_52 (by decide)) ?_
  refine x_bok.cons (xs_icmp_ne d_R_told_53 (by decide)) ?_
  refine x_bok.cons (xs_iconst d_R_told_56 (by decide)) ?_
  refine x_bok.cons (xs_iret d_R_told_57 rfl) ?_
  refine x_bok.cons (xs_iload_n d_R_told_58 rfl) ?_
  refine x_bok.cons (xs_iconst d_R_told_59 (by decide)) ?_
  refine x_bok.cons (xs_icmp_lt d_R_told_60 (by decide)) ?_
  refine x_bok.cons (xs_iload_n d_R_told_63 rfl) ?_
  refine x_bok.cons (xs_bipush d_R_told_64 (by decide)) ?_
  refine x_bok.cons (xs_icmp_gt d_R_told_66 (by decide)) ?_
  refine x_bok.cons (xs_aload_n d_R_told_69 rfl) ?_
  refine x_bok.cons (xs_get d_R_told_70 xc10 xw10 (by decide) q5_218 (Or.inl rfl)) ?_
  refine x_bok.cons (xs_iconst d_R_told_73 (by decide)) ?_
  refine x_bok.cons (xs_iload_n d_R_told_74 rfl) ?_
  refine x_bok.cons (xs_imul d_R_told_75) ?_
  refine x_bok.cons (xs_iload_n d_R_told_76 rfl) ?_
  refine x_bok.cons (xs_iadd d_R_told_77) ?_
  refine x_bok.cons (xs_iconst d_R_told_78 (by decide)) ?_
  refine x_bok.cons (xs_isub d_R_told_79) ?_
  refine x_bok.cons (xs_iald d_R_told_80 rfl) ?_
  refine x_bok.cons (xs_iret d_R_told_81 rfl) ?_
  refine x_bok.cons (xs_iload_n d_R_told_82 rfl) ?_
  refine x_bok.cons (xs_tsw d_R_told_83 (by decide) (by decide) (x_swall 0 10 _ (by decide))) ?_
  refine x_bok.cons (xs_aload_n d_R_told_136 rfl) ?_
  refine x_bok.cons (xs_get d_R_told_137 xc10 xw10 (by decide) q5_215 (Or.inl rfl)) ?_
  refine x_bok.cons (xs_iload_n d_R_told_140 rfl) ?_
  refine x_bok.cons (xs_iald d_R_told_141 rfl) ?_
  refine x_bok.cons (xs_iret d_R_told_142 rfl) ?_
  refine x_bok.cons (xs_aload_n d_R_told_143 rfl) ?_
  refine x_bok.cons (xs_iload_n d_R_told_144 rfl) ?_
  refine x_bok.cons (xs_invV d_R_told_145 xc10 sn_R_lastTrace is_R_lastTrace ⟨q6_103, q6_105, (x_sel (x_p3 (List.mem_of_getElem? (i := 2) rfl))), q1_12⟩ (by decide) (by decide) rfl) ?_
  refine x_bok.cons (xs_iret d_R_told_148 rfl) ?_
  refine x_bok.cons (xs_aload_n d_R_told_149 rfl) ?_
  refine x_bok.cons (xs_iload_n d_R_told_150 rfl) ?_
  refine x_bok.cons (xs_invV d_R_told_151 xc10 sn_R_voids is_R_voids ⟨q6_84, q6_86, (x_sel (x_p2 (List.mem_of_getElem? (i := 14) rfl))), q1_12⟩ (by decide) (by decide) rfl) ?_
  refine x_bok.cons (xs_iret d_R_told_154 rfl) ?_
  refine x_bok.cons (xs_aload_n d_R_told_155 rfl) ?_
  refine x_bok.cons (xs_get d_R_told_156 xc10 xw10 (by decide) q5_211 (Or.inl rfl)) ?_
  refine x_bok.cons (xs_iload_n d_R_told_159 rfl) ?_
  refine x_bok.cons (xs_iald d_R_told_160 rfl) ?_
  refine x_bok.cons (xs_iret d_R_told_161 rfl) ?_
  refine x_bok.cons (xs_aload_n d_R_told_162 rfl) ?_
  refine x_bok.cons (xs_get d_R_told_163 xc10 xw10 (by decide) q5_219 (Or.inl rfl)) ?_
  refine x_bok.cons (xs_iload_n d_R_told_166 rfl) ?_
  refine x_bok.cons (xs_iald d_R_told_167 rfl) ?_
  refine x_bok.cons (xs_iret d_R_told_168 rfl) ?_
  refine x_bok.cons (xs_aload_n d_R_told_169 rfl) ?_
  refine x_bok.cons (xs_get d_R_told_170 xc10 xw10 (by decide) q5_220 (Or.inl rfl)) ?_
  refine x_bok.cons (xs_iload_n d_R_told_173 rfl) ?_
  refine x_bok.cons (xs_iald d_R_told_174 rfl) ?_
  refine x_bok.cons (xs_iret d_R_told_175 rfl) ?_
  refine x_bok.cons (xs_aload_n d_R_told_176 rfl) ?_
  refine x_bok.cons (xs_get d_R_told_177 xc10 xw10 (by decide) q5_221 (Or.inl rfl)) ?_
  refine x_bok.cons (xs_iload_n d_R_told_180 rfl) ?_
  refine x_bok.cons (xs_iald d_R_told_181 rfl) ?_
  refine x_bok.cons (xs_iret d_R_told_182 rfl) ?_
  exact x_bok.nil
set_option maxRecDepth 100000 in
theorem mn_R_told : x_bmn b_R_told := by
  unfold b_R_told
  refine x_bmn.cons (xm_aload) ?_
  refine x_bmn.cons (xm_iload) ?_
  refine x_bmn.cons (xm_push) ?_
  refine x_bmn.cons (xm_push) ?_
  refine x_bmn.cons (xm_invS ym_R_in) ?_
  refine x_bmn.cons (xm_if) ?_
  refine x_bmn.cons (xm_iload) ?_
  refine x_bmn.cons (xm_push) ?_
  refine x_bmn.cons (xm_push) ?_
  refine x_bmn.cons (xm_invS ym_R_in) ?_
  refine x_bmn.cons (xm_if) ?_
  refine x_bmn.cons (xm_push) ?_
  refine x_bmn.cons (xm_goto) ?_
  refine x_bmn.cons (xm_push) ?_
  refine x_bmn.cons (xm_put) ?_
  refine x_bmn.cons (xm_aload) ?_
  refine x_bmn.cons (xm_get) ?_
  refine x_bmn.cons (xm_if) ?_
  refine x_bmn.cons (xm_push) ?_
  refine x_bmn.cons (xm_iret) ?_
  refine x_bmn.cons (xm_aload) ?_
  refine x_bmn.cons (xm_get) ?_
  refine x_bmn.cons (xm_iload) ?_
  refine x_bmn.cons (xm_ald) ?_
  refine x_bmn.cons (xm_if) ?_
  refine x_bmn.cons (xm_iload) ?_
  refine x_bmn.cons (xm_push) ?_
  refine x_bmn.cons (xm_icmp) ?_
  refine x_bmn.cons (xm_iload) ?_
  refine x_bmn.cons (xm_push) ?_
  refine x_bmn.cons (xm_icmp) ?_
  refine x_bmn.cons (xm_push) ?_
  refine x_bmn.cons (xm_iret) ?_
  refine x_bmn.cons (xm_iload) ?_
  refine x_bmn.cons (xm_push) ?_
  refine x_bmn.cons (xm_icmp) ?_
  refine x_bmn.cons (xm_iload) ?_
  refine x_bmn.cons (xm_push) ?_
  refine x_bmn.cons (xm_icmp) ?_
  refine x_bmn.cons (xm_aload) ?_
  refine x_bmn.cons (xm_get) ?_
  refine x_bmn.cons (xm_push) ?_
  refine x_bmn.cons (xm_iload) ?_
  refine x_bmn.cons (xm_bin) ?_
  refine x_bmn.cons (xm_iload) ?_
  refine x_bmn.cons (xm_bin) ?_
  refine x_bmn.cons (xm_push) ?_
  refine x_bmn.cons (xm_bin) ?_
  refine x_bmn.cons (xm_ald) ?_
  refine x_bmn.cons (xm_iret) ?_
  refine x_bmn.cons (xm_iload) ?_
  refine x_bmn.cons (xm_sw) ?_
  refine x_bmn.cons (xm_aload) ?_
  refine x_bmn.cons (xm_get) ?_
  refine x_bmn.cons (xm_iload) ?_
  refine x_bmn.cons (xm_ald) ?_
  refine x_bmn.cons (xm_iret) ?_
  refine x_bmn.cons (xm_aload) ?_
  refine x_bmn.cons (xm_iload) ?_
  refine x_bmn.cons (xm_invV ym_R_lastTrace) ?_
  refine x_bmn.cons (xm_iret) ?_
  refine x_bmn.cons (xm_aload) ?_
  refine x_bmn.cons (xm_iload) ?_
  refine x_bmn.cons (xm_invV ym_R_voids) ?_
  refine x_bmn.cons (xm_iret) ?_
  refine x_bmn.cons (xm_aload) ?_
  refine x_bmn.cons (xm_get) ?_
  refine x_bmn.cons (xm_iload) ?_
  refine x_bmn.cons (xm_ald) ?_
  refine x_bmn.cons (xm_iret) ?_
  refine x_bmn.cons (xm_aload) ?_
  refine x_bmn.cons (xm_get) ?_
  refine x_bmn.cons (xm_iload) ?_
  refine x_bmn.cons (xm_ald) ?_
  refine x_bmn.cons (xm_iret) ?_
  refine x_bmn.cons (xm_aload) ?_
  refine x_bmn.cons (xm_get) ?_
  refine x_bmn.cons (xm_iload) ?_
  refine x_bmn.cons (xm_ald) ?_
  refine x_bmn.cons (xm_iret) ?_
  refine x_bmn.cons (xm_aload) ?_
  refine x_bmn.cons (xm_get) ?_
  refine x_bmn.cons (xm_iload) ?_
  refine x_bmn.cons (xm_ald) ?_
  refine x_bmn.cons (xm_iret) ?_
  exact x_bmn.nil
theorem is_R_told : x_Is y_R_told m_R_told := x_is_code q6_198
def Y_R_told : XMeth := x_do 3 b_R_told
theorem sn_R_told : x_Snd y_R_told m_R_told Y_R_told := x_snd_of (by decide) rfl rfl is_R_told k_R_told
theorem ym_R_told : x_Ymn Y_R_told := x_ymn_of mn_R_told
/- CashLinkModel.balance(I)I -/
abbrev c_R_balance : ByteArray := prog_12_method_37_code
def y_R_balance : MethodName := ⟨"CashLinkModel", "balance", "(I)I"⟩
theorem d_R_balance_0 : decode c_R_balance 0 = .ok (.aload_n 0, 1) := by decide +kernel
theorem d_R_balance_1 : decode c_R_balance 1 = .ok (.iload_n 1, 1) := by decide +kernel
theorem d_R_balance_2 : decode c_R_balance 2 = .ok (.iconst 0, 1) := by decide +kernel
theorem d_R_balance_3 : decode c_R_balance 3 = .ok (.sipush 199, 3) := by decide +kernel
theorem d_R_balance_6 : decode c_R_balance 6 = .ok (.invokestatic 175, 3) := by decide +kernel
theorem d_R_balance_9 : decode c_R_balance 9 = .ok (.ifCond .eq 7, 3) := by decide +kernel
theorem d_R_balance_12 : decode c_R_balance 12 = .ok (.iconst 0, 1) := by decide +kernel
theorem d_R_balance_13 : decode c_R_balance 13 = .ok (.goto 4, 3) := by decide +kernel
theorem d_R_balance_16 : decode c_R_balance 16 = .ok (.iconst 1, 1) := by decide +kernel
theorem d_R_balance_17 : decode c_R_balance 17 = .ok (.putfield 96, 3) := by decide +kernel
theorem d_R_balance_20 : decode c_R_balance 20 = .ok (.aload_n 0, 1) := by decide +kernel
theorem d_R_balance_21 : decode c_R_balance 21 = .ok (.getfield 96, 3) := by decide +kernel
theorem d_R_balance_24 : decode c_R_balance 24 = .ok (.ifCond .le 7, 3) := by decide +kernel
theorem d_R_balance_27 : decode c_R_balance 27 = .ok (.iconst 0, 1) := by decide +kernel
theorem d_R_balance_28 : decode c_R_balance 28 = .ok (.goto 8, 3) := by decide +kernel
theorem d_R_balance_31 : decode c_R_balance 31 = .ok (.aload_n 0, 1) := by decide +kernel
theorem d_R_balance_32 : decode c_R_balance 32 = .ok (.iload_n 1, 1) := by decide +kernel
theorem d_R_balance_33 : decode c_R_balance 33 = .ok (.invokevirtual 172, 3) := by decide +kernel
theorem d_R_balance_36 : decode c_R_balance 36 = .ok (.ireturn, 1) := by decide +kernel
def m_R_balance : XM := ("CashLinkModel", c_R_balance, 2, (some .int), "balance", [], 3, 69)
def b_R_balance : XB := [(0, X_aload 0 1),
  (1, X_iload 1 1),
  (2, X_push (xv_i 0) 1),
  (3, X_push (xv_i 199) 3),
  (6, X_invS Y_R_in 3 []),
  (9, X_if (fun x => x = 0) 16),
  (12, X_push (xv_i 0) 1),
  (13, X_goto 17),
  (16, X_push (xv_i 1) 1),
  (17, X_put x_tI 10 26),
  (20, X_aload 0 1),
  (21, X_get 10 26),
  (24, X_if (fun x => x ≤ 0) 31),
  (27, X_push (xv_i 0) 1),
  (28, X_goto 36),
  (31, X_aload 0 1),
  (32, X_iload 1 1),
  (33, X_invV 10 Y_R_worth 1 []),
  (36, X_iret)]
set_option maxRecDepth 100000 in
theorem k_R_balance : x_bok m_R_balance b_R_balance := by
  unfold b_R_balance
  refine x_bok.cons (xs_aload_n d_R_balance_0 rfl) ?_
  refine x_bok.cons (xs_iload_n d_R_balance_1 rfl) ?_
  refine x_bok.cons (xs_iconst d_R_balance_2 (by decide)) ?_
  refine x_bok.cons (xs_sipush d_R_balance_3 (by decide)) ?_
  refine x_bok.cons (xs_invS d_R_balance_6 sn_R_in is_R_in ⟨q6_67, q6_68, q1_12⟩ (by decide) (by decide) rfl) ?_
  refine x_bok.cons (xs_if_eq d_R_balance_9 (by decide)) ?_
  refine x_bok.cons (xs_iconst d_R_balance_12 (by decide)) ?_
  refine x_bok.cons (xs_goto d_R_balance_13 (by decide)) ?_
  refine x_bok.cons (xs_iconst d_R_balance_16 (by decide)) ?_
  refine x_bok.cons (xs_put d_R_balance_17 xc10 xw10 xt10 xn10 (by decide) q5_231 (Or.inl rfl) rfl rfl x_fitI) ?_
  refine x_bok.cons (xs_aload_n d_R_balance_20 rfl) ?_
  refine x_bok.cons (xs_get d_R_balance_21 xc10 xw10 (by decide) q5_231 (Or.inl rfl)) ?_
  refine x_bok.cons (xs_if_le d_R_balance_24 (by decide)) ?_
  refine x_bok.cons (xs_iconst d_R_balance_27 (by decide)) ?_
  refine x_bok.cons (xs_goto d_R_balance_28 (by decide)) ?_
  refine x_bok.cons (xs_aload_n d_R_balance_31 rfl) ?_
  refine x_bok.cons (xs_iload_n d_R_balance_32 rfl) ?_
  refine x_bok.cons (xs_invV d_R_balance_33 xc10 sn_R_worth is_R_worth ⟨q6_157, q6_159, (x_sel (x_p3 (List.mem_of_getElem? (i := 9) rfl))), q1_12⟩ (by decide) (by decide) rfl) ?_
  refine x_bok.cons (xs_iret d_R_balance_36 rfl) ?_
  exact x_bok.nil
set_option maxRecDepth 100000 in
theorem mn_R_balance : x_bmn b_R_balance := by
  unfold b_R_balance
  refine x_bmn.cons (xm_aload) ?_
  refine x_bmn.cons (xm_iload) ?_
  refine x_bmn.cons (xm_push) ?_
  refine x_bmn.cons (xm_push) ?_
  refine x_bmn.cons (xm_invS ym_R_in) ?_
  refine x_bmn.cons (xm_if) ?_
  refine x_bmn.cons (xm_push) ?_
  refine x_bmn.cons (xm_goto) ?_
  refine x_bmn.cons (xm_push) ?_
  refine x_bmn.cons (xm_put) ?_
  refine x_bmn.cons (xm_aload) ?_
  refine x_bmn.cons (xm_get) ?_
  refine x_bmn.cons (xm_if) ?_
  refine x_bmn.cons (xm_push) ?_
  refine x_bmn.cons (xm_goto) ?_
  refine x_bmn.cons (xm_aload) ?_
  refine x_bmn.cons (xm_iload) ?_
  refine x_bmn.cons (xm_invV ym_R_worth) ?_
  refine x_bmn.cons (xm_iret) ?_
  exact x_bmn.nil
theorem is_R_balance : x_Is y_R_balance m_R_balance := x_is_code q6_202
def Y_R_balance : XMeth := x_do 2 b_R_balance
theorem sn_R_balance : x_Snd y_R_balance m_R_balance Y_R_balance := x_snd_of (by decide) rfl rfl is_R_balance k_R_balance
theorem ym_R_balance : x_Ymn Y_R_balance := x_ymn_of mn_R_balance
/- CashLinkModel.taken(I)I -/
abbrev c_R_taken : ByteArray := prog_12_method_38_code
def y_R_taken : MethodName := ⟨"CashLinkModel", "taken", "(I)I"⟩
theorem d_R_taken_0 : decode c_R_taken 0 = .ok (.aload_n 0, 1) := by decide +kernel
theorem d_R_taken_1 : decode c_R_taken 1 = .ok (.iload_n 1, 1) := by decide +kernel
theorem d_R_taken_2 : decode c_R_taken 2 = .ok (.iconst 0, 1) := by decide +kernel
theorem d_R_taken_3 : decode c_R_taken 3 = .ok (.sipush 199, 3) := by decide +kernel
theorem d_R_taken_6 : decode c_R_taken 6 = .ok (.invokestatic 175, 3) := by decide +kernel
theorem d_R_taken_9 : decode c_R_taken 9 = .ok (.ifCond .eq 7, 3) := by decide +kernel
theorem d_R_taken_12 : decode c_R_taken 12 = .ok (.iconst 0, 1) := by decide +kernel
theorem d_R_taken_13 : decode c_R_taken 13 = .ok (.goto 4, 3) := by decide +kernel
theorem d_R_taken_16 : decode c_R_taken 16 = .ok (.iconst 1, 1) := by decide +kernel
theorem d_R_taken_17 : decode c_R_taken 17 = .ok (.putfield 96, 3) := by decide +kernel
theorem d_R_taken_20 : decode c_R_taken 20 = .ok (.aload_n 0, 1) := by decide +kernel
theorem d_R_taken_21 : decode c_R_taken 21 = .ok (.getfield 96, 3) := by decide +kernel
theorem d_R_taken_24 : decode c_R_taken 24 = .ok (.ifCond .le 7, 3) := by decide +kernel
theorem d_R_taken_27 : decode c_R_taken 27 = .ok (.iconst 0, 1) := by decide +kernel
theorem d_R_taken_28 : decode c_R_taken 28 = .ok (.goto 9, 3) := by decide +kernel
theorem d_R_taken_31 : decode c_R_taken 31 = .ok (.aload_n 0, 1) := by decide +kernel
theorem d_R_taken_32 : decode c_R_taken 32 = .ok (.getfield 65, 3) := by decide +kernel
theorem d_R_taken_35 : decode c_R_taken 35 = .ok (.iload_n 1, 1) := by decide +kernel
theorem d_R_taken_36 : decode c_R_taken 36 = .ok (.iaload, 1) := by decide +kernel
theorem d_R_taken_37 : decode c_R_taken 37 = .ok (.ireturn, 1) := by decide +kernel
def m_R_taken : XM := ("CashLinkModel", c_R_taken, 2, (some .int), "taken", [], 1, 22)
def b_R_taken : XB := [(0, X_aload 0 1),
  (1, X_iload 1 1),
  (2, X_push (xv_i 0) 1),
  (3, X_push (xv_i 199) 3),
  (6, X_invS Y_R_in 3 []),
  (9, X_if (fun x => x = 0) 16),
  (12, X_push (xv_i 0) 1),
  (13, X_goto 17),
  (16, X_push (xv_i 1) 1),
  (17, X_put x_tI 10 26),
  (20, X_aload 0 1),
  (21, X_get 10 26),
  (24, X_if (fun x => x ≤ 0) 31),
  (27, X_push (xv_i 0) 1),
  (28, X_goto 37),
  (31, X_aload 0 1),
  (32, X_get 10 18),
  (35, X_iload 1 1),
  (36, X_ald 0),
  (37, X_iret)]
set_option maxRecDepth 100000 in
theorem k_R_taken : x_bok m_R_taken b_R_taken := by
  unfold b_R_taken
  refine x_bok.cons (xs_aload_n d_R_taken_0 rfl) ?_
  refine x_bok.cons (xs_iload_n d_R_taken_1 rfl) ?_
  refine x_bok.cons (xs_iconst d_R_taken_2 (by decide)) ?_
  refine x_bok.cons (xs_sipush d_R_taken_3 (by decide)) ?_
  refine x_bok.cons (xs_invS d_R_taken_6 sn_R_in is_R_in ⟨q6_67, q6_68, q1_12⟩ (by decide) (by decide) rfl) ?_
  refine x_bok.cons (xs_if_eq d_R_taken_9 (by decide)) ?_
  refine x_bok.cons (xs_iconst d_R_taken_12 (by decide)) ?_
  refine x_bok.cons (xs_goto d_R_taken_13 (by decide)) ?_
  refine x_bok.cons (xs_iconst d_R_taken_16 (by decide)) ?_
  refine x_bok.cons (xs_put d_R_taken_17 xc10 xw10 xt10 xn10 (by decide) q5_231 (Or.inl rfl) rfl rfl x_fitI) ?_
  refine x_bok.cons (xs_aload_n d_R_taken_20 rfl) ?_
  refine x_bok.cons (xs_get d_R_taken_21 xc10 xw10 (by decide) q5_231 (Or.inl rfl)) ?_
  refine x_bok.cons (xs_if_le d_R_taken_24 (by decide)) ?_
  refine x_bok.cons (xs_iconst d_R_taken_27 (by decide)) ?_
  refine x_bok.cons (xs_goto d_R_taken_28 (by decide)) ?_
  refine x_bok.cons (xs_aload_n d_R_taken_31 rfl) ?_
  refine x_bok.cons (xs_get d_R_taken_32 xc10 xw10 (by decide) q5_223 (Or.inl rfl)) ?_
  refine x_bok.cons (xs_iload_n d_R_taken_35 rfl) ?_
  refine x_bok.cons (xs_iald d_R_taken_36 rfl) ?_
  refine x_bok.cons (xs_iret d_R_taken_37 rfl) ?_
  exact x_bok.nil
set_option maxRecDepth 100000 in
theorem mn_R_taken : x_bmn b_R_taken := by
  unfold b_R_taken
  refine x_bmn.cons (xm_aload) ?_
  refine x_bmn.cons (xm_iload) ?_
  refine x_bmn.cons (xm_push) ?_
  refine x_bmn.cons (xm_push) ?_
  refine x_bmn.cons (xm_invS ym_R_in) ?_
  refine x_bmn.cons (xm_if) ?_
  refine x_bmn.cons (xm_push) ?_
  refine x_bmn.cons (xm_goto) ?_
  refine x_bmn.cons (xm_push) ?_
  refine x_bmn.cons (xm_put) ?_
  refine x_bmn.cons (xm_aload) ?_
  refine x_bmn.cons (xm_get) ?_
  refine x_bmn.cons (xm_if) ?_
  refine x_bmn.cons (xm_push) ?_
  refine x_bmn.cons (xm_goto) ?_
  refine x_bmn.cons (xm_aload) ?_
  refine x_bmn.cons (xm_get) ?_
  refine x_bmn.cons (xm_iload) ?_
  refine x_bmn.cons (xm_ald) ?_
  refine x_bmn.cons (xm_iret) ?_
  exact x_bmn.nil
theorem is_R_taken : x_Is y_R_taken m_R_taken := x_is_code q6_206
def Y_R_taken : XMeth := x_do 2 b_R_taken
theorem sn_R_taken : x_Snd y_R_taken m_R_taken Y_R_taken := x_snd_of (by decide) rfl rfl is_R_taken k_R_taken
theorem ym_R_taken : x_Ymn Y_R_taken := x_ymn_of mn_R_taken
