/- CashLinkModel.ask(II)I -/
abbrev c_R_ask : ByteArray := prog_12_method_27_code
def y_R_ask : MethodName := ⟨"CashLinkModel", "ask", "(II)I"⟩
theorem d_R_ask_0 : decode c_R_ask 0 = .ok (.aload_n 0, 1) := by decide +kernel
theorem d_R_ask_1 : decode c_R_ask 1 = .ok (.iload_n 1, 1) := by decide +kernel
theorem d_R_ask_2 : decode c_R_ask 2 = .ok (.iconst 0, 1) := by decide +kernel
theorem d_R_ask_3 : decode c_R_ask 3 = .ok (.iconst 3, 1) := by decide +kernel
theorem d_R_ask_4 : decode c_R_ask 4 = .ok (.invokestatic 175, 3) := by decide +kernel
theorem d_R_ask_7 : decode c_R_ask 7 = .ok (.ifCond .eq 14, 3) := by decide +kernel
theorem d_R_ask_10 : decode c_R_ask 10 = .ok (.iload_n 2, 1) := by decide +kernel
theorem d_R_ask_11 : decode c_R_ask 11 = .ok (.iconst 5, 1) := by decide +kernel
theorem d_R_ask_12 : decode c_R_ask 12 = .ok (.sipush 1000, 3) := by decide +kernel
theorem d_R_ask_15 : decode c_R_ask 15 = .ok (.invokestatic 175, 3) := by decide +kernel
theorem d_R_ask_18 : decode c_R_ask 18 = .ok (.ifCond .ne 7, 3) := by decide +kernel
theorem d_R_ask_21 : decode c_R_ask 21 = .ok (.iconst 1, 1) := by decide +kernel
theorem d_R_ask_22 : decode c_R_ask 22 = .ok (.goto 51, 3) := by decide +kernel
theorem d_R_ask_25 : decode c_R_ask 25 = .ok (.aload_n 0, 1) := by decide +kernel
theorem d_R_ask_26 : decode c_R_ask 26 = .ok (.getfield 41, 3) := by decide +kernel
theorem d_R_ask_29 : decode c_R_ask 29 = .ok (.iload_n 1, 1) := by decide +kernel
theorem d_R_ask_30 : decode c_R_ask 30 = .ok (.iaload, 1) := by decide +kernel
theorem d_R_ask_31 : decode c_R_ask 31 = .ok (.iconst 3, 1) := by decide +kernel
theorem d_R_ask_32 : decode c_R_ask 32 = .ok (.if_icmp .eq 7, 3) := by decide +kernel
theorem d_R_ask_35 : decode c_R_ask 35 = .ok (.iconst 2, 1) := by decide +kernel
theorem d_R_ask_36 : decode c_R_ask 36 = .ok (.goto 37, 3) := by decide +kernel
theorem d_R_ask_39 : decode c_R_ask 39 = .ok (.aload_n 0, 1) := by decide +kernel
theorem d_R_ask_40 : decode c_R_ask 40 = .ok (.iload_n 1, 1) := by decide +kernel
theorem d_R_ask_41 : decode c_R_ask 41 = .ok (.iload_n 2, 1) := by decide +kernel
theorem d_R_ask_42 : decode c_R_ask 42 = .ok (.invokevirtual 159, 3) := by decide +kernel
theorem d_R_ask_45 : decode c_R_ask 45 = .ok (.ifCond .eq 23, 3) := by decide +kernel
theorem d_R_ask_48 : decode c_R_ask 48 = .ok (.aload_n 0, 1) := by decide +kernel
theorem d_R_ask_49 : decode c_R_ask 49 = .ok (.getfield 28, 3) := by decide +kernel
theorem d_R_ask_52 : decode c_R_ask 52 = .ok (.iload_n 1, 1) := by decide +kernel
theorem d_R_ask_53 : decode c_R_ask 53 = .ok (.iaload, 1) := by decide +kernel
theorem d_R_ask_54 : decode c_R_ask 54 = .ok (.iconst 5, 1) := by decide +kernel
theorem d_R_ask_55 : decode c_R_ask 55 = .ok (.iadd, 1) := by decide +kernel
theorem d_R_ask_56 : decode c_R_ask 56 = .ok (.aload_n 0, 1) := by decide +kernel
theorem d_R_ask_57 : decode c_R_ask 57 = .ok (.iload_n 1, 1) := by decide +kernel
theorem d_R_ask_58 : decode c_R_ask 58 = .ok (.invokevirtual 178, 3) := by decide +kernel
theorem d_R_ask_61 : decode c_R_ask 61 = .ok (.iadd, 1) := by decide +kernel
theorem d_R_ask_62 : decode c_R_ask 62 = .ok (.sipush 1200, 3) := by decide +kernel
theorem d_R_ask_65 : decode c_R_ask 65 = .ok (.if_icmp .le 7, 3) := by decide +kernel
theorem d_R_ask_68 : decode c_R_ask 68 = .ok (.iconst 3, 1) := by decide +kernel
theorem d_R_ask_69 : decode c_R_ask 69 = .ok (.goto 4, 3) := by decide +kernel
theorem d_R_ask_72 : decode c_R_ask 72 = .ok (.iconst 0, 1) := by decide +kernel
theorem d_R_ask_73 : decode c_R_ask 73 = .ok (.putfield 96, 3) := by decide +kernel
theorem d_R_ask_76 : decode c_R_ask 76 = .ok (.aload_n 0, 1) := by decide +kernel
theorem d_R_ask_77 : decode c_R_ask 77 = .ok (.getfield 96, 3) := by decide +kernel
theorem d_R_ask_80 : decode c_R_ask 80 = .ok (.ifCond .le 5, 3) := by decide +kernel
theorem d_R_ask_83 : decode c_R_ask 83 = .ok (.iconst 0, 1) := by decide +kernel
theorem d_R_ask_84 : decode c_R_ask 84 = .ok (.ireturn, 1) := by decide +kernel
theorem d_R_ask_85 : decode c_R_ask 85 = .ok (.aload_n 0, 1) := by decide +kernel
theorem d_R_ask_86 : decode c_R_ask 86 = .ok (.iload_n 1, 1) := by decide +kernel
theorem d_R_ask_87 : decode c_R_ask 87 = .ok (.invokevirtual 146, 3) := by decide +kernel
theorem d_R_ask_90 : decode c_R_ask 90 = .ok (.iconst 1, 1) := by decide +kernel
theorem d_R_ask_91 : decode c_R_ask 91 = .ok (.iadd, 1) := by decide +kernel
theorem d_R_ask_92 : decode c_R_ask 92 = .ok (.istore_n 3, 1) := by decide +kernel
theorem d_R_ask_93 : decode c_R_ask 93 = .ok (.aload_n 0, 1) := by decide +kernel
theorem d_R_ask_94 : decode c_R_ask 94 = .ok (.iload_n 1, 1) := by decide +kernel
theorem d_R_ask_95 : decode c_R_ask 95 = .ok (.iconst 1, 1) := by decide +kernel
theorem d_R_ask_96 : decode c_R_ask 96 = .ok (.iload_n 1, 1) := by decide +kernel
theorem d_R_ask_97 : decode c_R_ask 97 = .ok (.iload_n 3, 1) := by decide +kernel
theorem d_R_ask_98 : decode c_R_ask 98 = .ok (.aload_n 0, 1) := by decide +kernel
theorem d_R_ask_99 : decode c_R_ask 99 = .ok (.getfield 44, 3) := by decide +kernel
theorem d_R_ask_102 : decode c_R_ask 102 = .ok (.iload_n 1, 1) := by decide +kernel
theorem d_R_ask_103 : decode c_R_ask 103 = .ok (.iaload, 1) := by decide +kernel
theorem d_R_ask_104 : decode c_R_ask 104 = .ok (.iload_n 2, 1) := by decide +kernel
theorem d_R_ask_105 : decode c_R_ask 105 = .ok (.iconst 0, 1) := by decide +kernel
theorem d_R_ask_106 : decode c_R_ask 106 = .ok (.invokevirtual 138, 3) := by decide +kernel
theorem d_R_ask_109 : decode c_R_ask 109 = .ok (.goto 12, 3) := by decide +kernel
theorem d_R_ask_112 : decode c_R_ask 112 = .ok (.astore 4, 2) := by decide +kernel
theorem d_R_ask_114 : decode c_R_ask 114 = .ok (.aload_n 0, 1) := by decide +kernel
theorem d_R_ask_115 : decode c_R_ask 115 = .ok (.iconst 4, 1) := by decide +kernel
theorem d_R_ask_116 : decode c_R_ask 116 = .ok (.putfield 96, 3) := by decide +kernel
theorem d_R_ask_119 : decode c_R_ask 119 = .ok (.iconst 0, 1) := by decide +kernel
theorem d_R_ask_120 : decode c_R_ask 120 = .ok (.ireturn, 1) := by decide +kernel
theorem d_R_ask_121 : decode c_R_ask 121 = .ok (.aload_n 0, 1) := by decide +kernel
theorem d_R_ask_122 : decode c_R_ask 122 = .ok (.getfield 41, 3) := by decide +kernel
theorem d_R_ask_125 : decode c_R_ask 125 = .ok (.iload_n 1, 1) := by decide +kernel
theorem d_R_ask_126 : decode c_R_ask 126 = .ok (.iconst 4, 1) := by decide +kernel
theorem d_R_ask_127 : decode c_R_ask 127 = .ok (.iastore, 1) := by decide +kernel
theorem d_R_ask_128 : decode c_R_ask 128 = .ok (.aload_n 0, 1) := by decide +kernel
theorem d_R_ask_129 : decode c_R_ask 129 = .ok (.sipush 200, 3) := by decide +kernel
theorem d_R_ask_132 : decode c_R_ask 132 = .ok (.aload_n 0, 1) := by decide +kernel
theorem d_R_ask_133 : decode c_R_ask 133 = .ok (.getfield 44, 3) := by decide +kernel
theorem d_R_ask_136 : decode c_R_ask 136 = .ok (.iload_n 1, 1) := by decide +kernel
theorem d_R_ask_137 : decode c_R_ask 137 = .ok (.iaload, 1) := by decide +kernel
theorem d_R_ask_138 : decode c_R_ask 138 = .ok (.iload_n 2, 1) := by decide +kernel
theorem d_R_ask_139 : decode c_R_ask 139 = .ok (.iload_n 3, 1) := by decide +kernel
theorem d_R_ask_140 : decode c_R_ask 140 = .ok (.iconst 0, 1) := by decide +kernel
theorem d_R_ask_141 : decode c_R_ask 141 = .ok (.iload_n 1, 1) := by decide +kernel
theorem d_R_ask_142 : decode c_R_ask 142 = .ok (.invokevirtual 142, 3) := by decide +kernel
theorem d_R_ask_145 : decode c_R_ask 145 = .ok (.iload_n 3, 1) := by decide +kernel
theorem d_R_ask_146 : decode c_R_ask 146 = .ok (.ireturn, 1) := by decide +kernel
def m_R_ask : XM := ("CashLinkModel", c_R_ask, 5, (some .int), "ask", [(93, 109, 112, 104)], 7, 119)
theorem h_R_ask_106 : x_hok m_R_ask 106 [(14, 112)] := by
  intro ci h hc
  by_cases e0 : ci = 14
  · subst e0
    have hh : h = 112 := (Option.some.inj (hc.symm.trans (by rfl : x_catch [(14, 112)] 14 = some 112)))
    subst hh
    refine ⟨"java/lang/ArithmeticException", xT14, 0, [], ⟨93, 109, 112, 104⟩, [], rfl, rfl, rfl, rfl, by decide, q6_78, ?_⟩
    intro z hz
    cases hz
  exfalso
  simp only [x_catch] at hc
  rw [if_neg (fun q => e0 q.symm)] at hc
  cases hc
def b_R_ask : XB := [(0, X_aload 0 1),
  (1, X_iload 1 1),
  (2, X_push (xv_i 0) 1),
  (3, X_push (xv_i 3) 1),
  (4, X_invS Y_R_in 3 []),
  (7, X_if (fun x => x = 0) 21),
  (10, X_iload 2 1),
  (11, X_push (xv_i 5) 1),
  (12, X_push (xv_i 1000) 3),
  (15, X_invS Y_R_in 3 []),
  (18, X_if (fun x => ¬ x = 0) 25),
  (21, X_push (xv_i 1) 1),
  (22, X_goto 73),
  (25, X_aload 0 1),
  (26, X_get 10 10),
  (29, X_iload 1 1),
  (30, X_ald 0),
  (31, X_push (xv_i 3) 1),
  (32, X_icmp (fun x y => x = y) 39),
  (35, X_push (xv_i 2) 1),
  (36, X_goto 73),
  (39, X_aload 0 1),
  (40, X_iload 1 1),
  (41, X_iload 2 1),
  (42, X_invV 10 Y_R_mixed 2 []),
  (45, X_if (fun x => x = 0) 68),
  (48, X_aload 0 1),
  (49, X_get 10 6),
  (52, X_iload 1 1),
  (53, X_ald 0),
  (54, X_push (xv_i 5) 1),
  (55, X_bin (fun x y => x + y)),
  (56, X_aload 0 1),
  (57, X_iload 1 1),
  (58, X_invV 10 Y_R_voids 1 []),
  (61, X_bin (fun x y => x + y)),
  (62, X_push (xv_i 1200) 3),
  (65, X_icmp (fun x y => x ≤ y) 72),
  (68, X_push (xv_i 3) 1),
  (69, X_goto 73),
  (72, X_push (xv_i 0) 1),
  (73, X_put x_tI 10 26),
  (76, X_aload 0 1),
  (77, X_get 10 26),
  (80, X_if (fun x => x ≤ 0) 85),
  (83, X_push (xv_i 0) 1),
  (84, X_iret),
  (85, X_aload 0 1),
  (86, X_iload 1 1),
  (87, X_invV 10 Y_R_lastTrace 1 []),
  (90, X_push (xv_i 1) 1),
  (91, X_bin (fun x y => x + y)),
  (92, X_istore 3 1),
  (93, X_aload 0 1),
  (94, X_iload 1 1),
  (95, X_push (xv_i 1) 1),
  (96, X_iload 1 1),
  (97, X_iload 3 1),
  (98, X_aload 0 1),
  (99, X_get 10 11),
  (102, X_iload 1 1),
  (103, X_ald 0),
  (104, X_iload 2 1),
  (105, X_push (xv_i 0) 1),
  (106, X_invV 10 Y_R_record 7 [(14, 112)]),
  (109, X_goto 121),
  (112, X_astore 4 2),
  (114, X_aload 0 1),
  (115, X_push (xv_i 4) 1),
  (116, X_put x_tI 10 26),
  (119, X_push (xv_i 0) 1),
  (120, X_iret),
  (121, X_aload 0 1),
  (122, X_get 10 10),
  (125, X_iload 1 1),
  (126, X_push (xv_i 4) 1),
  (127, X_ast 0 (fun x => x)),
  (128, X_aload 0 1),
  (129, X_push (xv_i 200) 3),
  (132, X_aload 0 1),
  (133, X_get 10 11),
  (136, X_iload 1 1),
  (137, X_ald 0),
  (138, X_iload 2 1),
  (139, X_iload 3 1),
  (140, X_push (xv_i 0) 1),
  (141, X_iload 1 1),
  (142, X_invV 10 Y_R_sent 6 []),
  (145, X_iload 3 1),
  (146, X_iret)]
set_option maxRecDepth 100000 in
theorem k_R_ask : x_bok m_R_ask b_R_ask := by
  unfold b_R_ask
  refine x_bok.cons (xs_aload_n d_R_ask_0 rfl) ?_
  refine x_bok.cons (xs_iload_n d_R_ask_1 rfl) ?_
  refine x_bok.cons (xs_iconst d_R_ask_2 (by decide)) ?_
  refine x_bok.cons (xs_iconst d_R_ask_3 (by decide)) ?_
  refine x_bok.cons (xs_invS d_R_ask_4 sn_R_in is_R_in ⟨q6_67, q6_68, q1_12⟩ (by decide) (by decide) rfl) ?_
  refine x_bok.cons (xs_if_eq d_R_ask_7 (by decide)) ?_
  refine x_bok.cons (xs_iload_n d_R_ask_10 rfl) ?_
  refine x_bok.cons (xs_iconst d_R_ask_11 (by decide)) ?_
  refine x_bok.cons (xs_sipush d_R_ask_12 (by decide)) ?_
  refine x_bok.cons (xs_invS d_R_ask_15 sn_R_in is_R_in ⟨q6_67, q6_68, q1_12⟩ (by decide) (by decide) rfl) ?_
  refine x_bok.cons (xs_if_ne d_R_ask_18 (by decide)) ?_
  refine x_bok.cons (xs_iconst d_R_ask_21 (by decide)) ?_
  refine x_bok.cons (xs_goto d_R_ask_22 (by decide)) ?_
  refine x_bok.cons (xs_aload_n d_R_ask_25 rfl) ?_
  refine x_bok.cons (xs_get d_R_ask_26 xc10 xw10 (by decide) q5_215 (Or.inl rfl)) ?_
  refine x_bok.cons (xs_iload_n d_R_ask_29 rfl) ?_
  refine x_bok.cons (xs_iald d_R_ask_30 rfl) ?_
  refine x_bok.cons (xs_iconst d_R_ask_31 (by decide)) ?_
  refine x_bok.cons (xs_icmp_eq d_R_ask_32 (by decide)) ?_
  refine x_bok.cons (xs_iconst d_R_ask_35 (by decide)) ?_
  refine x_bok.cons (xs_goto d_R_ask_36 (by decide)) ?_
  refine x_bok.cons (xs_aload_n d_R_ask_39 rfl) ?_
  refine x_bok.cons (xs_iload_n d_R_ask_40 rfl) ?_
  refine x_bok.cons (xs_iload_n d_R_ask_41 rfl) ?_
  refine x_bok.cons (xs_invV d_R_ask_42 xc10 sn_R_mixed is_R_mixed ⟨q6_79, q6_81, (x_sel (x_p2 (List.mem_of_getElem? (i := 13) rfl))), q1_12⟩ (by decide) (by decide) rfl) ?_
  refine x_bok.cons (xs_if_eq d_R_ask_45 (by decide)) ?_
  refine x_bok.cons (xs_aload_n d_R_ask_48 rfl) ?_
  refine x_bok.cons (xs_get d_R_ask_49 xc10 xw10 (by decide) q5_211 (Or.inl rfl)) ?_
  refine x_bok.cons (xs_iload_n d_R_ask_52 rfl) ?_
  refine x_bok.cons (xs_iald d_R_ask_53 rfl) ?_
  refine x_bok.cons (xs_iconst d_R_ask_54 (by decide)) ?_
  refine x_bok.cons (xs_iadd d_R_ask_55) ?_
  refine x_bok.cons (xs_aload_n d_R_ask_56 rfl) ?_
  refine x_bok.cons (xs_iload_n d_R_ask_57 rfl) ?_
  refine x_bok.cons (xs_invV d_R_ask_58 xc10 sn_R_voids is_R_voids ⟨q6_84, q6_86, (x_sel (x_p2 (List.mem_of_getElem? (i := 14) rfl))), q1_12⟩ (by decide) (by decide) rfl) ?_
  refine x_bok.cons (xs_iadd d_R_ask_61) ?_
  refine x_bok.cons (xs_sipush d_R_ask_62 (by decide)) ?_
  refine x_bok.cons (xs_icmp_le d_R_ask_65 (by decide)) ?_
  refine x_bok.cons (xs_iconst d_R_ask_68 (by decide)) ?_
  refine x_bok.cons (xs_goto d_R_ask_69 (by decide)) ?_
  refine x_bok.cons (xs_iconst d_R_ask_72 (by decide)) ?_
  refine x_bok.cons (xs_put d_R_ask_73 xc10 xw10 xt10 xn10 (by decide) q5_231 (Or.inl rfl) rfl rfl x_fitI) ?_
  refine x_bok.cons (xs_aload_n d_R_ask_76 rfl) ?_
  refine x_bok.cons (xs_get d_R_ask_77 xc10 xw10 (by decide) q5_231 (Or.inl rfl)) ?_
  refine x_bok.cons (xs_if_le d_R_ask_80 (by decide)) ?_
  refine x_bok.cons (xs_iconst d_R_ask_83 (by decide)) ?_
  refine x_bok.cons (xs_iret d_R_ask_84 rfl) ?_
  refine x_bok.cons (xs_aload_n d_R_ask_85 rfl) ?_
  refine x_bok.cons (xs_iload_n d_R_ask_86 rfl) ?_
  refine x_bok.cons (xs_invV d_R_ask_87 xc10 sn_R_lastTrace is_R_lastTrace ⟨q6_103, q6_105, (x_sel (x_p3 (List.mem_of_getElem? (i := 2) rfl))), q1_12⟩ (by decide) (by decide) rfl) ?_
  refine x_bok.cons (xs_iconst d_R_ask_90 (by decide)) ?_
  refine x_bok.cons (xs_iadd d_R_ask_91) ?_
  refine x_bok.cons (xs_istore_n d_R_ask_92 rfl (by decide)) ?_
  refine x_bok.cons (xs_aload_n d_R_ask_93 rfl) ?_
  refine x_bok.cons (xs_iload_n d_R_ask_94 rfl) ?_
  refine x_bok.cons (xs_iconst d_R_ask_95 (by decide)) ?_
  refine x_bok.cons (xs_iload_n d_R_ask_96 rfl) ?_
  refine x_bok.cons (xs_iload_n d_R_ask_97 rfl) ?_
  refine x_bok.cons (xs_aload_n d_R_ask_98 rfl) ?_
  refine x_bok.cons (xs_get d_R_ask_99 xc10 xw10 (by decide) q5_216 (Or.inl rfl)) ?_
  refine x_bok.cons (xs_iload_n d_R_ask_102 rfl) ?_
  refine x_bok.cons (xs_iald d_R_ask_103 rfl) ?_
  refine x_bok.cons (xs_iload_n d_R_ask_104 rfl) ?_
  refine x_bok.cons (xs_iconst d_R_ask_105 (by decide)) ?_
  refine x_bok.cons (xs_invV d_R_ask_106 xc10 sn_R_record is_R_record ⟨q6_107, q6_109, (x_sel (x_p3 (List.mem_of_getElem? (i := 3) rfl))), q1_12⟩ (by decide) (by decide) h_R_ask_106) ?_
  refine x_bok.cons (xs_goto d_R_ask_109 (by decide)) ?_
  refine x_bok.cons (xs_astore d_R_ask_112 (by decide)) ?_
  refine x_bok.cons (xs_aload_n d_R_ask_114 rfl) ?_
  refine x_bok.cons (xs_iconst d_R_ask_115 (by decide)) ?_
  refine x_bok.cons (xs_put d_R_ask_116 xc10 xw10 xt10 xn10 (by decide) q5_231 (Or.inl rfl) rfl rfl x_fitI) ?_
  refine x_bok.cons (xs_iconst d_R_ask_119 (by decide)) ?_
  refine x_bok.cons (xs_iret d_R_ask_120 rfl) ?_
  refine x_bok.cons (xs_aload_n d_R_ask_121 rfl) ?_
  refine x_bok.cons (xs_get d_R_ask_122 xc10 xw10 (by decide) q5_215 (Or.inl rfl)) ?_
  refine x_bok.cons (xs_iload_n d_R_ask_125 rfl) ?_
  refine x_bok.cons (xs_iconst d_R_ask_126 (by decide)) ?_
  refine x_bok.cons (xs_iast d_R_ask_127 rfl) ?_
  refine x_bok.cons (xs_aload_n d_R_ask_128 rfl) ?_
  refine x_bok.cons (xs_sipush d_R_ask_129 (by decide)) ?_
  refine x_bok.cons (xs_aload_n d_R_ask_132 rfl) ?_
  refine x_bok.cons (xs_get d_R_ask_133 xc10 xw10 (by decide) q5_216 (Or.inl rfl)) ?_
  refine x_bok.cons (xs_iload_n d_R_ask_136 rfl) ?_
  refine x_bok.cons (xs_iald d_R_ask_137 rfl) ?_
  refine x_bok.cons (xs_iload_n d_R_ask_138 rfl) ?_
  refine x_bok.cons (xs_iload_n d_R_ask_139 rfl) ?_
  refine x_bok.cons (xs_iconst d_R_ask_140 (by decide)) ?_
  refine x_bok.cons (xs_iload_n d_R_ask_141 rfl) ?_
  refine x_bok.cons (xs_invV d_R_ask_142 xc10 sn_R_sent is_R_sent ⟨q6_121, q6_123, (x_sel (x_p3 (List.mem_of_getElem? (i := 4) rfl))), q1_12⟩ (by decide) (by decide) rfl) ?_
  refine x_bok.cons (xs_iload_n d_R_ask_145 rfl) ?_
  refine x_bok.cons (xs_iret d_R_ask_146 rfl) ?_
  exact x_bok.nil
set_option maxRecDepth 100000 in
theorem mn_R_ask : x_bmn b_R_ask := by
  unfold b_R_ask
  refine x_bmn.cons (xm_aload) ?_
  refine x_bmn.cons (xm_iload) ?_
  refine x_bmn.cons (xm_push) ?_
  refine x_bmn.cons (xm_push) ?_
  refine x_bmn.cons (xm_invS ym_R_in) ?_
  refine x_bmn.cons (xm_if) ?_
  refine x_bmn.cons (xm_iload) ?_
  refine x_bmn.cons (xm_push) ?_
  refine x_bmn.cons (xm_push) ?_
  refine x_bmn.cons (xm_invS ym_R_in) ?_
  refine x_bmn.cons (xm_if) ?_
  refine x_bmn.cons (xm_push) ?_
  refine x_bmn.cons (xm_goto) ?_
  refine x_bmn.cons (xm_aload) ?_
  refine x_bmn.cons (xm_get) ?_
  refine x_bmn.cons (xm_iload) ?_
  refine x_bmn.cons (xm_ald) ?_
  refine x_bmn.cons (xm_push) ?_
  refine x_bmn.cons (xm_icmp) ?_
  refine x_bmn.cons (xm_push) ?_
  refine x_bmn.cons (xm_goto) ?_
  refine x_bmn.cons (xm_aload) ?_
  refine x_bmn.cons (xm_iload) ?_
  refine x_bmn.cons (xm_iload) ?_
  refine x_bmn.cons (xm_invV ym_R_mixed) ?_
  refine x_bmn.cons (xm_if) ?_
  refine x_bmn.cons (xm_aload) ?_
  refine x_bmn.cons (xm_get) ?_
  refine x_bmn.cons (xm_iload) ?_
  refine x_bmn.cons (xm_ald) ?_
  refine x_bmn.cons (xm_push) ?_
  refine x_bmn.cons (xm_bin) ?_
  refine x_bmn.cons (xm_aload) ?_
  refine x_bmn.cons (xm_iload) ?_
  refine x_bmn.cons (xm_invV ym_R_voids) ?_
  refine x_bmn.cons (xm_bin) ?_
  refine x_bmn.cons (xm_push) ?_
  refine x_bmn.cons (xm_icmp) ?_
  refine x_bmn.cons (xm_push) ?_
  refine x_bmn.cons (xm_goto) ?_
  refine x_bmn.cons (xm_push) ?_
  refine x_bmn.cons (xm_put) ?_
  refine x_bmn.cons (xm_aload) ?_
  refine x_bmn.cons (xm_get) ?_
  refine x_bmn.cons (xm_if) ?_
  refine x_bmn.cons (xm_push) ?_
  refine x_bmn.cons (xm_iret) ?_
  refine x_bmn.cons (xm_aload) ?_
  refine x_bmn.cons (xm_iload) ?_
  refine x_bmn.cons (xm_invV ym_R_lastTrace) ?_
  refine x_bmn.cons (xm_push) ?_
  refine x_bmn.cons (xm_bin) ?_
  refine x_bmn.cons (xm_istore) ?_
  refine x_bmn.cons (xm_aload) ?_
  refine x_bmn.cons (xm_iload) ?_
  refine x_bmn.cons (xm_push) ?_
  refine x_bmn.cons (xm_iload) ?_
  refine x_bmn.cons (xm_iload) ?_
  refine x_bmn.cons (xm_aload) ?_
  refine x_bmn.cons (xm_get) ?_
  refine x_bmn.cons (xm_iload) ?_
  refine x_bmn.cons (xm_ald) ?_
  refine x_bmn.cons (xm_iload) ?_
  refine x_bmn.cons (xm_push) ?_
  refine x_bmn.cons (xm_invV ym_R_record) ?_
  refine x_bmn.cons (xm_goto) ?_
  refine x_bmn.cons (xm_astore) ?_
  refine x_bmn.cons (xm_aload) ?_
  refine x_bmn.cons (xm_push) ?_
  refine x_bmn.cons (xm_put) ?_
  refine x_bmn.cons (xm_push) ?_
  refine x_bmn.cons (xm_iret) ?_
  refine x_bmn.cons (xm_aload) ?_
  refine x_bmn.cons (xm_get) ?_
  refine x_bmn.cons (xm_iload) ?_
  refine x_bmn.cons (xm_push) ?_
  refine x_bmn.cons (xm_ast) ?_
  refine x_bmn.cons (xm_aload) ?_
  refine x_bmn.cons (xm_push) ?_
  refine x_bmn.cons (xm_aload) ?_
  refine x_bmn.cons (xm_get) ?_
  refine x_bmn.cons (xm_iload) ?_
  refine x_bmn.cons (xm_ald) ?_
  refine x_bmn.cons (xm_iload) ?_
  refine x_bmn.cons (xm_iload) ?_
  refine x_bmn.cons (xm_push) ?_
  refine x_bmn.cons (xm_iload) ?_
  refine x_bmn.cons (xm_invV ym_R_sent) ?_
  refine x_bmn.cons (xm_iload) ?_
  refine x_bmn.cons (xm_iret) ?_
  exact x_bmn.nil
theorem is_R_ask : x_Is y_R_ask m_R_ask := x_is_with q6_77
def Y_R_ask : XMeth := x_do 5 b_R_ask
theorem sn_R_ask : x_Snd y_R_ask m_R_ask Y_R_ask := x_snd_of (by decide) rfl rfl is_R_ask k_R_ask
theorem ym_R_ask : x_Ymn Y_R_ask := x_ymn_of mn_R_ask
/- CashLinkModel.amountOf(II)I -/
abbrev c_R_amountOf : ByteArray := prog_12_method_11_code
def y_R_amountOf : MethodName := ⟨"CashLinkModel", "amountOf", "(II)I"⟩
theorem d_R_amountOf_0 : decode c_R_amountOf 0 = .ok (.aload_n 0, 1) := by decide +kernel
theorem d_R_amountOf_1 : decode c_R_amountOf 1 = .ok (.getfield 22, 3) := by decide +kernel
theorem d_R_amountOf_4 : decode c_R_amountOf 4 = .ok (.aload_n 0, 1) := by decide +kernel
theorem d_R_amountOf_5 : decode c_R_amountOf 5 = .ok (.iload_n 1, 1) := by decide +kernel
theorem d_R_amountOf_6 : decode c_R_amountOf 6 = .ok (.iconst 1, 1) := by decide +kernel
theorem d_R_amountOf_7 : decode c_R_amountOf 7 = .ok (.iload_n 1, 1) := by decide +kernel
theorem d_R_amountOf_8 : decode c_R_amountOf 8 = .ok (.iload_n 2, 1) := by decide +kernel
theorem d_R_amountOf_9 : decode c_R_amountOf 9 = .ok (.invokevirtual 107, 3) := by decide +kernel
theorem d_R_amountOf_12 : decode c_R_amountOf 12 = .ok (.iaload, 1) := by decide +kernel
theorem d_R_amountOf_13 : decode c_R_amountOf 13 = .ok (.ireturn, 1) := by decide +kernel
def m_R_amountOf : XM := ("CashLinkModel", c_R_amountOf, 3, (some .int), "amountOf", [], 2, 45)
def b_R_amountOf : XB := [(0, X_aload 0 1),
  (1, X_get 10 4),
  (4, X_aload 0 1),
  (5, X_iload 1 1),
  (6, X_push (xv_i 1) 1),
  (7, X_iload 1 1),
  (8, X_iload 2 1),
  (9, X_invV 10 Y_R_find 4 []),
  (12, X_ald 0),
  (13, X_iret)]
set_option maxRecDepth 100000 in
theorem k_R_amountOf : x_bok m_R_amountOf b_R_amountOf := by
  unfold b_R_amountOf
  refine x_bok.cons (xs_aload_n d_R_amountOf_0 rfl) ?_
  refine x_bok.cons (xs_get d_R_amountOf_1 xc10 xw10 (by decide) q5_209 (Or.inl rfl)) ?_
  refine x_bok.cons (xs_aload_n d_R_amountOf_4 rfl) ?_
  refine x_bok.cons (xs_iload_n d_R_amountOf_5 rfl) ?_
  refine x_bok.cons (xs_iconst d_R_amountOf_6 (by decide)) ?_
  refine x_bok.cons (xs_iload_n d_R_amountOf_7 rfl) ?_
  refine x_bok.cons (xs_iload_n d_R_amountOf_8 rfl) ?_
  refine x_bok.cons (xs_invV d_R_amountOf_9 xc10 sn_R_find is_R_find ⟨q6_99, q6_101, (x_sel (x_p3 (List.mem_of_getElem? (i := 1) rfl))), q1_12⟩ (by decide) (by decide) rfl) ?_
  refine x_bok.cons (xs_iald d_R_amountOf_12 rfl) ?_
  refine x_bok.cons (xs_iret d_R_amountOf_13 rfl) ?_
  exact x_bok.nil
set_option maxRecDepth 100000 in
theorem mn_R_amountOf : x_bmn b_R_amountOf := by
  unfold b_R_amountOf
  refine x_bmn.cons (xm_aload) ?_
  refine x_bmn.cons (xm_get) ?_
  refine x_bmn.cons (xm_aload) ?_
  refine x_bmn.cons (xm_iload) ?_
  refine x_bmn.cons (xm_push) ?_
  refine x_bmn.cons (xm_iload) ?_
  refine x_bmn.cons (xm_iload) ?_
  refine x_bmn.cons (xm_invV ym_R_find) ?_
  refine x_bmn.cons (xm_ald) ?_
  refine x_bmn.cons (xm_iret) ?_
  exact x_bmn.nil
theorem is_R_amountOf : x_Is y_R_amountOf m_R_amountOf := x_is_code q6_136
def Y_R_amountOf : XMeth := x_do 3 b_R_amountOf
theorem sn_R_amountOf : x_Snd y_R_amountOf m_R_amountOf Y_R_amountOf := x_snd_of (by decide) rfl rfl is_R_amountOf k_R_amountOf
theorem ym_R_amountOf : x_Ymn Y_R_amountOf := x_ymn_of mn_R_amountOf
/- CashLinkModel.reverse(III)V -/
abbrev c_R_reverse : ByteArray := prog_12_method_17_code
def y_R_reverse : MethodName := ⟨"CashLinkModel", "reverse", "(III)V"⟩
theorem d_R_reverse_0 : decode c_R_reverse 0 = .ok (.aload_n 0, 1) := by decide +kernel
theorem d_R_reverse_1 : decode c_R_reverse 1 = .ok (.iload_n 1, 1) := by decide +kernel
theorem d_R_reverse_2 : decode c_R_reverse 2 = .ok (.iconst 4, 1) := by decide +kernel
theorem d_R_reverse_3 : decode c_R_reverse 3 = .ok (.iload_n 1, 1) := by decide +kernel
theorem d_R_reverse_4 : decode c_R_reverse 4 = .ok (.iload_n 2, 1) := by decide +kernel
theorem d_R_reverse_5 : decode c_R_reverse 5 = .ok (.iload_n 3, 1) := by decide +kernel
theorem d_R_reverse_6 : decode c_R_reverse 6 = .ok (.iconst 0, 1) := by decide +kernel
theorem d_R_reverse_7 : decode c_R_reverse 7 = .ok (.iconst 0, 1) := by decide +kernel
theorem d_R_reverse_8 : decode c_R_reverse 8 = .ok (.invokevirtual 138, 3) := by decide +kernel
theorem d_R_reverse_11 : decode c_R_reverse 11 = .ok (.aload_n 0, 1) := by decide +kernel
theorem d_R_reverse_12 : decode c_R_reverse 12 = .ok (.sipush 420, 3) := by decide +kernel
theorem d_R_reverse_15 : decode c_R_reverse 15 = .ok (.iconst 0, 1) := by decide +kernel
theorem d_R_reverse_16 : decode c_R_reverse 16 = .ok (.iload_n 3, 1) := by decide +kernel
theorem d_R_reverse_17 : decode c_R_reverse 17 = .ok (.iload_n 2, 1) := by decide +kernel
theorem d_R_reverse_18 : decode c_R_reverse 18 = .ok (.iconst 0, 1) := by decide +kernel
theorem d_R_reverse_19 : decode c_R_reverse 19 = .ok (.iload_n 1, 1) := by decide +kernel
theorem d_R_reverse_20 : decode c_R_reverse 20 = .ok (.invokevirtual 142, 3) := by decide +kernel
theorem d_R_reverse_23 : decode c_R_reverse 23 = .ok (.return_, 1) := by decide +kernel
def m_R_reverse : XM := ("CashLinkModel", c_R_reverse, 4, none, "reverse", [], 7, 119)
def b_R_reverse : XB := [(0, X_aload 0 1),
  (1, X_iload 1 1),
  (2, X_push (xv_i 4) 1),
  (3, X_iload 1 1),
  (4, X_iload 2 1),
  (5, X_iload 3 1),
  (6, X_push (xv_i 0) 1),
  (7, X_push (xv_i 0) 1),
  (8, X_invV 10 Y_R_record 7 []),
  (11, X_aload 0 1),
  (12, X_push (xv_i 420) 3),
  (15, X_push (xv_i 0) 1),
  (16, X_iload 3 1),
  (17, X_iload 2 1),
  (18, X_push (xv_i 0) 1),
  (19, X_iload 1 1),
  (20, X_invV 10 Y_R_sent 6 []),
  (23, X_vret)]
set_option maxRecDepth 100000 in
theorem k_R_reverse : x_bok m_R_reverse b_R_reverse := by
  unfold b_R_reverse
  refine x_bok.cons (xs_aload_n d_R_reverse_0 rfl) ?_
  refine x_bok.cons (xs_iload_n d_R_reverse_1 rfl) ?_
  refine x_bok.cons (xs_iconst d_R_reverse_2 (by decide)) ?_
  refine x_bok.cons (xs_iload_n d_R_reverse_3 rfl) ?_
  refine x_bok.cons (xs_iload_n d_R_reverse_4 rfl) ?_
  refine x_bok.cons (xs_iload_n d_R_reverse_5 rfl) ?_
  refine x_bok.cons (xs_iconst d_R_reverse_6 (by decide)) ?_
  refine x_bok.cons (xs_iconst d_R_reverse_7 (by decide)) ?_
  refine x_bok.cons (xs_invV d_R_reverse_8 xc10 sn_R_record is_R_record ⟨q6_107, q6_109, (x_sel (x_p3 (List.mem_of_getElem? (i := 3) rfl))), q1_12⟩ (by decide) (by decide) rfl) ?_
  refine x_bok.cons (xs_aload_n d_R_reverse_11 rfl) ?_
  refine x_bok.cons (xs_sipush d_R_reverse_12 (by decide)) ?_
  refine x_bok.cons (xs_iconst d_R_reverse_15 (by decide)) ?_
  refine x_bok.cons (xs_iload_n d_R_reverse_16 rfl) ?_
  refine x_bok.cons (xs_iload_n d_R_reverse_17 rfl) ?_
  refine x_bok.cons (xs_iconst d_R_reverse_18 (by decide)) ?_
  refine x_bok.cons (xs_iload_n d_R_reverse_19 rfl) ?_
  refine x_bok.cons (xs_invV d_R_reverse_20 xc10 sn_R_sent is_R_sent ⟨q6_121, q6_123, (x_sel (x_p3 (List.mem_of_getElem? (i := 4) rfl))), q1_12⟩ (by decide) (by decide) rfl) ?_
  refine x_bok.cons (xs_vret d_R_reverse_23 rfl) ?_
  exact x_bok.nil
set_option maxRecDepth 100000 in
theorem mn_R_reverse : x_bmn b_R_reverse := by
  unfold b_R_reverse
  refine x_bmn.cons (xm_aload) ?_
  refine x_bmn.cons (xm_iload) ?_
  refine x_bmn.cons (xm_push) ?_
  refine x_bmn.cons (xm_iload) ?_
  refine x_bmn.cons (xm_iload) ?_
  refine x_bmn.cons (xm_iload) ?_
  refine x_bmn.cons (xm_push) ?_
  refine x_bmn.cons (xm_push) ?_
  refine x_bmn.cons (xm_invV ym_R_record) ?_
  refine x_bmn.cons (xm_aload) ?_
  refine x_bmn.cons (xm_push) ?_
  refine x_bmn.cons (xm_push) ?_
  refine x_bmn.cons (xm_iload) ?_
  refine x_bmn.cons (xm_iload) ?_
  refine x_bmn.cons (xm_push) ?_
  refine x_bmn.cons (xm_iload) ?_
  refine x_bmn.cons (xm_invV ym_R_sent) ?_
  refine x_bmn.cons (xm_vret) ?_
  exact x_bmn.nil
theorem is_R_reverse : x_Is y_R_reverse m_R_reverse := x_is_code q6_140
def Y_R_reverse : XMeth := x_do 4 b_R_reverse
theorem sn_R_reverse : x_Snd y_R_reverse m_R_reverse Y_R_reverse := x_snd_of (by decide) rfl rfl is_R_reverse k_R_reverse
theorem ym_R_reverse : x_Ymn Y_R_reverse := x_ymn_of mn_R_reverse
/- CashLinkModel.late(I)V -/
abbrev c_R_late : ByteArray := prog_12_method_18_code
def y_R_late : MethodName := ⟨"CashLinkModel", "late", "(I)V"⟩
theorem d_R_late_0 : decode c_R_late 0 = .ok (.aload_n 0, 1) := by decide +kernel
theorem d_R_late_1 : decode c_R_late 1 = .ok (.iload_n 1, 1) := by decide +kernel
theorem d_R_late_2 : decode c_R_late 2 = .ok (.invokevirtual 146, 3) := by decide +kernel
theorem d_R_late_5 : decode c_R_late 5 = .ok (.istore_n 2, 1) := by decide +kernel
theorem d_R_late_6 : decode c_R_late 6 = .ok (.aload_n 0, 1) := by decide +kernel
theorem d_R_late_7 : decode c_R_late 7 = .ok (.iload_n 1, 1) := by decide +kernel
theorem d_R_late_8 : decode c_R_late 8 = .ok (.iload_n 2, 1) := by decide +kernel
theorem d_R_late_9 : decode c_R_late 9 = .ok (.aload_n 0, 1) := by decide +kernel
theorem d_R_late_10 : decode c_R_late 10 = .ok (.iload_n 1, 1) := by decide +kernel
theorem d_R_late_11 : decode c_R_late 11 = .ok (.iload_n 2, 1) := by decide +kernel
theorem d_R_late_12 : decode c_R_late 12 = .ok (.invokevirtual 149, 3) := by decide +kernel
theorem d_R_late_15 : decode c_R_late 15 = .ok (.invokevirtual 152, 3) := by decide +kernel
theorem d_R_late_18 : decode c_R_late 18 = .ok (.aload_n 0, 1) := by decide +kernel
theorem d_R_late_19 : decode c_R_late 19 = .ok (.getfield 41, 3) := by decide +kernel
theorem d_R_late_22 : decode c_R_late 22 = .ok (.iload_n 1, 1) := by decide +kernel
theorem d_R_late_23 : decode c_R_late 23 = .ok (.iconst 1, 1) := by decide +kernel
theorem d_R_late_24 : decode c_R_late 24 = .ok (.iastore, 1) := by decide +kernel
theorem d_R_late_25 : decode c_R_late 25 = .ok (.return_, 1) := by decide +kernel
def m_R_late : XM := ("CashLinkModel", c_R_late, 3, none, "late", [], 8, 142)
def b_R_late : XB := [(0, X_aload 0 1),
  (1, X_iload 1 1),
  (2, X_invV 10 Y_R_lastTrace 1 []),
  (5, X_istore 2 1),
  (6, X_aload 0 1),
  (7, X_iload 1 1),
  (8, X_iload 2 1),
  (9, X_aload 0 1),
  (10, X_iload 1 1),
  (11, X_iload 2 1),
  (12, X_invV 10 Y_R_amountOf 2 []),
  (15, X_invV 10 Y_R_reverse 3 []),
  (18, X_aload 0 1),
  (19, X_get 10 10),
  (22, X_iload 1 1),
  (23, X_push (xv_i 1) 1),
  (24, X_ast 0 (fun x => x)),
  (25, X_vret)]
set_option maxRecDepth 100000 in
theorem k_R_late : x_bok m_R_late b_R_late := by
  unfold b_R_late
  refine x_bok.cons (xs_aload_n d_R_late_0 rfl) ?_
  refine x_bok.cons (xs_iload_n d_R_late_1 rfl) ?_
  refine x_bok.cons (xs_invV d_R_late_2 xc10 sn_R_lastTrace is_R_lastTrace ⟨q6_103, q6_105, (x_sel (x_p3 (List.mem_of_getElem? (i := 2) rfl))), q1_12⟩ (by decide) (by decide) rfl) ?_
  refine x_bok.cons (xs_istore_n d_R_late_5 rfl (by decide)) ?_
  refine x_bok.cons (xs_aload_n d_R_late_6 rfl) ?_
  refine x_bok.cons (xs_iload_n d_R_late_7 rfl) ?_
  refine x_bok.cons (xs_iload_n d_R_late_8 rfl) ?_
  refine x_bok.cons (xs_aload_n d_R_late_9 rfl) ?_
  refine x_bok.cons (xs_iload_n d_R_late_10 rfl) ?_
  refine x_bok.cons (xs_iload_n d_R_late_11 rfl) ?_
  refine x_bok.cons (xs_invV d_R_late_12 xc10 sn_R_amountOf is_R_amountOf ⟨q6_133, q6_135, (x_sel (x_p3 (List.mem_of_getElem? (i := 6) rfl))), q1_12⟩ (by decide) (by decide) rfl) ?_
  refine x_bok.cons (xs_invV d_R_late_15 xc10 sn_R_reverse is_R_reverse ⟨q6_137, q6_139, (x_sel (x_p3 (List.mem_of_getElem? (i := 7) rfl))), q1_12⟩ (by decide) (by decide) rfl) ?_
  refine x_bok.cons (xs_aload_n d_R_late_18 rfl) ?_
  refine x_bok.cons (xs_get d_R_late_19 xc10 xw10 (by decide) q5_215 (Or.inl rfl)) ?_
  refine x_bok.cons (xs_iload_n d_R_late_22 rfl) ?_
  refine x_bok.cons (xs_iconst d_R_late_23 (by decide)) ?_
  refine x_bok.cons (xs_iast d_R_late_24 rfl) ?_
  refine x_bok.cons (xs_vret d_R_late_25 rfl) ?_
  exact x_bok.nil
set_option maxRecDepth 100000 in
theorem mn_R_late : x_bmn b_R_late := by
  unfold b_R_late
  refine x_bmn.cons (xm_aload) ?_
  refine x_bmn.cons (xm_iload) ?_
  refine x_bmn.cons (xm_invV ym_R_lastTrace) ?_
  refine x_bmn.cons (xm_istore) ?_
  refine x_bmn.cons (xm_aload) ?_
  refine x_bmn.cons (xm_iload) ?_
  refine x_bmn.cons (xm_iload) ?_
  refine x_bmn.cons (xm_aload) ?_
  refine x_bmn.cons (xm_iload) ?_
  refine x_bmn.cons (xm_iload) ?_
  refine x_bmn.cons (xm_invV ym_R_amountOf) ?_
  refine x_bmn.cons (xm_invV ym_R_reverse) ?_
  refine x_bmn.cons (xm_aload) ?_
  refine x_bmn.cons (xm_get) ?_
  refine x_bmn.cons (xm_iload) ?_
  refine x_bmn.cons (xm_push) ?_
  refine x_bmn.cons (xm_ast) ?_
  refine x_bmn.cons (xm_vret) ?_
  exact x_bmn.nil
theorem is_R_late : x_Is y_R_late m_R_late := x_is_code q6_132
def Y_R_late : XMeth := x_do 3 b_R_late
theorem sn_R_late : x_Snd y_R_late m_R_late Y_R_late := x_snd_of (by decide) rfl rfl is_R_late k_R_late
theorem ym_R_late : x_Ymn Y_R_late := x_ymn_of mn_R_late
/- CashLinkModel.cancel(I)V -/
abbrev c_R_cancel : ByteArray := prog_12_method_28_code
def y_R_cancel : MethodName := ⟨"CashLinkModel", "cancel", "(I)V"⟩
theorem d_R_cancel_0 : decode c_R_cancel 0 = .ok (.aload_n 0, 1) := by decide +kernel
theorem d_R_cancel_1 : decode c_R_cancel 1 = .ok (.iload_n 1, 1) := by decide +kernel
theorem d_R_cancel_2 : decode c_R_cancel 2 = .ok (.iconst 0, 1) := by decide +kernel
theorem d_R_cancel_3 : decode c_R_cancel 3 = .ok (.iconst 3, 1) := by decide +kernel
theorem d_R_cancel_4 : decode c_R_cancel 4 = .ok (.invokestatic 175, 3) := by decide +kernel
theorem d_R_cancel_7 : decode c_R_cancel 7 = .ok (.ifCond .ne 7, 3) := by decide +kernel
theorem d_R_cancel_10 : decode c_R_cancel 10 = .ok (.iconst 1, 1) := by decide +kernel
theorem d_R_cancel_11 : decode c_R_cancel 11 = .ok (.goto 27, 3) := by decide +kernel
theorem d_R_cancel_14 : decode c_R_cancel 14 = .ok (.aload_n 0, 1) := by decide +kernel
theorem d_R_cancel_15 : decode c_R_cancel 15 = .ok (.getfield 41, 3) := by decide +kernel
theorem d_R_cancel_18 : decode c_R_cancel 18 = .ok (.iload_n 1, 1) := by decide +kernel
theorem d_R_cancel_19 : decode c_R_cancel 19 = .ok (.iaload, 1) := by decide +kernel
theorem d_R_cancel_20 : decode c_R_cancel 20 = .ok (.ifCond .eq 13, 3) := by decide +kernel
theorem d_R_cancel_23 : decode c_R_cancel 23 = .ok (.aload_n 0, 1) := by decide +kernel
theorem d_R_cancel_24 : decode c_R_cancel 24 = .ok (.getfield 41, 3) := by decide +kernel
theorem d_R_cancel_27 : decode c_R_cancel 27 = .ok (.iload_n 1, 1) := by decide +kernel
theorem d_R_cancel_28 : decode c_R_cancel 28 = .ok (.iaload, 1) := by decide +kernel
theorem d_R_cancel_29 : decode c_R_cancel 29 = .ok (.iconst 1, 1) := by decide +kernel
theorem d_R_cancel_30 : decode c_R_cancel 30 = .ok (.if_icmp .ne 7, 3) := by decide +kernel
theorem d_R_cancel_33 : decode c_R_cancel 33 = .ok (.iconst 2, 1) := by decide +kernel
theorem d_R_cancel_34 : decode c_R_cancel 34 = .ok (.goto 4, 3) := by decide +kernel
theorem d_R_cancel_37 : decode c_R_cancel 37 = .ok (.iconst 0, 1) := by decide +kernel
theorem d_R_cancel_38 : decode c_R_cancel 38 = .ok (.putfield 96, 3) := by decide +kernel
theorem d_R_cancel_41 : decode c_R_cancel 41 = .ok (.aload_n 0, 1) := by decide +kernel
theorem d_R_cancel_42 : decode c_R_cancel 42 = .ok (.getfield 96, 3) := by decide +kernel
theorem d_R_cancel_45 : decode c_R_cancel 45 = .ok (.ifCond .le 4, 3) := by decide +kernel
theorem d_R_cancel_48 : decode c_R_cancel 48 = .ok (.return_, 1) := by decide +kernel
theorem d_R_cancel_49 : decode c_R_cancel 49 = .ok (.aload_n 0, 1) := by decide +kernel
theorem d_R_cancel_50 : decode c_R_cancel 50 = .ok (.getfield 41, 3) := by decide +kernel
theorem d_R_cancel_53 : decode c_R_cancel 53 = .ok (.iload_n 1, 1) := by decide +kernel
theorem d_R_cancel_54 : decode c_R_cancel 54 = .ok (.iaload, 1) := by decide +kernel
theorem d_R_cancel_55 : decode c_R_cancel 55 = .ok (.iconst 4, 1) := by decide +kernel
theorem d_R_cancel_56 : decode c_R_cancel 56 = .ok (.if_icmp .eq 11, 3) := by decide +kernel
theorem d_R_cancel_59 : decode c_R_cancel 59 = .ok (.aload_n 0, 1) := by decide +kernel
theorem d_R_cancel_60 : decode c_R_cancel 60 = .ok (.getfield 41, 3) := by decide +kernel
theorem d_R_cancel_63 : decode c_R_cancel 63 = .ok (.iload_n 1, 1) := by decide +kernel
theorem d_R_cancel_64 : decode c_R_cancel 64 = .ok (.iconst 1, 1) := by decide +kernel
theorem d_R_cancel_65 : decode c_R_cancel 65 = .ok (.iastore, 1) := by decide +kernel
theorem d_R_cancel_66 : decode c_R_cancel 66 = .ok (.return_, 1) := by decide +kernel
theorem d_R_cancel_67 : decode c_R_cancel 67 = .ok (.aload_n 0, 1) := by decide +kernel
theorem d_R_cancel_68 : decode c_R_cancel 68 = .ok (.iload_n 1, 1) := by decide +kernel
theorem d_R_cancel_69 : decode c_R_cancel 69 = .ok (.invokevirtual 162, 3) := by decide +kernel
theorem d_R_cancel_72 : decode c_R_cancel 72 = .ok (.goto 9, 3) := by decide +kernel
theorem d_R_cancel_75 : decode c_R_cancel 75 = .ok (.astore_n 2, 1) := by decide +kernel
theorem d_R_cancel_76 : decode c_R_cancel 76 = .ok (.aload_n 0, 1) := by decide +kernel
theorem d_R_cancel_77 : decode c_R_cancel 77 = .ok (.iconst 3, 1) := by decide +kernel
theorem d_R_cancel_78 : decode c_R_cancel 78 = .ok (.putfield 96, 3) := by decide +kernel
theorem d_R_cancel_81 : decode c_R_cancel 81 = .ok (.return_, 1) := by decide +kernel
def m_R_cancel : XM := ("CashLinkModel", c_R_cancel, 3, none, "cancel", [(67, 72, 75, 104)], 9, 164)
theorem h_R_cancel_69 : x_hok m_R_cancel 69 [(14, 75)] := by
  intro ci h hc
  by_cases e0 : ci = 14
  · subst e0
    have hh : h = 75 := (Option.some.inj (hc.symm.trans (by rfl : x_catch [(14, 75)] 14 = some 75)))
    subst hh
    refine ⟨"java/lang/ArithmeticException", xT14, 0, [], ⟨67, 72, 75, 104⟩, [], rfl, rfl, rfl, rfl, by decide, q6_78, ?_⟩
    intro z hz
    cases hz
  exfalso
  simp only [x_catch] at hc
  rw [if_neg (fun q => e0 q.symm)] at hc
  cases hc
def b_R_cancel : XB := [(0, X_aload 0 1),
  (1, X_iload 1 1),
  (2, X_push (xv_i 0) 1),
  (3, X_push (xv_i 3) 1),
  (4, X_invS Y_R_in 3 []),
  (7, X_if (fun x => ¬ x = 0) 14),
  (10, X_push (xv_i 1) 1),
  (11, X_goto 38),
  (14, X_aload 0 1),
  (15, X_get 10 10),
  (18, X_iload 1 1),
  (19, X_ald 0),
  (20, X_if (fun x => x = 0) 33),
  (23, X_aload 0 1),
  (24, X_get 10 10),
  (27, X_iload 1 1),
  (28, X_ald 0),
  (29, X_push (xv_i 1) 1),
  (30, X_icmp (fun x y => ¬ x = y) 37),
  (33, X_push (xv_i 2) 1),
  (34, X_goto 38),
  (37, X_push (xv_i 0) 1),
  (38, X_put x_tI 10 26),
  (41, X_aload 0 1),
  (42, X_get 10 26),
  (45, X_if (fun x => x ≤ 0) 49),
  (48, X_vret),
  (49, X_aload 0 1),
  (50, X_get 10 10),
  (53, X_iload 1 1),
  (54, X_ald 0),
  (55, X_push (xv_i 4) 1),
  (56, X_icmp (fun x y => x = y) 67),
  (59, X_aload 0 1),
  (60, X_get 10 10),
  (63, X_iload 1 1),
  (64, X_push (xv_i 1) 1),
  (65, X_ast 0 (fun x => x)),
  (66, X_vret),
  (67, X_aload 0 1),
  (68, X_iload 1 1),
  (69, X_invV 10 Y_R_late 1 [(14, 75)]),
  (72, X_goto 81),
  (75, X_astore 2 1),
  (76, X_aload 0 1),
  (77, X_push (xv_i 3) 1),
  (78, X_put x_tI 10 26),
  (81, X_vret)]
set_option maxRecDepth 100000 in
theorem k_R_cancel : x_bok m_R_cancel b_R_cancel := by
  unfold b_R_cancel
  refine x_bok.cons (xs_aload_n d_R_cancel_0 rfl) ?_
  refine x_bok.cons (xs_iload_n d_R_cancel_1 rfl) ?_
  refine x_bok.cons (xs_iconst d_R_cancel_2 (by decide)) ?_
  refine x_bok.cons (xs_iconst d_R_cancel_3 (by decide)) ?_
  refine x_bok.cons (xs_invS d_R_cancel_4 sn_R_in is_R_in ⟨q6_67, q6_68, q1_12⟩ (by decide) (by decide) rfl) ?_
  refine x_bok.cons (xs_if_ne d_R_cancel_7 (by decide)) ?_
  refine x_bok.cons (xs_iconst d_R_cancel_10 (by decide)) ?_
  refine x_bok.cons (xs_goto d_R_cancel_11 (by decide)) ?_
  refine x_bok.cons (xs_aload_n d_R_cancel_14 rfl) ?_
  refine x_bok.cons (xs_get d_R_cancel_15 xc10 xw10 (by decide) q5_215 (Or.inl rfl)) ?_
  refine x_bok.cons (xs_iload_n d_R_cancel_18 rfl) ?_
  refine x_bok.cons (xs_iald d_R_cancel_19 rfl) ?_
  refine x_bok.cons (xs_if_eq d_R_cancel_20 (by decide)) ?_
  refine x_bok.cons (xs_aload_n d_R_cancel_23 rfl) ?_
  refine x_bok.cons (xs_get d_R_cancel_24 xc10 xw10 (by decide) q5_215 (Or.inl rfl)) ?_
  refine x_bok.cons (xs_iload_n d_R_cancel_27 rfl) ?_
  refine x_bok.cons (xs_iald d_R_cancel_28 rfl) ?_
  refine x_bok.cons (xs_iconst d_R_cancel_29 (by decide)) ?_
  refine x_bok.cons (xs_icmp_ne d_R_cancel_30 (by decide)) ?_
  refine x_bok.cons (xs_iconst d_R_cancel_33 (by decide)) ?_
  refine x_bok.cons (xs_goto d_R_cancel_34 (by decide)) ?_
  refine x_bok.cons (xs_iconst d_R_cancel_37 (by decide)) ?_
  refine x_bok.cons (xs_put d_R_cancel_38 xc10 xw10 xt10 xn10 (by decide) q5_231 (Or.inl rfl) rfl rfl x_fitI) ?_
  refine x_bok.cons (xs_aload_n d_R_cancel_41 rfl) ?_
  refine x_bok.cons (xs_get d_R_cancel_42 xc10 xw10 (by decide) q5_231 (Or.inl rfl)) ?_
  refine x_bok.cons (xs_if_le d_R_cancel_45 (by decide)) ?_
  refine x_bok.cons (xs_vret d_R_cancel_48 rfl) ?_
  refine x_bok.cons (xs_aload_n d_R_cancel_49 rfl) ?_
  refine x_bok.cons (xs_get d_R_cancel_50 xc10 xw10 (by decide) q5_215 (Or.inl rfl)) ?_
  refine x_bok.cons (xs_iload_n d_R_cancel_53 rfl) ?_
  refine x_bok.cons (xs_iald d_R_cancel_54 rfl) ?_
  refine x_bok.cons (xs_iconst d_R_cancel_55 (by decide)) ?_
  refine x_bok.cons (xs_icmp_eq d_R_cancel_56 (by decide)) ?_
  refine x_bok.cons (xs_aload_n d_R_cancel_59 rfl) ?_
  refine x_bok.cons (xs_get d_R_cancel_60 xc10 xw10 (by decide) q5_215 (Or.inl rfl)) ?_
  refine x_bok.cons (xs_iload_n d_R_cancel_63 rfl) ?_
  refine x_bok.cons (xs_iconst d_R_cancel_64 (by decide)) ?_
  refine x_bok.cons (xs_iast d_R_cancel_65 rfl) ?_
  refine x_bok.cons (xs_vret d_R_cancel_66 rfl) ?_
  refine x_bok.cons (xs_aload_n d_R_cancel_67 rfl) ?_
  refine x_bok.cons (xs_iload_n d_R_cancel_68 rfl) ?_
  refine x_bok.cons (xs_invV d_R_cancel_69 xc10 sn_R_late is_R_late ⟨q6_129, q6_131, (x_sel (x_p3 (List.mem_of_getElem? (i := 5) rfl))), q1_12⟩ (by decide) (by decide) h_R_cancel_69) ?_
  refine x_bok.cons (xs_goto d_R_cancel_72 (by decide)) ?_
  refine x_bok.cons (xs_astore_n d_R_cancel_75 rfl (by decide)) ?_
  refine x_bok.cons (xs_aload_n d_R_cancel_76 rfl) ?_
  refine x_bok.cons (xs_iconst d_R_cancel_77 (by decide)) ?_
  refine x_bok.cons (xs_put d_R_cancel_78 xc10 xw10 xt10 xn10 (by decide) q5_231 (Or.inl rfl) rfl rfl x_fitI) ?_
  refine x_bok.cons (xs_vret d_R_cancel_81 rfl) ?_
  exact x_bok.nil
set_option maxRecDepth 100000 in
theorem mn_R_cancel : x_bmn b_R_cancel := by
  unfold b_R_cancel
  refine x_bmn.cons (xm_aload) ?_
  refine x_bmn.cons (xm_iload) ?_
  refine x_bmn.cons (xm_push) ?_
  refine x_bmn.cons (xm_push) ?_
  refine x_bmn.cons (xm_invS ym_R_in) ?_
  refine x_bmn.cons (xm_if) ?_
  refine x_bmn.cons (xm_push) ?_
  refine x_bmn.cons (xm_goto) ?_
  refine x_bmn.cons (xm_aload) ?_
  refine x_bmn.cons (xm_get) ?_
  refine x_bmn.cons (xm_iload) ?_
  refine x_bmn.cons (xm_ald) ?_
  refine x_bmn.cons (xm_if) ?_
  refine x_bmn.cons (xm_aload) ?_
  refine x_bmn.cons (xm_get) ?_
  refine x_bmn.cons (xm_iload) ?_
  refine x_bmn.cons (xm_ald) ?_
  refine x_bmn.cons (xm_push) ?_
  refine x_bmn.cons (xm_icmp) ?_
  refine x_bmn.cons (xm_push) ?_
  refine x_bmn.cons (xm_goto) ?_
  refine x_bmn.cons (xm_push) ?_
  refine x_bmn.cons (xm_put) ?_
  refine x_bmn.cons (xm_aload) ?_
  refine x_bmn.cons (xm_get) ?_
  refine x_bmn.cons (xm_if) ?_
  refine x_bmn.cons (xm_vret) ?_
  refine x_bmn.cons (xm_aload) ?_
  refine x_bmn.cons (xm_get) ?_
  refine x_bmn.cons (xm_iload) ?_
  refine x_bmn.cons (xm_ald) ?_
  refine x_bmn.cons (xm_push) ?_
  refine x_bmn.cons (xm_icmp) ?_
  refine x_bmn.cons (xm_aload) ?_
  refine x_bmn.cons (xm_get) ?_
  refine x_bmn.cons (xm_iload) ?_
  refine x_bmn.cons (xm_push) ?_
  refine x_bmn.cons (xm_ast) ?_
  refine x_bmn.cons (xm_vret) ?_
  refine x_bmn.cons (xm_aload) ?_
  refine x_bmn.cons (xm_iload) ?_
  refine x_bmn.cons (xm_invV ym_R_late) ?_
  refine x_bmn.cons (xm_goto) ?_
  refine x_bmn.cons (xm_astore) ?_
  refine x_bmn.cons (xm_aload) ?_
  refine x_bmn.cons (xm_push) ?_
  refine x_bmn.cons (xm_put) ?_
  refine x_bmn.cons (xm_vret) ?_
  exact x_bmn.nil
theorem is_R_cancel : x_Is y_R_cancel m_R_cancel := x_is_with q6_128
def Y_R_cancel : XMeth := x_do 3 b_R_cancel
theorem sn_R_cancel : x_Snd y_R_cancel m_R_cancel Y_R_cancel := x_snd_of (by decide) rfl rfl is_R_cancel k_R_cancel
theorem ym_R_cancel : x_Ymn Y_R_cancel := x_ymn_of mn_R_cancel
/- CashLinkModel.again(I)I -/
abbrev c_R_again : ByteArray := prog_12_method_29_code
def y_R_again : MethodName := ⟨"CashLinkModel", "again", "(I)I"⟩
theorem d_R_again_0 : decode c_R_again 0 = .ok (.aload_n 0, 1) := by decide +kernel
theorem d_R_again_1 : decode c_R_again 1 = .ok (.iload_n 1, 1) := by decide +kernel
theorem d_R_again_2 : decode c_R_again 2 = .ok (.iconst 0, 1) := by decide +kernel
theorem d_R_again_3 : decode c_R_again 3 = .ok (.iconst 3, 1) := by decide +kernel
theorem d_R_again_4 : decode c_R_again 4 = .ok (.invokestatic 175, 3) := by decide +kernel
theorem d_R_again_7 : decode c_R_again 7 = .ok (.ifCond .ne 7, 3) := by decide +kernel
theorem d_R_again_10 : decode c_R_again 10 = .ok (.iconst 1, 1) := by decide +kernel
theorem d_R_again_11 : decode c_R_again 11 = .ok (.goto 17, 3) := by decide +kernel
theorem d_R_again_14 : decode c_R_again 14 = .ok (.aload_n 0, 1) := by decide +kernel
theorem d_R_again_15 : decode c_R_again 15 = .ok (.getfield 41, 3) := by decide +kernel
theorem d_R_again_18 : decode c_R_again 18 = .ok (.iload_n 1, 1) := by decide +kernel
theorem d_R_again_19 : decode c_R_again 19 = .ok (.iaload, 1) := by decide +kernel
theorem d_R_again_20 : decode c_R_again 20 = .ok (.ifCond .ne 7, 3) := by decide +kernel
theorem d_R_again_23 : decode c_R_again 23 = .ok (.iconst 2, 1) := by decide +kernel
theorem d_R_again_24 : decode c_R_again 24 = .ok (.goto 4, 3) := by decide +kernel
theorem d_R_again_27 : decode c_R_again 27 = .ok (.iconst 0, 1) := by decide +kernel
theorem d_R_again_28 : decode c_R_again 28 = .ok (.putfield 96, 3) := by decide +kernel
theorem d_R_again_31 : decode c_R_again 31 = .ok (.aload_n 0, 1) := by decide +kernel
theorem d_R_again_32 : decode c_R_again 32 = .ok (.getfield 96, 3) := by decide +kernel
theorem d_R_again_35 : decode c_R_again 35 = .ok (.ifCond .le 5, 3) := by decide +kernel
theorem d_R_again_38 : decode c_R_again 38 = .ok (.iconst 0, 1) := by decide +kernel
theorem d_R_again_39 : decode c_R_again 39 = .ok (.ireturn, 1) := by decide +kernel
theorem d_R_again_40 : decode c_R_again 40 = .ok (.iconst 0, 1) := by decide +kernel
theorem d_R_again_41 : decode c_R_again 41 = .ok (.istore_n 2, 1) := by decide +kernel
theorem d_R_again_42 : decode c_R_again 42 = .ok (.iload_n 1, 1) := by decide +kernel
theorem d_R_again_43 : decode c_R_again 43 = .ok (.invokestatic 100, 3) := by decide +kernel
theorem d_R_again_46 : decode c_R_again 46 = .ok (.istore_n 3, 1) := by decide +kernel
theorem d_R_again_47 : decode c_R_again 47 = .ok (.iload_n 3, 1) := by decide +kernel
theorem d_R_again_48 : decode c_R_again 48 = .ok (.iload_n 1, 1) := by decide +kernel
theorem d_R_again_49 : decode c_R_again 49 = .ok (.invokestatic 100, 3) := by decide +kernel
theorem d_R_again_52 : decode c_R_again 52 = .ok (.aload_n 0, 1) := by decide +kernel
theorem d_R_again_53 : decode c_R_again 53 = .ok (.getfield 28, 3) := by decide +kernel
theorem d_R_again_56 : decode c_R_again 56 = .ok (.iload_n 1, 1) := by decide +kernel
theorem d_R_again_57 : decode c_R_again 57 = .ok (.iaload, 1) := by decide +kernel
theorem d_R_again_58 : decode c_R_again 58 = .ok (.iadd, 1) := by decide +kernel
theorem d_R_again_59 : decode c_R_again 59 = .ok (.if_icmp .ge 46, 3) := by decide +kernel
theorem d_R_again_62 : decode c_R_again 62 = .ok (.aload_n 0, 1) := by decide +kernel
theorem d_R_again_63 : decode c_R_again 63 = .ok (.iload_n 1, 1) := by decide +kernel
theorem d_R_again_64 : decode c_R_again 64 = .ok (.iload_n 3, 1) := by decide +kernel
theorem d_R_again_65 : decode c_R_again 65 = .ok (.invokevirtual 115, 3) := by decide +kernel
theorem d_R_again_68 : decode c_R_again 68 = .ok (.ifCond .ne 6, 3) := by decide +kernel
theorem d_R_again_71 : decode c_R_again 71 = .ok (.goto 28, 3) := by decide +kernel
theorem d_R_again_74 : decode c_R_again 74 = .ok (.aload_n 0, 1) := by decide +kernel
theorem d_R_again_75 : decode c_R_again 75 = .ok (.sipush 420, 3) := by decide +kernel
theorem d_R_again_78 : decode c_R_again 78 = .ok (.iconst 0, 1) := by decide +kernel
theorem d_R_again_79 : decode c_R_again 79 = .ok (.aload_n 0, 1) := by decide +kernel
theorem d_R_again_80 : decode c_R_again 80 = .ok (.getfield 19, 3) := by decide +kernel
theorem d_R_again_83 : decode c_R_again 83 = .ok (.iload_n 3, 1) := by decide +kernel
theorem d_R_again_84 : decode c_R_again 84 = .ok (.iaload, 1) := by decide +kernel
theorem d_R_again_85 : decode c_R_again 85 = .ok (.aload_n 0, 1) := by decide +kernel
theorem d_R_again_86 : decode c_R_again 86 = .ok (.getfield 16, 3) := by decide +kernel
theorem d_R_again_89 : decode c_R_again 89 = .ok (.iload_n 3, 1) := by decide +kernel
theorem d_R_again_90 : decode c_R_again 90 = .ok (.iaload, 1) := by decide +kernel
theorem d_R_again_91 : decode c_R_again 91 = .ok (.iconst 0, 1) := by decide +kernel
theorem d_R_again_92 : decode c_R_again 92 = .ok (.iload_n 1, 1) := by decide +kernel
theorem d_R_again_93 : decode c_R_again 93 = .ok (.invokevirtual 142, 3) := by decide +kernel
theorem d_R_again_96 : decode c_R_again 96 = .ok (.iinc 2 1, 3) := by decide +kernel
theorem d_R_again_99 : decode c_R_again 99 = .ok (.iinc 3 1, 3) := by decide +kernel
theorem d_R_again_102 : decode c_R_again 102 = .ok (.goto (-55), 3) := by decide +kernel
theorem d_R_again_105 : decode c_R_again 105 = .ok (.iload_n 2, 1) := by decide +kernel
theorem d_R_again_106 : decode c_R_again 106 = .ok (.ireturn, 1) := by decide +kernel
def m_R_again : XM := ("CashLinkModel", c_R_again, 4, (some .int), "again", [], 4, 90)
def b_R_again : XB := [(0, X_aload 0 1),
  (1, X_iload 1 1),
  (2, X_push (xv_i 0) 1),
  (3, X_push (xv_i 3) 1),
  (4, X_invS Y_R_in 3 []),
  (7, X_if (fun x => ¬ x = 0) 14),
  (10, X_push (xv_i 1) 1),
  (11, X_goto 28),
  (14, X_aload 0 1),
  (15, X_get 10 10),
  (18, X_iload 1 1),
  (19, X_ald 0),
  (20, X_if (fun x => ¬ x = 0) 27),
  (23, X_push (xv_i 2) 1),
  (24, X_goto 28),
  (27, X_push (xv_i 0) 1),
  (28, X_put x_tI 10 26),
  (31, X_aload 0 1),
  (32, X_get 10 26),
  (35, X_if (fun x => x ≤ 0) 40),
  (38, X_push (xv_i 0) 1),
  (39, X_iret),
  (40, X_push (xv_i 0) 1),
  (41, X_istore 2 1),
  (42, X_iload 1 1),
  (43, X_invS Y_R_at 1 []),
  (46, X_istore 3 1),
  (47, X_iload 3 1),
  (48, X_iload 1 1),
  (49, X_invS Y_R_at 1 []),
  (52, X_aload 0 1),
  (53, X_get 10 6),
  (56, X_iload 1 1),
  (57, X_ald 0),
  (58, X_bin (fun x y => x + y)),
  (59, X_icmp (fun x y => y ≤ x) 105),
  (62, X_aload 0 1),
  (63, X_iload 1 1),
  (64, X_iload 3 1),
  (65, X_invV 10 Y_R_isVoid 2 []),
  (68, X_if (fun x => ¬ x = 0) 74),
  (71, X_goto 99),
  (74, X_aload 0 1),
  (75, X_push (xv_i 420) 3),
  (78, X_push (xv_i 0) 1),
  (79, X_aload 0 1),
  (80, X_get 10 3),
  (83, X_iload 3 1),
  (84, X_ald 0),
  (85, X_aload 0 1),
  (86, X_get 10 2),
  (89, X_iload 3 1),
  (90, X_ald 0),
  (91, X_push (xv_i 0) 1),
  (92, X_iload 1 1),
  (93, X_invV 10 Y_R_sent 6 []),
  (96, X_iinc 2 1),
  (99, X_iinc 3 1),
  (102, X_goto 47),
  (105, X_iload 2 1),
  (106, X_iret)]
set_option maxRecDepth 100000 in
theorem k_R_again : x_bok m_R_again b_R_again := by
  unfold b_R_again
  refine x_bok.cons (xs_aload_n d_R_again_0 rfl) ?_
  refine x_bok.cons (xs_iload_n d_R_again_1 rfl) ?_
  refine x_bok.cons (xs_iconst d_R_again_2 (by decide)) ?_
  refine x_bok.cons (xs_iconst d_R_again_3 (by decide)) ?_
  refine x_bok.cons (xs_invS d_R_again_4 sn_R_in is_R_in ⟨q6_67, q6_68, q1_12⟩ (by decide) (by decide) rfl) ?_
  refine x_bok.cons (xs_if_ne d_R_again_7 (by decide)) ?_
  refine x_bok.cons (xs_iconst d_R_again_10 (by decide)) ?_
  refine x_bok.cons (xs_goto d_R_again_11 (by decide)) ?_
  refine x_bok.cons (xs_aload_n d_R_again_14 rfl) ?_
  refine x_bok.cons (xs_get d_R_again_15 xc10 xw10 (by decide) q5_215 (Or.inl rfl)) ?_
  refine x_bok.cons (xs_iload_n d_R_again_18 rfl) ?_
  refine x_bok.cons (xs_iald d_R_again_19 rfl) ?_
  refine x_bok.cons (xs_if_ne d_R_again_20 (by decide)) ?_
  refine x_bok.cons (xs_iconst d_R_again_23 (by decide)) ?_
  refine x_bok.cons (xs_goto d_R_again_24 (by decide)) ?_
  refine x_bok.cons (xs_iconst d_R_again_27 (by decide)) ?_
  refine x_bok.cons (xs_put d_R_again_28 xc10 xw10 xt10 xn10 (by decide) q5_231 (Or.inl rfl) rfl rfl x_fitI) ?_
  refine x_bok.cons (xs_aload_n d_R_again_31 rfl) ?_
  refine x_bok.cons (xs_get d_R_again_32 xc10 xw10 (by decide) q5_231 (Or.inl rfl)) ?_
  refine x_bok.cons (xs_if_le d_R_again_35 (by decide)) ?_
  refine x_bok.cons (xs_iconst d_R_again_38 (by decide)) ?_
  refine x_bok.cons (xs_iret d_R_again_39 rfl) ?_
  refine x_bok.cons (xs_iconst d_R_again_40 (by decide)) ?_
  refine x_bok.cons (xs_istore_n d_R_again_41 rfl (by decide)) ?_
  refine x_bok.cons (xs_iload_n d_R_again_42 rfl) ?_
  refine x_bok.cons (xs_invS d_R_again_43 sn_R_at is_R_at ⟨q6_88, q6_89, q1_12⟩ (by decide) (by decide) rfl) ?_
  refine x_bok.cons (xs_istore_n d_R_again_46 rfl (by decide)) ?_
  refine x_bok.cons (xs_iload_n d_R_again_47 rfl) ?_
  refine x_bok.cons (xs_iload_n d_R_again_48 rfl) ?_
  refine x_bok.cons (xs_invS d_R_again_49 sn_R_at is_R_at ⟨q6_88, q6_89, q1_12⟩ (by decide) (by decide) rfl) ?_
  refine x_bok.cons (xs_aload_n d_R_again_52 rfl) ?_
  refine x_bok.cons (xs_get d_R_again_53 xc10 xw10 (by decide) q5_211 (Or.inl rfl)) ?_
  refine x_bok.cons (xs_iload_n d_R_again_56 rfl) ?_
  refine x_bok.cons (xs_iald d_R_again_57 rfl) ?_
  refine x_bok.cons (xs_iadd d_R_again_58) ?_
  refine x_bok.cons (xs_icmp_ge d_R_again_59 (by decide)) ?_
  refine x_bok.cons (xs_aload_n d_R_again_62 rfl) ?_
  refine x_bok.cons (xs_iload_n d_R_again_63 rfl) ?_
  refine x_bok.cons (xs_iload_n d_R_again_64 rfl) ?_
  refine x_bok.cons (xs_invV d_R_again_65 xc10 sn_R_isVoid is_R_isVoid ⟨q6_91, q6_93, (x_sel (x_p2 (List.mem_of_getElem? (i := 15) rfl))), q1_12⟩ (by decide) (by decide) rfl) ?_
  refine x_bok.cons (xs_if_ne d_R_again_68 (by decide)) ?_
  refine x_bok.cons (xs_goto d_R_again_71 (by decide)) ?_
  refine x_bok.cons (xs_aload_n d_R_again_74 rfl) ?_
  refine x_bok.cons (xs_sipush d_R_again_75 (by decide)) ?_
  refine x_bok.cons (xs_iconst d_R_again_78 (by decide)) ?_
  refine x_bok.cons (xs_aload_n d_R_again_79 rfl) ?_
  refine x_bok.cons (xs_get d_R_again_80 xc10 xw10 (by decide) q5_208 (Or.inl rfl)) ?_
  refine x_bok.cons (xs_iload_n d_R_again_83 rfl) ?_
  refine x_bok.cons (xs_iald d_R_again_84 rfl) ?_
  refine x_bok.cons (xs_aload_n d_R_again_85 rfl) ?_
  refine x_bok.cons (xs_get d_R_again_86 xc10 xw10 (by decide) q5_207 (Or.inl rfl)) ?_
  refine x_bok.cons (xs_iload_n d_R_again_89 rfl) ?_
  refine x_bok.cons (xs_iald d_R_again_90 rfl) ?_
  refine x_bok.cons (xs_iconst d_R_again_91 (by decide)) ?_
  refine x_bok.cons (xs_iload_n d_R_again_92 rfl) ?_
  refine x_bok.cons (xs_invV d_R_again_93 xc10 sn_R_sent is_R_sent ⟨q6_121, q6_123, (x_sel (x_p3 (List.mem_of_getElem? (i := 4) rfl))), q1_12⟩ (by decide) (by decide) rfl) ?_
  refine x_bok.cons (xs_iinc d_R_again_96 (by decide) (by decide)) ?_
  refine x_bok.cons (xs_iinc d_R_again_99 (by decide) (by decide)) ?_
  refine x_bok.cons (xs_goto d_R_again_102 (by decide)) ?_
  refine x_bok.cons (xs_iload_n d_R_again_105 rfl) ?_
  refine x_bok.cons (xs_iret d_R_again_106 rfl) ?_
  exact x_bok.nil
set_option maxRecDepth 100000 in
theorem mn_R_again : x_bmn b_R_again := by
  unfold b_R_again
  refine x_bmn.cons (xm_aload) ?_
  refine x_bmn.cons (xm_iload) ?_
  refine x_bmn.cons (xm_push) ?_
  refine x_bmn.cons (xm_push) ?_
  refine x_bmn.cons (xm_invS ym_R_in) ?_
  refine x_bmn.cons (xm_if) ?_
  refine x_bmn.cons (xm_push) ?_
  refine x_bmn.cons (xm_goto) ?_
  refine x_bmn.cons (xm_aload) ?_
  refine x_bmn.cons (xm_get) ?_
  refine x_bmn.cons (xm_iload) ?_
  refine x_bmn.cons (xm_ald) ?_
  refine x_bmn.cons (xm_if) ?_
  refine x_bmn.cons (xm_push) ?_
  refine x_bmn.cons (xm_goto) ?_
  refine x_bmn.cons (xm_push) ?_
  refine x_bmn.cons (xm_put) ?_
  refine x_bmn.cons (xm_aload) ?_
  refine x_bmn.cons (xm_get) ?_
  refine x_bmn.cons (xm_if) ?_
  refine x_bmn.cons (xm_push) ?_
  refine x_bmn.cons (xm_iret) ?_
  refine x_bmn.cons (xm_push) ?_
  refine x_bmn.cons (xm_istore) ?_
  refine x_bmn.cons (xm_iload) ?_
  refine x_bmn.cons (xm_invS ym_R_at) ?_
  refine x_bmn.cons (xm_istore) ?_
  refine x_bmn.cons (xm_iload) ?_
  refine x_bmn.cons (xm_iload) ?_
  refine x_bmn.cons (xm_invS ym_R_at) ?_
  refine x_bmn.cons (xm_aload) ?_
  refine x_bmn.cons (xm_get) ?_
  refine x_bmn.cons (xm_iload) ?_
  refine x_bmn.cons (xm_ald) ?_
  refine x_bmn.cons (xm_bin) ?_
  refine x_bmn.cons (xm_icmp) ?_
  refine x_bmn.cons (xm_aload) ?_
  refine x_bmn.cons (xm_iload) ?_
  refine x_bmn.cons (xm_iload) ?_
  refine x_bmn.cons (xm_invV ym_R_isVoid) ?_
  refine x_bmn.cons (xm_if) ?_
  refine x_bmn.cons (xm_goto) ?_
  refine x_bmn.cons (xm_aload) ?_
  refine x_bmn.cons (xm_push) ?_
  refine x_bmn.cons (xm_push) ?_
  refine x_bmn.cons (xm_aload) ?_
  refine x_bmn.cons (xm_get) ?_
  refine x_bmn.cons (xm_iload) ?_
  refine x_bmn.cons (xm_ald) ?_
  refine x_bmn.cons (xm_aload) ?_
  refine x_bmn.cons (xm_get) ?_
  refine x_bmn.cons (xm_iload) ?_
  refine x_bmn.cons (xm_ald) ?_
  refine x_bmn.cons (xm_push) ?_
  refine x_bmn.cons (xm_iload) ?_
  refine x_bmn.cons (xm_invV ym_R_sent) ?_
  refine x_bmn.cons (xm_iinc) ?_
  refine x_bmn.cons (xm_iinc) ?_
  refine x_bmn.cons (xm_goto) ?_
  refine x_bmn.cons (xm_iload) ?_
  refine x_bmn.cons (xm_iret) ?_
  exact x_bmn.nil
theorem is_R_again : x_Is y_R_again m_R_again := x_is_code q6_144
def Y_R_again : XMeth := x_do 4 b_R_again
theorem sn_R_again : x_Snd y_R_again m_R_again Y_R_again := x_snd_of (by decide) rfl rfl is_R_again k_R_again
theorem ym_R_again : x_Ymn Y_R_again := x_ymn_of mn_R_again
