/- CashLinkModel.mix(III)I -/
abbrev c_R_mix : ByteArray := prog_12_method_40_code
def y_R_mix : MethodName := ⟨"CashLinkModel", "mix", "(III)I"⟩
theorem d_R_mix_0 : decode c_R_mix 0 = .ok (.aload_n 0, 1) := by decide +kernel
theorem d_R_mix_1 : decode c_R_mix 1 = .ok (.iload_n 1, 1) := by decide +kernel
theorem d_R_mix_2 : decode c_R_mix 2 = .ok (.iconst 0, 1) := by decide +kernel
theorem d_R_mix_3 : decode c_R_mix 3 = .ok (.iconst 3, 1) := by decide +kernel
theorem d_R_mix_4 : decode c_R_mix 4 = .ok (.invokestatic 175, 3) := by decide +kernel
theorem d_R_mix_7 : decode c_R_mix 7 = .ok (.ifCond .eq 27, 3) := by decide +kernel
theorem d_R_mix_10 : decode c_R_mix 10 = .ok (.iload_n 3, 1) := by decide +kernel
theorem d_R_mix_11 : decode c_R_mix 11 = .ok (.iconst 0, 1) := by decide +kernel
theorem d_R_mix_12 : decode c_R_mix 12 = .ok (.iconst 3, 1) := by decide +kernel
theorem d_R_mix_13 : decode c_R_mix 13 = .ok (.invokestatic 175, 3) := by decide +kernel
theorem d_R_mix_16 : decode c_R_mix 16 = .ok (.ifCond .eq 18, 3) := by decide +kernel
theorem d_R_mix_19 : decode c_R_mix 19 = .ok (.iload_n 2, 1) := by decide +kernel
theorem d_R_mix_20 : decode c_R_mix 20 = .ok (.iconst 0, 1) := by decide +kernel
theorem d_R_mix_21 : decode c_R_mix 21 = .ok (.sipush 1000, 3) := by decide +kernel
theorem d_R_mix_24 : decode c_R_mix 24 = .ok (.invokestatic 175, 3) := by decide +kernel
theorem d_R_mix_27 : decode c_R_mix 27 = .ok (.ifCond .eq 7, 3) := by decide +kernel
theorem d_R_mix_30 : decode c_R_mix 30 = .ok (.iconst 0, 1) := by decide +kernel
theorem d_R_mix_31 : decode c_R_mix 31 = .ok (.goto 4, 3) := by decide +kernel
theorem d_R_mix_34 : decode c_R_mix 34 = .ok (.iconst 1, 1) := by decide +kernel
theorem d_R_mix_35 : decode c_R_mix 35 = .ok (.putfield 96, 3) := by decide +kernel
theorem d_R_mix_38 : decode c_R_mix 38 = .ok (.aload_n 0, 1) := by decide +kernel
theorem d_R_mix_39 : decode c_R_mix 39 = .ok (.getfield 96, 3) := by decide +kernel
theorem d_R_mix_42 : decode c_R_mix 42 = .ok (.ifCond .le 5, 3) := by decide +kernel
theorem d_R_mix_45 : decode c_R_mix 45 = .ok (.iconst 0, 1) := by decide +kernel
theorem d_R_mix_46 : decode c_R_mix 46 = .ok (.ireturn, 1) := by decide +kernel
theorem d_R_mix_47 : decode c_R_mix 47 = .ok (.aload_n 0, 1) := by decide +kernel
theorem d_R_mix_48 : decode c_R_mix 48 = .ok (.iload_n 1, 1) := by decide +kernel
theorem d_R_mix_49 : decode c_R_mix 49 = .ok (.iload_n 2, 1) := by decide +kernel
theorem d_R_mix_50 : decode c_R_mix 50 = .ok (.invokevirtual 159, 3) := by decide +kernel
theorem d_R_mix_53 : decode c_R_mix 53 = .ok (.ifCond .eq 12, 3) := by decide +kernel
theorem d_R_mix_56 : decode c_R_mix 56 = .ok (.aload_n 0, 1) := by decide +kernel
theorem d_R_mix_57 : decode c_R_mix 57 = .ok (.getfield 86, 3) := by decide +kernel
theorem d_R_mix_60 : decode c_R_mix 60 = .ok (.iload_n 3, 1) := by decide +kernel
theorem d_R_mix_61 : decode c_R_mix 61 = .ok (.iaload, 1) := by decide +kernel
theorem d_R_mix_62 : decode c_R_mix 62 = .ok (.goto 4, 3) := by decide +kernel
theorem d_R_mix_65 : decode c_R_mix 65 = .ok (.iconst (-1), 1) := by decide +kernel
theorem d_R_mix_66 : decode c_R_mix 66 = .ok (.ireturn, 1) := by decide +kernel
def m_R_mix : XM := ("CashLinkModel", c_R_mix, 4, (some .int), "mix", [], 2, 50)
def b_R_mix : XB := [(0, X_aload 0 1),
  (1, X_iload 1 1),
  (2, X_push (xv_i 0) 1),
  (3, X_push (xv_i 3) 1),
  (4, X_invS Y_R_in 3 []),
  (7, X_if (fun x => x = 0) 34),
  (10, X_iload 3 1),
  (11, X_push (xv_i 0) 1),
  (12, X_push (xv_i 3) 1),
  (13, X_invS Y_R_in 3 []),
  (16, X_if (fun x => x = 0) 34),
  (19, X_iload 2 1),
  (20, X_push (xv_i 0) 1),
  (21, X_push (xv_i 1000) 3),
  (24, X_invS Y_R_in 3 []),
  (27, X_if (fun x => x = 0) 34),
  (30, X_push (xv_i 0) 1),
  (31, X_goto 35),
  (34, X_push (xv_i 1) 1),
  (35, X_put x_tI 10 26),
  (38, X_aload 0 1),
  (39, X_get 10 26),
  (42, X_if (fun x => x ≤ 0) 47),
  (45, X_push (xv_i 0) 1),
  (46, X_iret),
  (47, X_aload 0 1),
  (48, X_iload 1 1),
  (49, X_iload 2 1),
  (50, X_invV 10 Y_R_mixed 2 []),
  (53, X_if (fun x => x = 0) 65),
  (56, X_aload 0 1),
  (57, X_get 10 27),
  (60, X_iload 3 1),
  (61, X_ald 0),
  (62, X_goto 66),
  (65, X_push (xv_i (-1)) 1),
  (66, X_iret)]
set_option maxRecDepth 100000 in
theorem k_R_mix : x_bok m_R_mix b_R_mix := by
  unfold b_R_mix
  refine x_bok.cons (xs_aload_n d_R_mix_0 rfl) ?_
  refine x_bok.cons (xs_iload_n d_R_mix_1 rfl) ?_
  refine x_bok.cons (xs_iconst d_R_mix_2 (by decide)) ?_
  refine x_bok.cons (xs_iconst d_R_mix_3 (by decide)) ?_
  refine x_bok.cons (xs_invS d_R_mix_4 sn_R_in is_R_in ⟨q6_67, q6_68, q1_12⟩ (by decide) (by decide) rfl) ?_
  refine x_bok.cons (xs_if_eq d_R_mix_7 (by decide)) ?_
  refine x_bok.cons (xs_iload_n d_R_mix_10 rfl) ?_
  refine x_bok.cons (xs_iconst d_R_mix_11 (by decide)) ?_
  refine x_bok.cons (xs_iconst d_R_mix_12 (by decide)) ?_
  refine x_bok.cons (xs_invS d_R_mix_13 sn_R_in is_R_in ⟨q6_67, q6_68, q1_12⟩ (by decide) (by decide) rfl) ?_
  refine x_bok.cons (xs_if_eq d_R_mix_16 (by decide)) ?_
  refine x_bok.cons (xs_iload_n d_R_mix_19 rfl) ?_
  refine x_bok.cons (xs_iconst d_R_mix_20 (by decide)) ?_
  refine x_bok.cons (xs_sipush d_R_mix_21 (by decide)) ?_
  refine x_bok.cons (xs_invS d_R_mix_24 sn_R_in is_R_in ⟨q6_67, q6_68, q1_12⟩ (by decide) (by decide) rfl) ?_
  refine x_bok.cons (xs_if_eq d_R_mix_27 (by decide)) ?_
  refine x_bok.cons (xs_iconst d_R_mix_30 (by decide)) ?_
  refine x_bok.cons (xs_goto d_R_mix_31 (by decide)) ?_
  refine x_bok.cons (xs_iconst d_R_mix_34 (by decide)) ?_
  refine x_bok.cons (xs_put d_R_mix_35 xc10 xw10 xt10 xn10 (by decide) q5_231 (Or.inl rfl) rfl rfl x_fitI) ?_
  refine x_bok.cons (xs_aload_n d_R_mix_38 rfl) ?_
  refine x_bok.cons (xs_get d_R_mix_39 xc10 xw10 (by decide) q5_231 (Or.inl rfl)) ?_
  refine x_bok.cons (xs_if_le d_R_mix_42 (by decide)) ?_
  refine x_bok.cons (xs_iconst d_R_mix_45 (by decide)) ?_
  refine x_bok.cons (xs_iret d_R_mix_46 rfl) ?_
  refine x_bok.cons (xs_aload_n d_R_mix_47 rfl) ?_
  refine x_bok.cons (xs_iload_n d_R_mix_48 rfl) ?_
  refine x_bok.cons (xs_iload_n d_R_mix_49 rfl) ?_
  refine x_bok.cons (xs_invV d_R_mix_50 xc10 sn_R_mixed is_R_mixed ⟨q6_79, q6_81, (x_sel (x_p2 (List.mem_of_getElem? (i := 13) rfl))), q1_12⟩ (by decide) (by decide) rfl) ?_
  refine x_bok.cons (xs_if_eq d_R_mix_53 (by decide)) ?_
  refine x_bok.cons (xs_aload_n d_R_mix_56 rfl) ?_
  refine x_bok.cons (xs_get d_R_mix_57 xc10 xw10 (by decide) q5_232 (Or.inl rfl)) ?_
  refine x_bok.cons (xs_iload_n d_R_mix_60 rfl) ?_
  refine x_bok.cons (xs_iald d_R_mix_61 rfl) ?_
  refine x_bok.cons (xs_goto d_R_mix_62 (by decide)) ?_
  refine x_bok.cons (xs_iconst d_R_mix_65 (by decide)) ?_
  refine x_bok.cons (xs_iret d_R_mix_66 rfl) ?_
  exact x_bok.nil
set_option maxRecDepth 100000 in
theorem mn_R_mix : x_bmn b_R_mix := by
  unfold b_R_mix
  refine x_bmn.cons (xm_aload) ?_
  refine x_bmn.cons (xm_iload) ?_
  refine x_bmn.cons (xm_push) ?_
  refine x_bmn.cons (xm_push) ?_
  refine x_bmn.cons (xm_invS ym_R_in) ?_
  refine x_bmn.cons (xm_if) ?_
  refine x_bmn.cons (xm_iload) ?_
  refine x_bmn.cons (xm_push) ?_
  refine x_bmn.cons (xm_push) ?_
  refine x_bmn.cons (xm_invS ym_R_in) ?_
  refine x_bmn.cons (xm_if) ?_
  refine x_bmn.cons (xm_iload) ?_
  refine x_bmn.cons (xm_push) ?_
  refine x_bmn.cons (xm_push) ?_
  refine x_bmn.cons (xm_invS ym_R_in) ?_
  refine x_bmn.cons (xm_if) ?_
  refine x_bmn.cons (xm_push) ?_
  refine x_bmn.cons (xm_goto) ?_
  refine x_bmn.cons (xm_push) ?_
  refine x_bmn.cons (xm_put) ?_
  refine x_bmn.cons (xm_aload) ?_
  refine x_bmn.cons (xm_get) ?_
  refine x_bmn.cons (xm_if) ?_
  refine x_bmn.cons (xm_push) ?_
  refine x_bmn.cons (xm_iret) ?_
  refine x_bmn.cons (xm_aload) ?_
  refine x_bmn.cons (xm_iload) ?_
  refine x_bmn.cons (xm_iload) ?_
  refine x_bmn.cons (xm_invV ym_R_mixed) ?_
  refine x_bmn.cons (xm_if) ?_
  refine x_bmn.cons (xm_aload) ?_
  refine x_bmn.cons (xm_get) ?_
  refine x_bmn.cons (xm_iload) ?_
  refine x_bmn.cons (xm_ald) ?_
  refine x_bmn.cons (xm_goto) ?_
  refine x_bmn.cons (xm_push) ?_
  refine x_bmn.cons (xm_iret) ?_
  exact x_bmn.nil
theorem is_R_mix : x_Is y_R_mix m_R_mix := x_is_code q6_226
def Y_R_mix : XMeth := x_do 4 b_R_mix
theorem sn_R_mix : x_Snd y_R_mix m_R_mix Y_R_mix := x_snd_of (by decide) rfl rfl is_R_mix k_R_mix
theorem ym_R_mix : x_Ymn Y_R_mix := x_ymn_of mn_R_mix
/- CashLinkModel.count(I)I -/
abbrev c_R_count : ByteArray := prog_12_method_41_code
def y_R_count : MethodName := ⟨"CashLinkModel", "count", "(I)I"⟩
theorem d_R_count_0 : decode c_R_count 0 = .ok (.aload_n 0, 1) := by decide +kernel
theorem d_R_count_1 : decode c_R_count 1 = .ok (.iload_n 1, 1) := by decide +kernel
theorem d_R_count_2 : decode c_R_count 2 = .ok (.iconst 0, 1) := by decide +kernel
theorem d_R_count_3 : decode c_R_count 3 = .ok (.bipush 6, 2) := by decide +kernel
theorem d_R_count_5 : decode c_R_count 5 = .ok (.invokestatic 175, 3) := by decide +kernel
theorem d_R_count_8 : decode c_R_count 8 = .ok (.ifCond .eq 7, 3) := by decide +kernel
theorem d_R_count_11 : decode c_R_count 11 = .ok (.iconst 0, 1) := by decide +kernel
theorem d_R_count_12 : decode c_R_count 12 = .ok (.goto 4, 3) := by decide +kernel
theorem d_R_count_15 : decode c_R_count 15 = .ok (.iconst 1, 1) := by decide +kernel
theorem d_R_count_16 : decode c_R_count 16 = .ok (.putfield 96, 3) := by decide +kernel
theorem d_R_count_19 : decode c_R_count 19 = .ok (.aload_n 0, 1) := by decide +kernel
theorem d_R_count_20 : decode c_R_count 20 = .ok (.getfield 96, 3) := by decide +kernel
theorem d_R_count_23 : decode c_R_count 23 = .ok (.ifCond .le 5, 3) := by decide +kernel
theorem d_R_count_26 : decode c_R_count 26 = .ok (.iconst 0, 1) := by decide +kernel
theorem d_R_count_27 : decode c_R_count 27 = .ok (.ireturn, 1) := by decide +kernel
theorem d_R_count_28 : decode c_R_count 28 = .ok (.iload_n 1, 1) := by decide +kernel
theorem d_R_count_29 : decode c_R_count 29 = .ok (.ifCond .ne 8, 3) := by decide +kernel
theorem d_R_count_32 : decode c_R_count 32 = .ok (.aload_n 0, 1) := by decide +kernel
theorem d_R_count_33 : decode c_R_count 33 = .ok (.getfield 119, 3) := by decide +kernel
theorem d_R_count_36 : decode c_R_count 36 = .ok (.ireturn, 1) := by decide +kernel
theorem d_R_count_37 : decode c_R_count 37 = .ok (.iload_n 1, 1) := by decide +kernel
theorem d_R_count_38 : decode c_R_count 38 = .ok (.iconst 1, 1) := by decide +kernel
theorem d_R_count_39 : decode c_R_count 39 = .ok (.if_icmp .ne 16, 3) := by decide +kernel
theorem d_R_count_42 : decode c_R_count 42 = .ok (.aload_n 0, 1) := by decide +kernel
theorem d_R_count_43 : decode c_R_count 43 = .ok (.getfield 37, 3) := by decide +kernel
theorem d_R_count_46 : decode c_R_count 46 = .ok (.ifCond .eq 7, 3) := by decide +kernel
theorem d_R_count_49 : decode c_R_count 49 = .ok (.iconst 1, 1) := by decide +kernel
theorem d_R_count_50 : decode c_R_count 50 = .ok (.goto 4, 3) := by decide +kernel
theorem d_R_count_53 : decode c_R_count 53 = .ok (.iconst 0, 1) := by decide +kernel
theorem d_R_count_54 : decode c_R_count 54 = .ok (.ireturn, 1) := by decide +kernel
theorem d_R_count_55 : decode c_R_count 55 = .ok (.iload_n 1, 1) := by decide +kernel
theorem d_R_count_56 : decode c_R_count 56 = .ok (.iconst 2, 1) := by decide +kernel
theorem d_R_count_57 : decode c_R_count 57 = .ok (.if_icmp .ne 10, 3) := by decide +kernel
theorem d_R_count_60 : decode c_R_count 60 = .ok (.aload_n 0, 1) := by decide +kernel
theorem d_R_count_61 : decode c_R_count 61 = .ok (.getfield 28, 3) := by decide +kernel
theorem d_R_count_64 : decode c_R_count 64 = .ok (.iconst 4, 1) := by decide +kernel
theorem d_R_count_65 : decode c_R_count 65 = .ok (.iaload, 1) := by decide +kernel
theorem d_R_count_66 : decode c_R_count 66 = .ok (.ireturn, 1) := by decide +kernel
theorem d_R_count_67 : decode c_R_count 67 = .ok (.iconst 0, 1) := by decide +kernel
theorem d_R_count_68 : decode c_R_count 68 = .ok (.istore_n 2, 1) := by decide +kernel
theorem d_R_count_69 : decode c_R_count 69 = .ok (.iload_n 1, 1) := by decide +kernel
theorem d_R_count_70 : decode c_R_count 70 = .ok (.bipush 6, 2) := by decide +kernel
theorem d_R_count_72 : decode c_R_count 72 = .ok (.if_icmp .ne 45, 3) := by decide +kernel
theorem d_R_count_75 : decode c_R_count 75 = .ok (.iconst 0, 1) := by decide +kernel
theorem d_R_count_76 : decode c_R_count 76 = .ok (.istore_n 3, 1) := by decide +kernel
theorem d_R_count_77 : decode c_R_count 77 = .ok (.iload_n 3, 1) := by decide +kernel
theorem d_R_count_78 : decode c_R_count 78 = .ok (.aload_n 0, 1) := by decide +kernel
theorem d_R_count_79 : decode c_R_count 79 = .ok (.getfield 119, 3) := by decide +kernel
theorem d_R_count_82 : decode c_R_count 82 = .ok (.if_icmp .ge 33, 3) := by decide +kernel
theorem d_R_count_85 : decode c_R_count 85 = .ok (.aload_n 0, 1) := by decide +kernel
theorem d_R_count_86 : decode c_R_count 86 = .ok (.getfield 68, 3) := by decide +kernel
theorem d_R_count_89 : decode c_R_count 89 = .ok (.iload_n 3, 1) := by decide +kernel
theorem d_R_count_90 : decode c_R_count 90 = .ok (.iaload, 1) := by decide +kernel
theorem d_R_count_91 : decode c_R_count 91 = .ok (.sipush 510, 3) := by decide +kernel
theorem d_R_count_94 : decode c_R_count 94 = .ok (.if_icmp .ne 15, 3) := by decide +kernel
theorem d_R_count_97 : decode c_R_count 97 = .ok (.aload_n 0, 1) := by decide +kernel
theorem d_R_count_98 : decode c_R_count 98 = .ok (.getfield 80, 3) := by decide +kernel
theorem d_R_count_101 : decode c_R_count 101 = .ok (.iload_n 3, 1) := by decide +kernel
theorem d_R_count_102 : decode c_R_count 102 = .ok (.iaload, 1) := by decide +kernel
theorem d_R_count_103 : decode c_R_count 103 = .ok (.ifCond .eq 6, 3) := by decide +kernel
theorem d_R_count_106 : decode c_R_count 106 = .ok (.iinc 2 1, 3) := by decide +kernel
theorem d_R_count_109 : decode c_R_count 109 = .ok (.iinc 3 1, 3) := by decide +kernel
theorem d_R_count_112 : decode c_R_count 112 = .ok (.goto (-35), 3) := by decide +kernel
theorem d_R_count_115 : decode c_R_count 115 = .ok (.iload_n 2, 1) := by decide +kernel
theorem d_R_count_116 : decode c_R_count 116 = .ok (.ireturn, 1) := by decide +kernel
theorem d_R_count_117 : decode c_R_count 117 = .ok (.iload_n 1, 1) := by decide +kernel
theorem d_R_count_118 : decode c_R_count 118 = .ok (.iconst 5, 1) := by decide +kernel
theorem d_R_count_119 : decode c_R_count 119 = .ok (.if_icmp .ne 45, 3) := by decide +kernel
theorem d_R_count_122 : decode c_R_count 122 = .ok (.iconst 0, 1) := by decide +kernel
theorem d_R_count_123 : decode c_R_count 123 = .ok (.istore_n 3, 1) := by decide +kernel
theorem d_R_count_124 : decode c_R_count 124 = .ok (.iload_n 3, 1) := by decide +kernel
theorem d_R_count_125 : decode c_R_count 125 = .ok (.iconst 4, 1) := by decide +kernel
theorem d_R_count_126 : decode c_R_count 126 = .ok (.if_icmp .ge 38, 3) := by decide +kernel
theorem d_R_count_129 : decode c_R_count 129 = .ok (.aload_n 0, 1) := by decide +kernel
theorem d_R_count_130 : decode c_R_count 130 = .ok (.getfield 41, 3) := by decide +kernel
theorem d_R_count_133 : decode c_R_count 133 = .ok (.iload_n 3, 1) := by decide +kernel
theorem d_R_count_134 : decode c_R_count 134 = .ok (.iaload, 1) := by decide +kernel
theorem d_R_count_135 : decode c_R_count 135 = .ok (.ifCond .eq 21, 3) := by decide +kernel
theorem d_R_count_138 : decode c_R_count 138 = .ok (.aload_n 0, 1) := by decide +kernel
theorem d_R_count_139 : decode c_R_count 139 = .ok (.getfield 41, 3) := by decide +kernel
theorem d_R_count_142 : decode c_R_count 142 = .ok (.iload_n 3, 1) := by decide +kernel
theorem d_R_count_143 : decode c_R_count 143 = .ok (.iaload, 1) := by decide +kernel
theorem d_R_count_144 : decode c_R_count 144 = .ok (.iconst 4, 1) := by decide +kernel
theorem d_R_count_145 : decode c_R_count 145 = .ok (.if_icmp .eq 11, 3) := by decide +kernel
theorem d_R_count_148 : decode c_R_count 148 = .ok (.aload_n 0, 1) := by decide +kernel
theorem d_R_count_149 : decode c_R_count 149 = .ok (.iload_n 3, 1) := by decide +kernel
theorem d_R_count_150 : decode c_R_count 150 = .ok (.invokevirtual 178, 3) := by decide +kernel
theorem d_R_count_153 : decode c_R_count 153 = .ok (.ifCond .le 5, 3) := by decide +kernel
theorem d_R_count_156 : decode c_R_count 156 = .ok (.iconst 0, 1) := by decide +kernel
theorem d_R_count_157 : decode c_R_count 157 = .ok (.ireturn, 1) := by decide +kernel
theorem d_R_count_158 : decode c_R_count 158 = .ok (.iinc 3 1, 3) := by decide +kernel
theorem d_R_count_161 : decode c_R_count 161 = .ok (.goto (-37), 3) := by decide +kernel
theorem d_R_count_164 : decode c_R_count 164 = .ok (.iconst 0, 1) := by decide +kernel
theorem d_R_count_165 : decode c_R_count 165 = .ok (.istore_n 3, 1) := by decide +kernel
theorem d_R_count_166 : decode c_R_count 166 = .ok (.iload_n 3, 1) := by decide +kernel
theorem d_R_count_167 : decode c_R_count 167 = .ok (.sipush 200, 3) := by decide +kernel
theorem d_R_count_170 : decode c_R_count 170 = .ok (.if_icmp .ge 70, 3) := by decide +kernel
theorem d_R_count_173 : decode c_R_count 173 = .ok (.aload_n 0, 1) := by decide +kernel
theorem d_R_count_174 : decode c_R_count 174 = .ok (.iload_n 3, 1) := by decide +kernel
theorem d_R_count_175 : decode c_R_count 175 = .ok (.invokevirtual 172, 3) := by decide +kernel
theorem d_R_count_178 : decode c_R_count 178 = .ok (.istore 4, 2) := by decide +kernel
theorem d_R_count_180 : decode c_R_count 180 = .ok (.iload_n 1, 1) := by decide +kernel
theorem d_R_count_181 : decode c_R_count 181 = .ok (.iconst 3, 1) := by decide +kernel
theorem d_R_count_182 : decode c_R_count 182 = .ok (.if_icmp .ne 11, 3) := by decide +kernel
theorem d_R_count_185 : decode c_R_count 185 = .ok (.iload_n 2, 1) := by decide +kernel
theorem d_R_count_186 : decode c_R_count 186 = .ok (.iload 4, 2) := by decide +kernel
theorem d_R_count_188 : decode c_R_count 188 = .ok (.iadd, 1) := by decide +kernel
theorem d_R_count_189 : decode c_R_count 189 = .ok (.istore_n 2, 1) := by decide +kernel
theorem d_R_count_190 : decode c_R_count 190 = .ok (.goto 44, 3) := by decide +kernel
theorem d_R_count_193 : decode c_R_count 193 = .ok (.iload_n 1, 1) := by decide +kernel
theorem d_R_count_194 : decode c_R_count 194 = .ok (.iconst 4, 1) := by decide +kernel
theorem d_R_count_195 : decode c_R_count 195 = .ok (.if_icmp .ne 21, 3) := by decide +kernel
theorem d_R_count_198 : decode c_R_count 198 = .ok (.sipush 500, 3) := by decide +kernel
theorem d_R_count_201 : decode c_R_count 201 = .ok (.iload 4, 2) := by decide +kernel
theorem d_R_count_203 : decode c_R_count 203 = .ok (.aload_n 0, 1) := by decide +kernel
theorem d_R_count_204 : decode c_R_count 204 = .ok (.getfield 65, 3) := by decide +kernel
theorem d_R_count_207 : decode c_R_count 207 = .ok (.iload_n 3, 1) := by decide +kernel
theorem d_R_count_208 : decode c_R_count 208 = .ok (.iaload, 1) := by decide +kernel
theorem d_R_count_209 : decode c_R_count 209 = .ok (.iadd, 1) := by decide +kernel
theorem d_R_count_210 : decode c_R_count 210 = .ok (.if_icmp .ge 24, 3) := by decide +kernel
theorem d_R_count_213 : decode c_R_count 213 = .ok (.goto 18, 3) := by decide +kernel
theorem d_R_count_216 : decode c_R_count 216 = .ok (.sipush 500, 3) := by decide +kernel
theorem d_R_count_219 : decode c_R_count 219 = .ok (.iload 4, 2) := by decide +kernel
theorem d_R_count_221 : decode c_R_count 221 = .ok (.aload_n 0, 1) := by decide +kernel
theorem d_R_count_222 : decode c_R_count 222 = .ok (.getfield 65, 3) := by decide +kernel
theorem d_R_count_225 : decode c_R_count 225 = .ok (.iload_n 3, 1) := by decide +kernel
theorem d_R_count_226 : decode c_R_count 226 = .ok (.iaload, 1) := by decide +kernel
theorem d_R_count_227 : decode c_R_count 227 = .ok (.iadd, 1) := by decide +kernel
theorem d_R_count_228 : decode c_R_count 228 = .ok (.if_icmp .eq 6, 3) := by decide +kernel
theorem d_R_count_231 : decode c_R_count 231 = .ok (.iinc 2 1, 3) := by decide +kernel
theorem d_R_count_234 : decode c_R_count 234 = .ok (.iinc 3 1, 3) := by decide +kernel
theorem d_R_count_237 : decode c_R_count 237 = .ok (.goto (-71), 3) := by decide +kernel
theorem d_R_count_240 : decode c_R_count 240 = .ok (.iload_n 2, 1) := by decide +kernel
theorem d_R_count_241 : decode c_R_count 241 = .ok (.ireturn, 1) := by decide +kernel
def m_R_count : XM := ("CashLinkModel", c_R_count, 5, (some .int), "count", [], 5, 113)
def b_R_count : XB := [(0, X_aload 0 1),
  (1, X_iload 1 1),
  (2, X_push (xv_i 0) 1),
  (3, X_push (xv_i 6) 2),
  (5, X_invS Y_R_in 3 []),
  (8, X_if (fun x => x = 0) 15),
  (11, X_push (xv_i 0) 1),
  (12, X_goto 16),
  (15, X_push (xv_i 1) 1),
  (16, X_put x_tI 10 26),
  (19, X_aload 0 1),
  (20, X_get 10 26),
  (23, X_if (fun x => x ≤ 0) 28),
  (26, X_push (xv_i 0) 1),
  (27, X_iret),
  (28, X_iload 1 1),
  (29, X_if (fun x => ¬ x = 0) 37),
  (32, X_aload 0 1),
  (33, X_get 10 25),
  (36, X_iret),
  (37, X_iload 1 1),
  (38, X_push (xv_i 1) 1),
  (39, X_icmp (fun x y => ¬ x = y) 55),
  (42, X_aload 0 1),
  (43, X_get 10 9),
  (46, X_if (fun x => x = 0) 53),
  (49, X_push (xv_i 1) 1),
  (50, X_goto 54),
  (53, X_push (xv_i 0) 1),
  (54, X_iret),
  (55, X_iload 1 1),
  (56, X_push (xv_i 2) 1),
  (57, X_icmp (fun x y => ¬ x = y) 67),
  (60, X_aload 0 1),
  (61, X_get 10 6),
  (64, X_push (xv_i 4) 1),
  (65, X_ald 0),
  (66, X_iret),
  (67, X_push (xv_i 0) 1),
  (68, X_istore 2 1),
  (69, X_iload 1 1),
  (70, X_push (xv_i 6) 2),
  (72, X_icmp (fun x y => ¬ x = y) 117),
  (75, X_push (xv_i 0) 1),
  (76, X_istore 3 1),
  (77, X_iload 3 1),
  (78, X_aload 0 1),
  (79, X_get 10 25),
  (82, X_icmp (fun x y => y ≤ x) 115),
  (85, X_aload 0 1),
  (86, X_get 10 19),
  (89, X_iload 3 1),
  (90, X_ald 0),
  (91, X_push (xv_i 510) 3),
  (94, X_icmp (fun x y => ¬ x = y) 109),
  (97, X_aload 0 1),
  (98, X_get 10 23),
  (101, X_iload 3 1),
  (102, X_ald 0),
  (103, X_if (fun x => x = 0) 109),
  (106, X_iinc 2 1),
  (109, X_iinc 3 1),
  (112, X_goto 77),
  (115, X_iload 2 1),
  (116, X_iret),
  (117, X_iload 1 1),
  (118, X_push (xv_i 5) 1),
  (119, X_icmp (fun x y => ¬ x = y) 164),
  (122, X_push (xv_i 0) 1),
  (123, X_istore 3 1),
  (124, X_iload 3 1),
  (125, X_push (xv_i 4) 1),
  (126, X_icmp (fun x y => y ≤ x) 164),
  (129, X_aload 0 1),
  (130, X_get 10 10),
  (133, X_iload 3 1),
  (134, X_ald 0),
  (135, X_if (fun x => x = 0) 156),
  (138, X_aload 0 1),
  (139, X_get 10 10),
  (142, X_iload 3 1),
  (143, X_ald 0),
  (144, X_push (xv_i 4) 1),
  (145, X_icmp (fun x y => x = y) 156),
  (148, X_aload 0 1),
  (149, X_iload 3 1),
  (150, X_invV 10 Y_R_voids 1 []),
  (153, X_if (fun x => x ≤ 0) 158),
  (156, X_push (xv_i 0) 1),
  (157, X_iret),
  (158, X_iinc 3 1),
  (161, X_goto 124),
  (164, X_push (xv_i 0) 1),
  (165, X_istore 3 1),
  (166, X_iload 3 1),
  (167, X_push (xv_i 200) 3),
  (170, X_icmp (fun x y => y ≤ x) 240),
  (173, X_aload 0 1),
  (174, X_iload 3 1),
  (175, X_invV 10 Y_R_worth 1 []),
  (178, X_istore 4 2),
  (180, X_iload 1 1),
  (181, X_push (xv_i 3) 1),
  (182, X_icmp (fun x y => ¬ x = y) 193),
  (185, X_iload 2 1),
  (186, X_iload 4 2),
  (188, X_bin (fun x y => x + y)),
  (189, X_istore 2 1),
  (190, X_goto 234),
  (193, X_iload 1 1),
  (194, X_push (xv_i 4) 1),
  (195, X_icmp (fun x y => ¬ x = y) 216),
  (198, X_push (xv_i 500) 3),
  (201, X_iload 4 2),
  (203, X_aload 0 1),
  (204, X_get 10 18),
  (207, X_iload 3 1),
  (208, X_ald 0),
  (209, X_bin (fun x y => x + y)),
  (210, X_icmp (fun x y => y ≤ x) 234),
  (213, X_goto 231),
  (216, X_push (xv_i 500) 3),
  (219, X_iload 4 2),
  (221, X_aload 0 1),
  (222, X_get 10 18),
  (225, X_iload 3 1),
  (226, X_ald 0),
  (227, X_bin (fun x y => x + y)),
  (228, X_icmp (fun x y => x = y) 234),
  (231, X_iinc 2 1),
  (234, X_iinc 3 1),
  (237, X_goto 166),
  (240, X_iload 2 1),
  (241, X_iret)]
set_option maxRecDepth 100000 in
theorem k_R_count : x_bok m_R_count b_R_count := by
  unfold b_R_count
  refine x_bok.cons (xs_aload_n d_R_count_0 rfl) ?_
  refine x_bok.cons (xs_iload_n d_R_count_1 rfl) ?_
  refine x_bok.cons (xs_iconst d_R_count_2 (by decide)) ?_
  refine x_bok.cons (xs_bipush d_R_count_3 (by decide)) ?_
  refine x_bok.cons (xs_invS d_R_count_5 sn_R_in is_R_in ⟨q6_67, q6_68, q1_12⟩ (by decide) (by decide) rfl) ?_
  refine x_bok.cons (xs_if_eq d_R_count_8 (by decide)) ?_
  refine x_bok.cons (xs_iconst d_R_count_11 (by decide)) ?_
  refine x_bok.cons (xs_goto d_R_count_12 (by decide)) ?_
  refine x_bok.cons (xs_iconst d_R_count_15 (by decide)) ?_
  refine x_bok.cons (xs_put d_R_count_16 xc10 xw10 xt10 xn10 (by decide) q5_231 (Or.inl rfl) rfl rfl x_fitI) ?_
  refine x_bok.cons (xs_aload_n d_R_count_19 rfl) ?_
  refine x_bok.cons (xs_get d_R_count_20 xc10 xw10 (by decide) q5_231 (Or.inl rfl)) ?_
  refine x_bok.cons (xs_if_le d_R_count_23 (by decide)) ?_
  refine x_bok.cons (xs_iconst d_R_count_26 (by decide)) ?_
  refine x_bok.cons (xs_iret d_R_count_27 rfl) ?_
  refine x_bok.cons (xs_iload_n d_R_count_28 rfl) ?_
  refine x_bok.cons (xs_if_ne d_R_count_29 (by decide)) ?_
  refine x_bok.cons (xs_aload_n d_R_count_32 rfl) ?_
  refine x_bok.cons (xs_get d_R_count_33 xc10 xw10 (by decide) q5_230 (Or.inl rfl)) ?_
  refine x_bok.cons (xs_iret d_R_count_36 rfl) ?_
  refine x_bok.cons (xs_iload_n d_R_count_37 rfl) ?_
  refine x_bok.cons (xs_iconst d_R_count_38 (by decide)) ?_
  refine x_bok.cons (xs_icmp_ne d_R_count_39 (by decide)) ?_
  refine x_bok.cons (xs_aload_n d_R_count_42 rfl) ?_
  refine x_bok.cons (xs_get d_R_count_43 xc10 xw10 (by decide) q5_214 (Or.inl rfl)) ?_
  refine x_bok.cons (xs_if_eq d_R_count_46 (by decide)) ?_
  refine x_bok.cons (xs_iconst d_R_count_49 (by decide)) ?_
  refine x_bok.cons (xs_goto d_R_count_50 (by decide)) ?_
  refine x_bok.cons (xs_iconst d_R_count_53 (by decide)) ?_
  refine x_bok.cons (xs_iret d_R_count_54 rfl) ?_
  refine x_bok.cons (xs_iload_n d_R_count_55 rfl) ?_
  refine x_bok.cons (xs_iconst d_R_count_56 (by decide)) ?_
  refine x_bok.cons (xs_icmp_ne d_R_count_57 (by decide)) ?_
  refine x_bok.cons (xs_aload_n d_R_count_60 rfl) ?_
  refine x_bok.cons (xs_get d_R_count_61 xc10 xw10 (by decide) q5_211 (Or.inl rfl)) ?_
  refine x_bok.cons (xs_iconst d_R_count_64 (by decide)) ?_
  refine x_bok.cons (xs_iald d_R_count_65 rfl) ?_
  refine x_bok.cons (xs_iret d_R_count_66 rfl) ?_
  refine x_bok.cons (xs_iconst d_R_count_67 (by decide)) ?_
  refine x_bok.cons (xs_istore_n d_R_count_68 rfl (by decide)) ?_
  refine x_bok.cons (xs_iload_n d_R_count_69 rfl) ?_
  refine x_bok.cons (xs_bipush d_R_count_70 (by decide)) ?_
  refine x_bok.cons (xs_icmp_ne d_R_count_72 (by decide)) ?_
  refine x_bok.cons (xs_iconst d_R_count_75 (by decide)) ?_
  refine x_bok.cons (xs_istore_n d_R_count_76 rfl (by decide)) ?_
  refine x_bok.cons (xs_iload_n d_R_count_77 rfl) ?_
  refine x_bok.cons (xs_aload_n d_R_count_78 rfl) ?_
  refine x_bok.cons (xs_get d_R_count_79 xc10 xw10 (by decide) q5_230 (Or.inl rfl)) ?_
  refine x_bok.cons (xs_icmp_ge d_R_count_82 (by decide)) ?_
  refine x_bok.cons (xs_aload_n d_R_count_85 rfl) ?_
  refine x_bok.cons (xs_get d_R_count_86 xc10 xw10 (by decide) q5_224 (Or.inl rfl)) ?_
  refine x_bok.cons (xs_iload_n d_R_count_89 rfl) ?_
  refine x_bok.cons (xs_iald d_R_count_90 rfl) ?_
  refine x_bok.cons (xs_sipush d_R_count_91 (by decide)) ?_
  refine x_bok.cons (xs_icmp_ne d_R_count_94 (by decide)) ?_
  refine x_bok.cons (xs_aload_n d_R_count_97 rfl) ?_
  refine x_bok.cons (xs_get d_R_count_98 xc10 xw10 (by decide) q5_228 (Or.inl rfl)) ?_
  refine x_bok.cons (xs_iload_n d_R_count_101 rfl) ?_
  refine x_bok.cons (xs_iald d_R_count_102 rfl) ?_
  refine x_bok.cons (xs_if_eq d_R_count_103 (by decide)) ?_
  refine x_bok.cons (xs_iinc d_R_count_106 (by decide) (by decide)) ?_
  refine x_bok.cons (xs_iinc d_R_count_109 (by decide) (by decide)) ?_
  refine x_bok.cons (xs_goto d_R_count_112 (by decide)) ?_
  refine x_bok.cons (xs_iload_n d_R_count_115 rfl) ?_
  refine x_bok.cons (xs_iret d_R_count_116 rfl) ?_
  refine x_bok.cons (xs_iload_n d_R_count_117 rfl) ?_
  refine x_bok.cons (xs_iconst d_R_count_118 (by decide)) ?_
  refine x_bok.cons (xs_icmp_ne d_R_count_119 (by decide)) ?_
  refine x_bok.cons (xs_iconst d_R_count_122 (by decide)) ?_
  refine x_bok.cons (xs_istore_n d_R_count_123 rfl (by decide)) ?_
  refine x_bok.cons (xs_iload_n d_R_count_124 rfl) ?_
  refine x_bok.cons (xs_iconst d_R_count_125 (by decide)) ?_
  refine x_bok.cons (xs_icmp_ge d_R_count_126 (by decide)) ?_
  refine x_bok.cons (xs_aload_n d_R_count_129 rfl) ?_
  refine x_bok.cons (xs_get d_R_count_130 xc10 xw10 (by decide) q5_215 (Or.inl rfl)) ?_
  refine x_bok.cons (xs_iload_n d_R_count_133 rfl) ?_
  refine x_bok.cons (xs_iald d_R_count_134 rfl) ?_
  refine x_bok.cons (xs_if_eq d_R_count_135 (by decide)) ?_
  refine x_bok.cons (xs_aload_n d_R_count_138 rfl) ?_
  refine x_bok.cons (xs_get d_R_count_139 xc10 xw10 (by decide) q5_215 (Or.inl rfl)) ?_
  refine x_bok.cons (xs_iload_n d_R_count_142 rfl) ?_
  refine x_bok.cons (xs_iald d_R_count_143 rfl) ?_
  refine x_bok.cons (xs_iconst d_R_count_144 (by decide)) ?_
  refine x_bok.cons (xs_icmp_eq d_R_count_145 (by decide)) ?_
  refine x_bok.cons (xs_aload_n d_R_count_148 rfl) ?_
  refine x_bok.cons (xs_iload_n d_R_count_149 rfl) ?_
  refine x_bok.cons (xs_invV d_R_count_150 xc10 sn_R_voids is_R_voids ⟨q6_84, q6_86, (x_sel (x_p2 (List.mem_of_getElem? (i := 14) rfl))), q1_12⟩ (by decide) (by decide) rfl) ?_
  refine x_bok.cons (xs_if_le d_R_count_153 (by decide)) ?_
  refine x_bok.cons (xs_iconst d_R_count_156 (by decide)) ?_
  refine x_bok.cons (xs_iret d_R_count_157 rfl) ?_
  refine x_bok.cons (xs_iinc d_R_count_158 (by decide) (by decide)) ?_
  refine x_bok.cons (xs_goto d_R_count_161 (by decide)) ?_
  refine x_bok.cons (xs_iconst d_R_count_164 (by decide)) ?_
  refine x_bok.cons (xs_istore_n d_R_count_165 rfl (by decide)) ?_
  refine x_bok.cons (xs_iload_n d_R_count_166 rfl) ?_
  refine x_bok.cons (xs_sipush d_R_count_167 (by decide)) ?_
  refine x_bok.cons (xs_icmp_ge d_R_count_170 (by decide)) ?_
  refine x_bok.cons (xs_aload_n d_R_count_173 rfl) ?_
  refine x_bok.cons (xs_iload_n d_R_count_174 rfl) ?_
  refine x_bok.cons (xs_invV d_R_count_175 xc10 sn_R_worth is_R_worth ⟨q6_157, q6_159, (x_sel (x_p3 (List.mem_of_getElem? (i := 9) rfl))), q1_12⟩ (by decide) (by decide) rfl) ?_
  refine x_bok.cons (xs_istore d_R_count_178 (by decide)) ?_
  refine x_bok.cons (xs_iload_n d_R_count_180 rfl) ?_
  refine x_bok.cons (xs_iconst d_R_count_181 (by decide)) ?_
  refine x_bok.cons (xs_icmp_ne d_R_count_182 (by decide)) ?_
  refine x_bok.cons (xs_iload_n d_R_count_185 rfl) ?_
  refine x_bok.cons (xs_iload d_R_count_186) ?_
  refine x_bok.cons (xs_iadd d_R_count_188) ?_
  refine x_bok.cons (xs_istore_n d_R_count_189 rfl (by decide)) ?_
  refine x_bok.cons (xs_goto d_R_count_190 (by decide)) ?_
  refine x_bok.cons (xs_iload_n d_R_count_193 rfl) ?_
  refine x_bok.cons (xs_iconst d_R_count_194 (by decide)) ?_
  refine x_bok.cons (xs_icmp_ne d_R_count_195 (by decide)) ?_
  refine x_bok.cons (xs_sipush d_R_count_198 (by decide)) ?_
  refine x_bok.cons (xs_iload d_R_count_201) ?_
  refine x_bok.cons (xs_aload_n d_R_count_203 rfl) ?_
  refine x_bok.cons (xs_get d_R_count_204 xc10 xw10 (by decide) q5_223 (Or.inl rfl)) ?_
  refine x_bok.cons (xs_iload_n d_R_count_207 rfl) ?_
  refine x_bok.cons (xs_iald d_R_count_208 rfl) ?_
  refine x_bok.cons (xs_iadd d_R_count_209) ?_
  refine x_bok.cons (xs_icmp_ge d_R_count_210 (by decide)) ?_
  refine x_bok.cons (xs_goto d_R_count_213 (by decide)) ?_
  refine x_bok.cons (xs_sipush d_R_count_216 (by decide)) ?_
  refine x_bok.cons (xs_iload d_R_count_219) ?_
  refine x_bok.cons (xs_aload_n d_R_count_221 rfl) ?_
  refine x_bok.cons (xs_get d_R_count_222 xc10 xw10 (by decide) q5_223 (Or.inl rfl)) ?_
  refine x_bok.cons (xs_iload_n d_R_count_225 rfl) ?_
  refine x_bok.cons (xs_iald d_R_count_226 rfl) ?_
  refine x_bok.cons (xs_iadd d_R_count_227) ?_
  refine x_bok.cons (xs_icmp_eq d_R_count_228 (by decide)) ?_
  refine x_bok.cons (xs_iinc d_R_count_231 (by decide) (by decide)) ?_
  refine x_bok.cons (xs_iinc d_R_count_234 (by decide) (by decide)) ?_
  refine x_bok.cons (xs_goto d_R_count_237 (by decide)) ?_
  refine x_bok.cons (xs_iload_n d_R_count_240 rfl) ?_
  refine x_bok.cons (xs_iret d_R_count_241 rfl) ?_
  exact x_bok.nil
set_option maxRecDepth 100000 in
theorem mn_R_count : x_bmn b_R_count := by
  unfold b_R_count
  refine x_bmn.cons (xm_aload) ?_
  refine x_bmn.cons (xm_iload) ?_
  refine x_bmn.cons (xm_push) ?_
  refine x_bmn.cons (xm_push) ?_
  refine x_bmn.cons (xm_invS ym_R_in) ?_
  refine x_bmn.cons (xm_if) ?_
  refine x_bmn.cons (xm_push) ?_
  refine x_bmn.cons (xm_goto) ?_
  refine x_bmn.cons (xm_push) ?_
  refine x_bmn.cons (xm_put) ?_
  refine x_bmn.cons (xm_aload) ?_
  refine x_bmn.cons (xm_get) ?_
  refine x_bmn.cons (xm_if) ?_
  refine x_bmn.cons (xm_push) ?_
  refine x_bmn.cons (xm_iret) ?_
  refine x_bmn.cons (xm_iload) ?_
  refine x_bmn.cons (xm_if) ?_
  refine x_bmn.cons (xm_aload) ?_
  refine x_bmn.cons (xm_get) ?_
  refine x_bmn.cons (xm_iret) ?_
  refine x_bmn.cons (xm_iload) ?_
  refine x_bmn.cons (xm_push) ?_
  refine x_bmn.cons (xm_icmp) ?_
  refine x_bmn.cons (xm_aload) ?_
  refine x_bmn.cons (xm_get) ?_
  refine x_bmn.cons (xm_if) ?_
  refine x_bmn.cons (xm_push) ?_
  refine x_bmn.cons (xm_goto) ?_
  refine x_bmn.cons (xm_push) ?_
  refine x_bmn.cons (xm_iret) ?_
  refine x_bmn.cons (xm_iload) ?_
  refine x_bmn.cons (xm_push) ?_
  refine x_bmn.cons (xm_icmp) ?_
  refine x_bmn.cons (xm_aload) ?_
  refine x_bmn.cons (xm_get) ?_
  refine x_bmn.cons (xm_push) ?_
  refine x_bmn.cons (xm_ald) ?_
  refine x_bmn.cons (xm_iret) ?_
  refine x_bmn.cons (xm_push) ?_
  refine x_bmn.cons (xm_istore) ?_
  refine x_bmn.cons (xm_iload) ?_
  refine x_bmn.cons (xm_push) ?_
  refine x_bmn.cons (xm_icmp) ?_
  refine x_bmn.cons (xm_push) ?_
  refine x_bmn.cons (xm_istore) ?_
  refine x_bmn.cons (xm_iload) ?_
  refine x_bmn.cons (xm_aload) ?_
  refine x_bmn.cons (xm_get) ?_
  refine x_bmn.cons (xm_icmp) ?_
  refine x_bmn.cons (xm_aload) ?_
  refine x_bmn.cons (xm_get) ?_
  refine x_bmn.cons (xm_iload) ?_
  refine x_bmn.cons (xm_ald) ?_
  refine x_bmn.cons (xm_push) ?_
  refine x_bmn.cons (xm_icmp) ?_
  refine x_bmn.cons (xm_aload) ?_
  refine x_bmn.cons (xm_get) ?_
  refine x_bmn.cons (xm_iload) ?_
  refine x_bmn.cons (xm_ald) ?_
  refine x_bmn.cons (xm_if) ?_
  refine x_bmn.cons (xm_iinc) ?_
  refine x_bmn.cons (xm_iinc) ?_
  refine x_bmn.cons (xm_goto) ?_
  refine x_bmn.cons (xm_iload) ?_
  refine x_bmn.cons (xm_iret) ?_
  refine x_bmn.cons (xm_iload) ?_
  refine x_bmn.cons (xm_push) ?_
  refine x_bmn.cons (xm_icmp) ?_
  refine x_bmn.cons (xm_push) ?_
  refine x_bmn.cons (xm_istore) ?_
  refine x_bmn.cons (xm_iload) ?_
  refine x_bmn.cons (xm_push) ?_
  refine x_bmn.cons (xm_icmp) ?_
  refine x_bmn.cons (xm_aload) ?_
  refine x_bmn.cons (xm_get) ?_
  refine x_bmn.cons (xm_iload) ?_
  refine x_bmn.cons (xm_ald) ?_
  refine x_bmn.cons (xm_if) ?_
  refine x_bmn.cons (xm_aload) ?_
  refine x_bmn.cons (xm_get) ?_
  refine x_bmn.cons (xm_iload) ?_
  refine x_bmn.cons (xm_ald) ?_
  refine x_bmn.cons (xm_push) ?_
  refine x_bmn.cons (xm_icmp) ?_
  refine x_bmn.cons (xm_aload) ?_
  refine x_bmn.cons (xm_iload) ?_
  refine x_bmn.cons (xm_invV ym_R_voids) ?_
  refine x_bmn.cons (xm_if) ?_
  refine x_bmn.cons (xm_push) ?_
  refine x_bmn.cons (xm_iret) ?_
  refine x_bmn.cons (xm_iinc) ?_
  refine x_bmn.cons (xm_goto) ?_
  refine x_bmn.cons (xm_push) ?_
  refine x_bmn.cons (xm_istore) ?_
  refine x_bmn.cons (xm_iload) ?_
  refine x_bmn.cons (xm_push) ?_
  refine x_bmn.cons (xm_icmp) ?_
  refine x_bmn.cons (xm_aload) ?_
  refine x_bmn.cons (xm_iload) ?_
  refine x_bmn.cons (xm_invV ym_R_worth) ?_
  refine x_bmn.cons (xm_istore) ?_
  refine x_bmn.cons (xm_iload) ?_
  refine x_bmn.cons (xm_push) ?_
  refine x_bmn.cons (xm_icmp) ?_
  refine x_bmn.cons (xm_iload) ?_
  refine x_bmn.cons (xm_iload) ?_
  refine x_bmn.cons (xm_bin) ?_
  refine x_bmn.cons (xm_istore) ?_
  refine x_bmn.cons (xm_goto) ?_
  refine x_bmn.cons (xm_iload) ?_
  refine x_bmn.cons (xm_push) ?_
  refine x_bmn.cons (xm_icmp) ?_
  refine x_bmn.cons (xm_push) ?_
  refine x_bmn.cons (xm_iload) ?_
  refine x_bmn.cons (xm_aload) ?_
  refine x_bmn.cons (xm_get) ?_
  refine x_bmn.cons (xm_iload) ?_
  refine x_bmn.cons (xm_ald) ?_
  refine x_bmn.cons (xm_bin) ?_
  refine x_bmn.cons (xm_icmp) ?_
  refine x_bmn.cons (xm_goto) ?_
  refine x_bmn.cons (xm_push) ?_
  refine x_bmn.cons (xm_iload) ?_
  refine x_bmn.cons (xm_aload) ?_
  refine x_bmn.cons (xm_get) ?_
  refine x_bmn.cons (xm_iload) ?_
  refine x_bmn.cons (xm_ald) ?_
  refine x_bmn.cons (xm_bin) ?_
  refine x_bmn.cons (xm_icmp) ?_
  refine x_bmn.cons (xm_iinc) ?_
  refine x_bmn.cons (xm_iinc) ?_
  refine x_bmn.cons (xm_goto) ?_
  refine x_bmn.cons (xm_iload) ?_
  refine x_bmn.cons (xm_iret) ?_
  exact x_bmn.nil
theorem is_R_count : x_Is y_R_count m_R_count := x_is_code q6_230
def Y_R_count : XMeth := x_do 5 b_R_count
theorem sn_R_count : x_Snd y_R_count m_R_count Y_R_count := x_snd_of (by decide) rfl rfl is_R_count k_R_count
theorem ym_R_count : x_Ymn Y_R_count := x_ymn_of mn_R_count
