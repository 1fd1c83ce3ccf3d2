/- CashLink$Machine.recall()V -/
abbrev c_M_recall : ByteArray := prog_6_method_17_code
def y_M_recall : MethodName := ⟨"CashLink$Machine", "recall", "()V"⟩
theorem d_M_recall_0 : decode c_M_recall 0 = .ok (.aload_n 0, 1) := by decide +kernel
theorem d_M_recall_1 : decode c_M_recall 1 = .ok (.iconst 0, 1) := by decide +kernel
theorem d_M_recall_2 : decode c_M_recall 2 = .ok (.putfield 96, 3) := by decide +kernel
theorem d_M_recall_5 : decode c_M_recall 5 = .ok (.aload_n 0, 1) := by decide +kernel
theorem d_M_recall_6 : decode c_M_recall 6 = .ok (.getfield 37, 3) := by decide +kernel
theorem d_M_recall_9 : decode c_M_recall 9 = .ok (.invokevirtual 213, 3) := by decide +kernel
theorem d_M_recall_12 : decode c_M_recall 12 = .ok (.iconst 0, 1) := by decide +kernel
theorem d_M_recall_13 : decode c_M_recall 13 = .ok (.istore_n 1, 1) := by decide +kernel
theorem d_M_recall_14 : decode c_M_recall 14 = .ok (.iload_n 1, 1) := by decide +kernel
theorem d_M_recall_15 : decode c_M_recall 15 = .ok (.aload_n 0, 1) := by decide +kernel
theorem d_M_recall_16 : decode c_M_recall 16 = .ok (.getfield 14, 3) := by decide +kernel
theorem d_M_recall_19 : decode c_M_recall 19 = .ok (.invokevirtual 142, 3) := by decide +kernel
theorem d_M_recall_22 : decode c_M_recall 22 = .ok (.if_icmp .ge 81, 3) := by decide +kernel
theorem d_M_recall_25 : decode c_M_recall 25 = .ok (.aload_n 0, 1) := by decide +kernel
theorem d_M_recall_26 : decode c_M_recall 26 = .ok (.getfield 14, 3) := by decide +kernel
theorem d_M_recall_29 : decode c_M_recall 29 = .ok (.iload_n 1, 1) := by decide +kernel
theorem d_M_recall_30 : decode c_M_recall 30 = .ok (.invokevirtual 143, 3) := by decide +kernel
theorem d_M_recall_33 : decode c_M_recall 33 = .ok (.astore_n 2, 1) := by decide +kernel
theorem d_M_recall_34 : decode c_M_recall 34 = .ok (.aload_n 2, 1) := by decide +kernel
theorem d_M_recall_35 : decode c_M_recall 35 = .ok (.invokevirtual 147, 3) := by decide +kernel
theorem d_M_recall_38 : decode c_M_recall 38 = .ok (.iconst 1, 1) := by decide +kernel
theorem d_M_recall_39 : decode c_M_recall 39 = .ok (.if_icmp .ne 22, 3) := by decide +kernel
theorem d_M_recall_42 : decode c_M_recall 42 = .ok (.aload_n 0, 1) := by decide +kernel
theorem d_M_recall_43 : decode c_M_recall 43 = .ok (.aload_n 2, 1) := by decide +kernel
theorem d_M_recall_44 : decode c_M_recall 44 = .ok (.invokevirtual 134, 3) := by decide +kernel
theorem d_M_recall_47 : decode c_M_recall 47 = .ok (.putfield 96, 3) := by decide +kernel
theorem d_M_recall_50 : decode c_M_recall 50 = .ok (.aload_n 0, 1) := by decide +kernel
theorem d_M_recall_51 : decode c_M_recall 51 = .ok (.aload_n 2, 1) := by decide +kernel
theorem d_M_recall_52 : decode c_M_recall 52 = .ok (.invokevirtual 136, 3) := by decide +kernel
theorem d_M_recall_55 : decode c_M_recall 55 = .ok (.putfield 106, 3) := by decide +kernel
theorem d_M_recall_58 : decode c_M_recall 58 = .ok (.goto 39, 3) := by decide +kernel
theorem d_M_recall_61 : decode c_M_recall 61 = .ok (.aload_n 2, 1) := by decide +kernel
theorem d_M_recall_62 : decode c_M_recall 62 = .ok (.invokevirtual 147, 3) := by decide +kernel
theorem d_M_recall_65 : decode c_M_recall 65 = .ok (.iconst 4, 1) := by decide +kernel
theorem d_M_recall_66 : decode c_M_recall 66 = .ok (.if_icmp .ne 15, 3) := by decide +kernel
theorem d_M_recall_69 : decode c_M_recall 69 = .ok (.aload_n 0, 1) := by decide +kernel
theorem d_M_recall_70 : decode c_M_recall 70 = .ok (.getfield 37, 3) := by decide +kernel
theorem d_M_recall_73 : decode c_M_recall 73 = .ok (.aload_n 2, 1) := by decide +kernel
theorem d_M_recall_74 : decode c_M_recall 74 = .ok (.invokevirtual 191, 3) := by decide +kernel
theorem d_M_recall_77 : decode c_M_recall 77 = .ok (.pop, 1) := by decide +kernel
theorem d_M_recall_78 : decode c_M_recall 78 = .ok (.goto 19, 3) := by decide +kernel
theorem d_M_recall_81 : decode c_M_recall 81 = .ok (.aload_n 2, 1) := by decide +kernel
theorem d_M_recall_82 : decode c_M_recall 82 = .ok (.invokevirtual 147, 3) := by decide +kernel
theorem d_M_recall_85 : decode c_M_recall 85 = .ok (.iconst 5, 1) := by decide +kernel
theorem d_M_recall_86 : decode c_M_recall 86 = .ok (.if_icmp .ne 11, 3) := by decide +kernel
theorem d_M_recall_89 : decode c_M_recall 89 = .ok (.aload_n 0, 1) := by decide +kernel
theorem d_M_recall_90 : decode c_M_recall 90 = .ok (.aload_n 2, 1) := by decide +kernel
theorem d_M_recall_91 : decode c_M_recall 91 = .ok (.invokevirtual 134, 3) := by decide +kernel
theorem d_M_recall_94 : decode c_M_recall 94 = .ok (.invokevirtual 198, 3) := by decide +kernel
theorem d_M_recall_97 : decode c_M_recall 97 = .ok (.iinc 1 1, 3) := by decide +kernel
theorem d_M_recall_100 : decode c_M_recall 100 = .ok (.goto (-86), 3) := by decide +kernel
theorem d_M_recall_103 : decode c_M_recall 103 = .ok (.return_, 1) := by decide +kernel
def m_M_recall : XM := ("CashLink$Machine", c_M_recall, 3, none, "recall", [], 7, 152)
def b_M_recall : XB := [(0, X_aload 0 1),
  (1, X_push (xv_i 0) 1),
  (2, X_put x_tI 3 8),
  (5, X_aload 0 1),
  (6, X_get 3 10),
  (9, X_invV 8 Y_A_clear 0 []),
  (12, X_push (xv_i 0) 1),
  (13, X_istore 1 1),
  (14, X_iload 1 1),
  (15, X_aload 0 1),
  (16, X_get 3 3),
  (19, X_invV 4 Y_J_size 0 []),
  (22, X_icmp (fun x y => y ≤ x) 103),
  (25, X_aload 0 1),
  (26, X_get 3 3),
  (29, X_iload 1 1),
  (30, X_invV 4 Y_J_entry 1 []),
  (33, X_astore 2 1),
  (34, X_aload 2 1),
  (35, X_invV 6 Y_E_kind 0 []),
  (38, X_push (xv_i 1) 1),
  (39, X_icmp (fun x y => ¬ x = y) 61),
  (42, X_aload 0 1),
  (43, X_aload 2 1),
  (44, X_invV 6 Y_E_trace 0 []),
  (47, X_put x_tI 3 8),
  (50, X_aload 0 1),
  (51, X_aload 2 1),
  (52, X_invV 6 Y_E_value 0 []),
  (55, X_put x_tI 3 9),
  (58, X_goto 97),
  (61, X_aload 2 1),
  (62, X_invV 6 Y_E_kind 0 []),
  (65, X_push (xv_i 4) 1),
  (66, X_icmp (fun x y => ¬ x = y) 81),
  (69, X_aload 0 1),
  (70, X_get 3 10),
  (73, X_aload 2 1),
  (74, X_invV 8 Y_A_add 1 []),
  (77, X_pop),
  (78, X_goto 97),
  (81, X_aload 2 1),
  (82, X_invV 6 Y_E_kind 0 []),
  (85, X_push (xv_i 5) 1),
  (86, X_icmp (fun x y => ¬ x = y) 97),
  (89, X_aload 0 1),
  (90, X_aload 2 1),
  (91, X_invV 6 Y_E_trace 0 []),
  (94, X_invV 3 Y_M_forgetVoid 1 []),
  (97, X_iinc 1 1),
  (100, X_goto 14),
  (103, X_vret)]
set_option maxRecDepth 100000 in
theorem k_M_recall : x_bok m_M_recall b_M_recall := by
  unfold b_M_recall
  refine x_bok.cons (xs_aload_n d_M_recall_0 rfl) ?_
  refine x_bok.cons (xs_iconst d_M_recall_1 (by decide)) ?_
  refine x_bok.cons (xs_put d_M_recall_2 xc3 xw3 xt3 xn3 (by decide) q1_175 (Or.inl rfl) rfl rfl x_fitI) ?_
  refine x_bok.cons (xs_aload_n d_M_recall_5 rfl) ?_
  refine x_bok.cons (xs_get d_M_recall_6 xc3 xw3 (by decide) q1_177 (Or.inl rfl)) ?_
  refine x_bok.cons (xs_invV d_M_recall_9 xc8 sn_A_clear is_A_clear ⟨q4_162, q4_163, q4_164, q1_5⟩ (by decide) (by decide) rfl) ?_
  refine x_bok.cons (xs_iconst d_M_recall_12 (by decide)) ?_
  refine x_bok.cons (xs_istore_n d_M_recall_13 rfl (by decide)) ?_
  refine x_bok.cons (xs_iload_n d_M_recall_14 rfl) ?_
  refine x_bok.cons (xs_aload_n d_M_recall_15 rfl) ?_
  refine x_bok.cons (xs_get d_M_recall_16 xc3 xw3 (by decide) q1_168 (Or.inl rfl)) ?_
  refine x_bok.cons (xs_invV d_M_recall_19 xc4 sn_J_size is_J_size ⟨q3_130, q3_131, q3_132, q1_7⟩ (by decide) (by decide) rfl) ?_
  refine x_bok.cons (xs_icmp_ge d_M_recall_22 (by decide)) ?_
  refine x_bok.cons (xs_aload_n d_M_recall_25 rfl) ?_
  refine x_bok.cons (xs_get d_M_recall_26 xc3 xw3 (by decide) q1_168 (Or.inl rfl)) ?_
  refine x_bok.cons (xs_iload_n d_M_recall_29 rfl) ?_
  refine x_bok.cons (xs_invV d_M_recall_30 xc4 sn_J_entry is_J_entry ⟨q3_134, q3_135, q3_136, q1_7⟩ (by decide) (by decide) rfl) ?_
  refine x_bok.cons (xs_astore_n d_M_recall_33 rfl (by decide)) ?_
  refine x_bok.cons (xs_aload_n d_M_recall_34 rfl) ?_
  refine x_bok.cons (xs_invV d_M_recall_35 xc6 sn_E_kind is_E_kind ⟨q3_140, q3_141, q3_142, q1_21⟩ (by decide) (by decide) rfl) ?_
  refine x_bok.cons (xs_iconst d_M_recall_38 (by decide)) ?_
  refine x_bok.cons (xs_icmp_ne d_M_recall_39 (by decide)) ?_
  refine x_bok.cons (xs_aload_n d_M_recall_42 rfl) ?_
  refine x_bok.cons (xs_aload_n d_M_recall_43 rfl) ?_
  refine x_bok.cons (xs_invV d_M_recall_44 xc6 sn_E_trace is_E_trace ⟨q3_103, q3_104, q3_105, q1_21⟩ (by decide) (by decide) rfl) ?_
  refine x_bok.cons (xs_put d_M_recall_47 xc3 xw3 xt3 xn3 (by decide) q1_175 (Or.inl rfl) rfl rfl x_fitI) ?_
  refine x_bok.cons (xs_aload_n d_M_recall_50 rfl) ?_
  refine x_bok.cons (xs_aload_n d_M_recall_51 rfl) ?_
  refine x_bok.cons (xs_invV d_M_recall_52 xc6 sn_E_value is_E_value ⟨q3_107, q3_108, q3_109, q1_21⟩ (by decide) (by decide) rfl) ?_
  refine x_bok.cons (xs_put d_M_recall_55 xc3 xw3 xt3 xn3 (by decide) q1_176 (Or.inl rfl) rfl rfl x_fitI) ?_
  refine x_bok.cons (xs_goto d_M_recall_58 (by decide)) ?_
  refine x_bok.cons (xs_aload_n d_M_recall_61 rfl) ?_
  refine x_bok.cons (xs_invV d_M_recall_62 xc6 sn_E_kind is_E_kind ⟨q3_140, q3_141, q3_142, q1_21⟩ (by decide) (by decide) rfl) ?_
  refine x_bok.cons (xs_iconst d_M_recall_65 (by decide)) ?_
  refine x_bok.cons (xs_icmp_ne d_M_recall_66 (by decide)) ?_
  refine x_bok.cons (xs_aload_n d_M_recall_69 rfl) ?_
  refine x_bok.cons (xs_get d_M_recall_70 xc3 xw3 (by decide) q1_177 (Or.inl rfl)) ?_
  refine x_bok.cons (xs_aload_n d_M_recall_73 rfl) ?_
  refine x_bok.cons (xs_invV d_M_recall_74 xc8 sn_A_add is_A_add ⟨q3_75, q2_183, q2_184, q1_5⟩ (by decide) (by decide) rfl) ?_
  refine x_bok.cons (xs_pop d_M_recall_77) ?_
  refine x_bok.cons (xs_goto d_M_recall_78 (by decide)) ?_
  refine x_bok.cons (xs_aload_n d_M_recall_81 rfl) ?_
  refine x_bok.cons (xs_invV d_M_recall_82 xc6 sn_E_kind is_E_kind ⟨q3_140, q3_141, q3_142, q1_21⟩ (by decide) (by decide) rfl) ?_
  refine x_bok.cons (xs_iconst d_M_recall_85 (by decide)) ?_
  refine x_bok.cons (xs_icmp_ne d_M_recall_86 (by decide)) ?_
  refine x_bok.cons (xs_aload_n d_M_recall_89 rfl) ?_
  refine x_bok.cons (xs_aload_n d_M_recall_90 rfl) ?_
  refine x_bok.cons (xs_invV d_M_recall_91 xc6 sn_E_trace is_E_trace ⟨q3_103, q3_104, q3_105, q1_21⟩ (by decide) (by decide) rfl) ?_
  refine x_bok.cons (xs_invV d_M_recall_94 xc3 sn_M_forgetVoid is_M_forgetVoid ⟨q4_62, q4_64, (x_sel (x_p2 (List.mem_of_getElem? (i := 1) rfl))), q1_8⟩ (by decide) (by decide) rfl) ?_
  refine x_bok.cons (xs_iinc d_M_recall_97 (by decide) (by decide)) ?_
  refine x_bok.cons (xs_goto d_M_recall_100 (by decide)) ?_
  refine x_bok.cons (xs_vret d_M_recall_103 rfl) ?_
  exact x_bok.nil
set_option maxRecDepth 100000 in
theorem mn_M_recall : x_bmn b_M_recall := by
  unfold b_M_recall
  refine x_bmn.cons (xm_aload) ?_
  refine x_bmn.cons (xm_push) ?_
  refine x_bmn.cons (xm_put) ?_
  refine x_bmn.cons (xm_aload) ?_
  refine x_bmn.cons (xm_get) ?_
  refine x_bmn.cons (xm_invV ym_A_clear) ?_
  refine x_bmn.cons (xm_push) ?_
  refine x_bmn.cons (xm_istore) ?_
  refine x_bmn.cons (xm_iload) ?_
  refine x_bmn.cons (xm_aload) ?_
  refine x_bmn.cons (xm_get) ?_
  refine x_bmn.cons (xm_invV ym_J_size) ?_
  refine x_bmn.cons (xm_icmp) ?_
  refine x_bmn.cons (xm_aload) ?_
  refine x_bmn.cons (xm_get) ?_
  refine x_bmn.cons (xm_iload) ?_
  refine x_bmn.cons (xm_invV ym_J_entry) ?_
  refine x_bmn.cons (xm_astore) ?_
  refine x_bmn.cons (xm_aload) ?_
  refine x_bmn.cons (xm_invV ym_E_kind) ?_
  refine x_bmn.cons (xm_push) ?_
  refine x_bmn.cons (xm_icmp) ?_
  refine x_bmn.cons (xm_aload) ?_
  refine x_bmn.cons (xm_aload) ?_
  refine x_bmn.cons (xm_invV ym_E_trace) ?_
  refine x_bmn.cons (xm_put) ?_
  refine x_bmn.cons (xm_aload) ?_
  refine x_bmn.cons (xm_aload) ?_
  refine x_bmn.cons (xm_invV ym_E_value) ?_
  refine x_bmn.cons (xm_put) ?_
  refine x_bmn.cons (xm_goto) ?_
  refine x_bmn.cons (xm_aload) ?_
  refine x_bmn.cons (xm_invV ym_E_kind) ?_
  refine x_bmn.cons (xm_push) ?_
  refine x_bmn.cons (xm_icmp) ?_
  refine x_bmn.cons (xm_aload) ?_
  refine x_bmn.cons (xm_get) ?_
  refine x_bmn.cons (xm_aload) ?_
  refine x_bmn.cons (xm_invV ym_A_add) ?_
  refine x_bmn.cons (xm_pop) ?_
  refine x_bmn.cons (xm_goto) ?_
  refine x_bmn.cons (xm_aload) ?_
  refine x_bmn.cons (xm_invV ym_E_kind) ?_
  refine x_bmn.cons (xm_push) ?_
  refine x_bmn.cons (xm_icmp) ?_
  refine x_bmn.cons (xm_aload) ?_
  refine x_bmn.cons (xm_aload) ?_
  refine x_bmn.cons (xm_invV ym_E_trace) ?_
  refine x_bmn.cons (xm_invV ym_M_forgetVoid) ?_
  refine x_bmn.cons (xm_iinc) ?_
  refine x_bmn.cons (xm_goto) ?_
  refine x_bmn.cons (xm_vret) ?_
  exact x_bmn.nil
theorem is_M_recall : x_Is y_M_recall m_M_recall := x_is_code q4_161
def Y_M_recall : XMeth := x_do 3 b_M_recall
theorem sn_M_recall : x_Snd y_M_recall m_M_recall Y_M_recall := x_snd_of (by decide) rfl rfl is_M_recall k_M_recall
theorem ym_M_recall : x_Ymn Y_M_recall := x_ymn_of mn_M_recall
/- CashLink$Machine.has(I)Z -/
abbrev c_M_has : ByteArray := prog_6_method_19_code
def y_M_has : MethodName := ⟨"CashLink$Machine", "has", "(I)Z"⟩
theorem d_M_has_0 : decode c_M_has 0 = .ok (.aload_n 0, 1) := by decide +kernel
theorem d_M_has_1 : decode c_M_has 1 = .ok (.getfield 14, 3) := by decide +kernel
theorem d_M_has_4 : decode c_M_has 4 = .ok (.iload_n 1, 1) := by decide +kernel
theorem d_M_has_5 : decode c_M_has 5 = .ok (.aload_n 0, 1) := by decide +kernel
theorem d_M_has_6 : decode c_M_has 6 = .ok (.getfield 41, 3) := by decide +kernel
theorem d_M_has_9 : decode c_M_has 9 = .ok (.aload_n 0, 1) := by decide +kernel
theorem d_M_has_10 : decode c_M_has 10 = .ok (.getfield 96, 3) := by decide +kernel
theorem d_M_has_13 : decode c_M_has 13 = .ok (.invokevirtual 219, 3) := by decide +kernel
theorem d_M_has_16 : decode c_M_has 16 = .ok (.ifnull 7, 3) := by decide +kernel
theorem d_M_has_19 : decode c_M_has 19 = .ok (.iconst 1, 1) := by decide +kernel
theorem d_M_has_20 : decode c_M_has 20 = .ok (.goto 4, 3) := by decide +kernel
theorem d_M_has_23 : decode c_M_has 23 = .ok (.iconst 0, 1) := by decide +kernel
theorem d_M_has_24 : decode c_M_has 24 = .ok (.ireturn, 1) := by decide +kernel
def m_M_has : XM := ("CashLink$Machine", c_M_has, 2, (some .boolean), "has", [], 4, 89)
def b_M_has : XB := [(0, X_aload 0 1),
  (1, X_get 3 3),
  (4, X_iload 1 1),
  (5, X_aload 0 1),
  (6, X_get 3 0),
  (9, X_aload 0 1),
  (10, X_get 3 8),
  (13, X_invV 4 Y_J_find 3 []),
  (16, X_ifnull 23),
  (19, X_push (xv_i 1) 1),
  (20, X_goto 24),
  (23, X_push (xv_i 0) 1),
  (24, X_zret)]
set_option maxRecDepth 100000 in
theorem k_M_has : x_bok m_M_has b_M_has := by
  unfold b_M_has
  refine x_bok.cons (xs_aload_n d_M_has_0 rfl) ?_
  refine x_bok.cons (xs_get d_M_has_1 xc3 xw3 (by decide) q1_168 (Or.inl rfl)) ?_
  refine x_bok.cons (xs_iload_n d_M_has_4 rfl) ?_
  refine x_bok.cons (xs_aload_n d_M_has_5 rfl) ?_
  refine x_bok.cons (xs_get d_M_has_6 xc3 xw3 (by decide) q1_165 (Or.inl rfl)) ?_
  refine x_bok.cons (xs_aload_n d_M_has_9 rfl) ?_
  refine x_bok.cons (xs_get d_M_has_10 xc3 xw3 (by decide) q1_175 (Or.inl rfl)) ?_
  refine x_bok.cons (xs_invV d_M_has_13 xc4 sn_J_find is_J_find ⟨q4_174, q3_211, q3_212, q1_7⟩ (by decide) (by decide) rfl) ?_
  refine x_bok.cons (xs_ifnull d_M_has_16 (by decide)) ?_
  refine x_bok.cons (xs_iconst d_M_has_19 (by decide)) ?_
  refine x_bok.cons (xs_goto d_M_has_20 (by decide)) ?_
  refine x_bok.cons (xs_iconst d_M_has_23 (by decide)) ?_
  refine x_bok.cons (xs_zret d_M_has_24 rfl) ?_
  exact x_bok.nil
set_option maxRecDepth 100000 in
theorem mn_M_has : x_bmn b_M_has := by
  unfold b_M_has
  refine x_bmn.cons (xm_aload) ?_
  refine x_bmn.cons (xm_get) ?_
  refine x_bmn.cons (xm_iload) ?_
  refine x_bmn.cons (xm_aload) ?_
  refine x_bmn.cons (xm_get) ?_
  refine x_bmn.cons (xm_aload) ?_
  refine x_bmn.cons (xm_get) ?_
  refine x_bmn.cons (xm_invV ym_J_find) ?_
  refine x_bmn.cons (xm_ifnull) ?_
  refine x_bmn.cons (xm_push) ?_
  refine x_bmn.cons (xm_goto) ?_
  refine x_bmn.cons (xm_push) ?_
  refine x_bmn.cons (xm_zret) ?_
  exact x_bmn.nil
theorem is_M_has : x_Is y_M_has m_M_has := x_is_code q4_173
def Y_M_has : XMeth := x_do 2 b_M_has
theorem sn_M_has : x_Snd y_M_has m_M_has Y_M_has := x_snd_of (by decide) rfl rfl is_M_has k_M_has
theorem ym_M_has : x_Ymn Y_M_has := x_ymn_of mn_M_has
/- CashLink$Machine.finishLast()V -/
abbrev c_M_finishLast : ByteArray := prog_6_method_18_code
def y_M_finishLast : MethodName := ⟨"CashLink$Machine", "finishLast", "()V"⟩
theorem d_M_finishLast_0 : decode c_M_finishLast 0 = .ok (.aload_n 0, 1) := by decide +kernel
theorem d_M_finishLast_1 : decode c_M_finishLast 1 = .ok (.getfield 96, 3) := by decide +kernel
theorem d_M_finishLast_4 : decode c_M_finishLast 4 = .ok (.ifCond .eq 19, 3) := by decide +kernel
theorem d_M_finishLast_7 : decode c_M_finishLast 7 = .ok (.aload_n 0, 1) := by decide +kernel
theorem d_M_finishLast_8 : decode c_M_finishLast 8 = .ok (.iconst 4, 1) := by decide +kernel
theorem d_M_finishLast_9 : decode c_M_finishLast 9 = .ok (.invokevirtual 216, 3) := by decide +kernel
theorem d_M_finishLast_12 : decode c_M_finishLast 12 = .ok (.ifCond .ne 11, 3) := by decide +kernel
theorem d_M_finishLast_15 : decode c_M_finishLast 15 = .ok (.aload_n 0, 1) := by decide +kernel
theorem d_M_finishLast_16 : decode c_M_finishLast 16 = .ok (.iconst 5, 1) := by decide +kernel
theorem d_M_finishLast_17 : decode c_M_finishLast 17 = .ok (.invokevirtual 216, 3) := by decide +kernel
theorem d_M_finishLast_20 : decode c_M_finishLast 20 = .ok (.ifCond .eq 4, 3) := by decide +kernel
theorem d_M_finishLast_23 : decode c_M_finishLast 23 = .ok (.return_, 1) := by decide +kernel
theorem d_M_finishLast_24 : decode c_M_finishLast 24 = .ok (.aload_n 0, 1) := by decide +kernel
theorem d_M_finishLast_25 : decode c_M_finishLast 25 = .ok (.getfield 14, 3) := by decide +kernel
theorem d_M_finishLast_28 : decode c_M_finishLast 28 = .ok (.iconst 3, 1) := by decide +kernel
theorem d_M_finishLast_29 : decode c_M_finishLast 29 = .ok (.aload_n 0, 1) := by decide +kernel
theorem d_M_finishLast_30 : decode c_M_finishLast 30 = .ok (.getfield 41, 3) := by decide +kernel
theorem d_M_finishLast_33 : decode c_M_finishLast 33 = .ok (.aload_n 0, 1) := by decide +kernel
theorem d_M_finishLast_34 : decode c_M_finishLast 34 = .ok (.getfield 96, 3) := by decide +kernel
theorem d_M_finishLast_37 : decode c_M_finishLast 37 = .ok (.invokevirtual 219, 3) := by decide +kernel
theorem d_M_finishLast_40 : decode c_M_finishLast 40 = .ok (.astore_n 1, 1) := by decide +kernel
theorem d_M_finishLast_41 : decode c_M_finishLast 41 = .ok (.aload_n 1, 1) := by decide +kernel
theorem d_M_finishLast_42 : decode c_M_finishLast 42 = .ok (.ifnull 14, 3) := by decide +kernel
theorem d_M_finishLast_45 : decode c_M_finishLast 45 = .ok (.aload_n 0, 1) := by decide +kernel
theorem d_M_finishLast_46 : decode c_M_finishLast 46 = .ok (.aload_n 1, 1) := by decide +kernel
theorem d_M_finishLast_47 : decode c_M_finishLast 47 = .ok (.invokevirtual 136, 3) := by decide +kernel
theorem d_M_finishLast_50 : decode c_M_finishLast 50 = .ok (.invokevirtual 124, 3) := by decide +kernel
theorem d_M_finishLast_53 : decode c_M_finishLast 53 = .ok (.goto 23, 3) := by decide +kernel
theorem d_M_finishLast_56 : decode c_M_finishLast 56 = .ok (.aload_n 0, 1) := by decide +kernel
theorem d_M_finishLast_57 : decode c_M_finishLast 57 = .ok (.iconst 2, 1) := by decide +kernel
theorem d_M_finishLast_58 : decode c_M_finishLast 58 = .ok (.invokevirtual 216, 3) := by decide +kernel
theorem d_M_finishLast_61 : decode c_M_finishLast 61 = .ok (.ifCond .eq 10, 3) := by decide +kernel
theorem d_M_finishLast_64 : decode c_M_finishLast 64 = .ok (.aload_n 0, 1) := by decide +kernel
theorem d_M_finishLast_65 : decode c_M_finishLast 65 = .ok (.invokevirtual 185, 3) := by decide +kernel
theorem d_M_finishLast_68 : decode c_M_finishLast 68 = .ok (.goto 8, 3) := by decide +kernel
theorem d_M_finishLast_71 : decode c_M_finishLast 71 = .ok (.aload_n 0, 1) := by decide +kernel
theorem d_M_finishLast_72 : decode c_M_finishLast 72 = .ok (.iconst 0, 1) := by decide +kernel
theorem d_M_finishLast_73 : decode c_M_finishLast 73 = .ok (.invokevirtual 124, 3) := by decide +kernel
theorem d_M_finishLast_76 : decode c_M_finishLast 76 = .ok (.return_, 1) := by decide +kernel
def m_M_finishLast : XM := ("CashLink$Machine", c_M_finishLast, 2, none, "finishLast", [], 10, 222)
def b_M_finishLast : XB := [(0, X_aload 0 1),
  (1, X_get 3 8),
  (4, X_if (fun x => x = 0) 23),
  (7, X_aload 0 1),
  (8, X_push (xv_i 4) 1),
  (9, X_invV 3 Y_M_has 1 []),
  (12, X_if (fun x => ¬ x = 0) 23),
  (15, X_aload 0 1),
  (16, X_push (xv_i 5) 1),
  (17, X_invV 3 Y_M_has 1 []),
  (20, X_if (fun x => x = 0) 24),
  (23, X_vret),
  (24, X_aload 0 1),
  (25, X_get 3 3),
  (28, X_push (xv_i 3) 1),
  (29, X_aload 0 1),
  (30, X_get 3 0),
  (33, X_aload 0 1),
  (34, X_get 3 8),
  (37, X_invV 4 Y_J_find 3 []),
  (40, X_astore 1 1),
  (41, X_aload 1 1),
  (42, X_ifnull 56),
  (45, X_aload 0 1),
  (46, X_aload 1 1),
  (47, X_invV 6 Y_E_value 0 []),
  (50, X_invV 3 Y_M_voidRest 1 []),
  (53, X_goto 76),
  (56, X_aload 0 1),
  (57, X_push (xv_i 2) 1),
  (58, X_invV 3 Y_M_has 1 []),
  (61, X_if (fun x => x = 0) 71),
  (64, X_aload 0 1),
  (65, X_invV 3 Y_M_endPayment 0 []),
  (68, X_goto 76),
  (71, X_aload 0 1),
  (72, X_push (xv_i 0) 1),
  (73, X_invV 3 Y_M_voidRest 1 []),
  (76, X_vret)]
set_option maxRecDepth 100000 in
theorem k_M_finishLast : x_bok m_M_finishLast b_M_finishLast := by
  unfold b_M_finishLast
  refine x_bok.cons (xs_aload_n d_M_finishLast_0 rfl) ?_
  refine x_bok.cons (xs_get d_M_finishLast_1 xc3 xw3 (by decide) q1_175 (Or.inl rfl)) ?_
  refine x_bok.cons (xs_if_eq d_M_finishLast_4 (by decide)) ?_
  refine x_bok.cons (xs_aload_n d_M_finishLast_7 rfl) ?_
  refine x_bok.cons (xs_iconst d_M_finishLast_8 (by decide)) ?_
  refine x_bok.cons (xs_invV d_M_finishLast_9 xc3 sn_M_has is_M_has ⟨q4_170, q4_172, (x_sel (x_p2 (List.mem_of_getElem? (i := 8) rfl))), q1_8⟩ (by decide) (by decide) rfl) ?_
  refine x_bok.cons (xs_if_ne d_M_finishLast_12 (by decide)) ?_
  refine x_bok.cons (xs_aload_n d_M_finishLast_15 rfl) ?_
  refine x_bok.cons (xs_iconst d_M_finishLast_16 (by decide)) ?_
  refine x_bok.cons (xs_invV d_M_finishLast_17 xc3 sn_M_has is_M_has ⟨q4_170, q4_172, (x_sel (x_p2 (List.mem_of_getElem? (i := 8) rfl))), q1_8⟩ (by decide) (by decide) rfl) ?_
  refine x_bok.cons (xs_if_eq d_M_finishLast_20 (by decide)) ?_
  refine x_bok.cons (xs_vret d_M_finishLast_23 rfl) ?_
  refine x_bok.cons (xs_aload_n d_M_finishLast_24 rfl) ?_
  refine x_bok.cons (xs_get d_M_finishLast_25 xc3 xw3 (by decide) q1_168 (Or.inl rfl)) ?_
  refine x_bok.cons (xs_iconst d_M_finishLast_28 (by decide)) ?_
  refine x_bok.cons (xs_aload_n d_M_finishLast_29 rfl) ?_
  refine x_bok.cons (xs_get d_M_finishLast_30 xc3 xw3 (by decide) q1_165 (Or.inl rfl)) ?_
  refine x_bok.cons (xs_aload_n d_M_finishLast_33 rfl) ?_
  refine x_bok.cons (xs_get d_M_finishLast_34 xc3 xw3 (by decide) q1_175 (Or.inl rfl)) ?_
  refine x_bok.cons (xs_invV d_M_finishLast_37 xc4 sn_J_find is_J_find ⟨q4_174, q3_211, q3_212, q1_7⟩ (by decide) (by decide) rfl) ?_
  refine x_bok.cons (xs_astore_n d_M_finishLast_40 rfl (by decide)) ?_
  refine x_bok.cons (xs_aload_n d_M_finishLast_41 rfl) ?_
  refine x_bok.cons (xs_ifnull d_M_finishLast_42 (by decide)) ?_
  refine x_bok.cons (xs_aload_n d_M_finishLast_45 rfl) ?_
  refine x_bok.cons (xs_aload_n d_M_finishLast_46 rfl) ?_
  refine x_bok.cons (xs_invV d_M_finishLast_47 xc6 sn_E_value is_E_value ⟨q3_107, q3_108, q3_109, q1_21⟩ (by decide) (by decide) rfl) ?_
  refine x_bok.cons (xs_invV d_M_finishLast_50 xc3 sn_M_voidRest is_M_voidRest ⟨q3_67, q3_69, (x_sel (x_p1 (List.mem_of_getElem? (i := 5) rfl))), q1_8⟩ (by decide) (by decide) rfl) ?_
  refine x_bok.cons (xs_goto d_M_finishLast_53 (by decide)) ?_
  refine x_bok.cons (xs_aload_n d_M_finishLast_56 rfl) ?_
  refine x_bok.cons (xs_iconst d_M_finishLast_57 (by decide)) ?_
  refine x_bok.cons (xs_invV d_M_finishLast_58 xc3 sn_M_has is_M_has ⟨q4_170, q4_172, (x_sel (x_p2 (List.mem_of_getElem? (i := 8) rfl))), q1_8⟩ (by decide) (by decide) rfl) ?_
  refine x_bok.cons (xs_if_eq d_M_finishLast_61 (by decide)) ?_
  refine x_bok.cons (xs_aload_n d_M_finishLast_64 rfl) ?_
  refine x_bok.cons (xs_invV d_M_finishLast_65 xc3 sn_M_endPayment is_M_endPayment ⟨q4_97, q4_99, (x_sel (x_p2 (List.mem_of_getElem? (i := 5) rfl))), q1_8⟩ (by decide) (by decide) rfl) ?_
  refine x_bok.cons (xs_goto d_M_finishLast_68 (by decide)) ?_
  refine x_bok.cons (xs_aload_n d_M_finishLast_71 rfl) ?_
  refine x_bok.cons (xs_iconst d_M_finishLast_72 (by decide)) ?_
  refine x_bok.cons (xs_invV d_M_finishLast_73 xc3 sn_M_voidRest is_M_voidRest ⟨q3_67, q3_69, (x_sel (x_p1 (List.mem_of_getElem? (i := 5) rfl))), q1_8⟩ (by decide) (by decide) rfl) ?_
  refine x_bok.cons (xs_vret d_M_finishLast_76 rfl) ?_
  exact x_bok.nil
set_option maxRecDepth 100000 in
theorem mn_M_finishLast : x_bmn b_M_finishLast := by
  unfold b_M_finishLast
  refine x_bmn.cons (xm_aload) ?_
  refine x_bmn.cons (xm_get) ?_
  refine x_bmn.cons (xm_if) ?_
  refine x_bmn.cons (xm_aload) ?_
  refine x_bmn.cons (xm_push) ?_
  refine x_bmn.cons (xm_invV ym_M_has) ?_
  refine x_bmn.cons (xm_if) ?_
  refine x_bmn.cons (xm_aload) ?_
  refine x_bmn.cons (xm_push) ?_
  refine x_bmn.cons (xm_invV ym_M_has) ?_
  refine x_bmn.cons (xm_if) ?_
  refine x_bmn.cons (xm_vret) ?_
  refine x_bmn.cons (xm_aload) ?_
  refine x_bmn.cons (xm_get) ?_
  refine x_bmn.cons (xm_push) ?_
  refine x_bmn.cons (xm_aload) ?_
  refine x_bmn.cons (xm_get) ?_
  refine x_bmn.cons (xm_aload) ?_
  refine x_bmn.cons (xm_get) ?_
  refine x_bmn.cons (xm_invV ym_J_find) ?_
  refine x_bmn.cons (xm_astore) ?_
  refine x_bmn.cons (xm_aload) ?_
  refine x_bmn.cons (xm_ifnull) ?_
  refine x_bmn.cons (xm_aload) ?_
  refine x_bmn.cons (xm_aload) ?_
  refine x_bmn.cons (xm_invV ym_E_value) ?_
  refine x_bmn.cons (xm_invV ym_M_voidRest) ?_
  refine x_bmn.cons (xm_goto) ?_
  refine x_bmn.cons (xm_aload) ?_
  refine x_bmn.cons (xm_push) ?_
  refine x_bmn.cons (xm_invV ym_M_has) ?_
  refine x_bmn.cons (xm_if) ?_
  refine x_bmn.cons (xm_aload) ?_
  refine x_bmn.cons (xm_invV ym_M_endPayment) ?_
  refine x_bmn.cons (xm_goto) ?_
  refine x_bmn.cons (xm_aload) ?_
  refine x_bmn.cons (xm_push) ?_
  refine x_bmn.cons (xm_invV ym_M_voidRest) ?_
  refine x_bmn.cons (xm_vret) ?_
  exact x_bmn.nil
theorem is_M_finishLast : x_Is y_M_finishLast m_M_finishLast := x_is_code q4_169
def Y_M_finishLast : XMeth := x_do 2 b_M_finishLast
theorem sn_M_finishLast : x_Snd y_M_finishLast m_M_finishLast Y_M_finishLast := x_snd_of (by decide) rfl rfl is_M_finishLast k_M_finishLast
theorem ym_M_finishLast : x_Ymn Y_M_finishLast := x_ymn_of mn_M_finishLast
/- CashLink$Machine.turnOn()I -/
abbrev c_M_turnOn : ByteArray := prog_6_method_16_code
def y_M_turnOn : MethodName := ⟨"CashLink$Machine", "turnOn", "()I"⟩
theorem d_M_turnOn_0 : decode c_M_turnOn 0 = .ok (.aload_n 0, 1) := by decide +kernel
theorem d_M_turnOn_1 : decode c_M_turnOn 1 = .ok (.getfield 14, 3) := by decide +kernel
theorem d_M_turnOn_4 : decode c_M_turnOn 4 = .ok (.invokevirtual 142, 3) := by decide +kernel
theorem d_M_turnOn_7 : decode c_M_turnOn 7 = .ok (.istore_n 1, 1) := by decide +kernel
theorem d_M_turnOn_8 : decode c_M_turnOn 8 = .ok (.aload_n 0, 1) := by decide +kernel
theorem d_M_turnOn_9 : decode c_M_turnOn 9 = .ok (.getfield 14, 3) := by decide +kernel
theorem d_M_turnOn_12 : decode c_M_turnOn 12 = .ok (.invokevirtual 204, 3) := by decide +kernel
theorem d_M_turnOn_15 : decode c_M_turnOn 15 = .ok (.aload_n 0, 1) := by decide +kernel
theorem d_M_turnOn_16 : decode c_M_turnOn 16 = .ok (.getstatic 25, 3) := by decide +kernel
theorem d_M_turnOn_19 : decode c_M_turnOn 19 = .ok (.putfield 31, 3) := by decide +kernel
theorem d_M_turnOn_22 : decode c_M_turnOn 22 = .ok (.aload_n 0, 1) := by decide +kernel
theorem d_M_turnOn_23 : decode c_M_turnOn 23 = .ok (.invokevirtual 207, 3) := by decide +kernel
theorem d_M_turnOn_26 : decode c_M_turnOn 26 = .ok (.aload_n 0, 1) := by decide +kernel
theorem d_M_turnOn_27 : decode c_M_turnOn 27 = .ok (.invokevirtual 210, 3) := by decide +kernel
theorem d_M_turnOn_30 : decode c_M_turnOn 30 = .ok (.iload_n 1, 1) := by decide +kernel
theorem d_M_turnOn_31 : decode c_M_turnOn 31 = .ok (.ireturn, 1) := by decide +kernel
def m_M_turnOn : XM := ("CashLink$Machine", c_M_turnOn, 2, (some .int), "turnOn", [], 11, 243)
def b_M_turnOn : XB := [(0, X_aload 0 1),
  (1, X_get 3 3),
  (4, X_invV 4 Y_J_size 0 []),
  (7, X_istore 1 1),
  (8, X_aload 0 1),
  (9, X_get 3 3),
  (12, X_invV 4 Y_J_turnOn 0 []),
  (15, X_aload 0 1),
  (16, X_push (xv_r 49 0) 3),
  (19, X_put x_tR 3 5),
  (22, X_aload 0 1),
  (23, X_invV 3 Y_M_recall 0 []),
  (26, X_aload 0 1),
  (27, X_invV 3 Y_M_finishLast 0 []),
  (30, X_iload 1 1),
  (31, X_iret)]
set_option maxRecDepth 100000 in
theorem k_M_turnOn : x_bok m_M_turnOn b_M_turnOn := by
  unfold b_M_turnOn
  refine x_bok.cons (xs_aload_n d_M_turnOn_0 rfl) ?_
  refine x_bok.cons (xs_get d_M_turnOn_1 xc3 xw3 (by decide) q1_168 (Or.inl rfl)) ?_
  refine x_bok.cons (xs_invV d_M_turnOn_4 xc4 sn_J_size is_J_size ⟨q3_130, q3_131, q3_132, q1_7⟩ (by decide) (by decide) rfl) ?_
  refine x_bok.cons (xs_istore_n d_M_turnOn_7 rfl (by decide)) ?_
  refine x_bok.cons (xs_aload_n d_M_turnOn_8 rfl) ?_
  refine x_bok.cons (xs_get d_M_turnOn_9 xc3 xw3 (by decide) q1_168 (Or.inl rfl)) ?_
  refine x_bok.cons (xs_invV d_M_turnOn_12 xc4 sn_J_turnOn is_J_turnOn ⟨q4_157, q4_150, q4_151, q1_7⟩ (by decide) (by decide) rfl) ?_
  refine x_bok.cons (xs_aload_n d_M_turnOn_15 rfl) ?_
  refine x_bok.cons (xs_gets d_M_turnOn_16 (List.mem_of_getElem? (i := 0) rfl) q1_161 (Or.inl rfl)) ?_
  refine x_bok.cons (xs_put d_M_turnOn_19 xc3 xw3 xt3 xn3 (by decide) q1_172 (Or.inl rfl) rfl rfl x_fitO) ?_
  refine x_bok.cons (xs_aload_n d_M_turnOn_22 rfl) ?_
  refine x_bok.cons (xs_invV d_M_turnOn_23 xc3 sn_M_recall is_M_recall ⟨q4_158, q4_160, (x_sel (x_p2 (List.mem_of_getElem? (i := 6) rfl))), q1_8⟩ (by decide) (by decide) rfl) ?_
  refine x_bok.cons (xs_aload_n d_M_turnOn_26 rfl) ?_
  refine x_bok.cons (xs_invV d_M_turnOn_27 xc3 sn_M_finishLast is_M_finishLast ⟨q4_166, q4_168, (x_sel (x_p2 (List.mem_of_getElem? (i := 7) rfl))), q1_8⟩ (by decide) (by decide) rfl) ?_
  refine x_bok.cons (xs_iload_n d_M_turnOn_30 rfl) ?_
  refine x_bok.cons (xs_iret d_M_turnOn_31 rfl) ?_
  exact x_bok.nil
set_option maxRecDepth 100000 in
theorem mn_M_turnOn : x_bmn b_M_turnOn := by
  unfold b_M_turnOn
  refine x_bmn.cons (xm_aload) ?_
  refine x_bmn.cons (xm_get) ?_
  refine x_bmn.cons (xm_invV ym_J_size) ?_
  refine x_bmn.cons (xm_istore) ?_
  refine x_bmn.cons (xm_aload) ?_
  refine x_bmn.cons (xm_get) ?_
  refine x_bmn.cons (xm_invV ym_J_turnOn) ?_
  refine x_bmn.cons (xm_aload) ?_
  refine x_bmn.cons (xm_push) ?_
  refine x_bmn.cons (xm_put) ?_
  refine x_bmn.cons (xm_aload) ?_
  refine x_bmn.cons (xm_invV ym_M_recall) ?_
  refine x_bmn.cons (xm_aload) ?_
  refine x_bmn.cons (xm_invV ym_M_finishLast) ?_
  refine x_bmn.cons (xm_iload) ?_
  refine x_bmn.cons (xm_iret) ?_
  exact x_bmn.nil
theorem is_M_turnOn : x_Is y_M_turnOn m_M_turnOn := x_is_code q4_156
def Y_M_turnOn : XMeth := x_do 2 b_M_turnOn
theorem sn_M_turnOn : x_Snd y_M_turnOn m_M_turnOn Y_M_turnOn := x_snd_of (by decide) rfl rfl is_M_turnOn k_M_turnOn
theorem ym_M_turnOn : x_Ymn Y_M_turnOn := x_ymn_of mn_M_turnOn
/- CashLink.on(I)I -/
abbrev c_C_on : ByteArray := prog_1_method_12_code
def y_C_on : MethodName := ⟨"CashLink", "on", "(I)I"⟩
theorem d_C_on_0 : decode c_C_on 0 = .ok (.iload_n 1, 1) := by decide +kernel
theorem d_C_on_1 : decode c_C_on 1 = .ok (.iconst 4, 1) := by decide +kernel
theorem d_C_on_2 : decode c_C_on 2 = .ok (.if_icmp .ne 13, 3) := by decide +kernel
theorem d_C_on_5 : decode c_C_on 5 = .ok (.aload_n 0, 1) := by decide +kernel
theorem d_C_on_6 : decode c_C_on 6 = .ok (.getfield 31, 3) := by decide +kernel
theorem d_C_on_9 : decode c_C_on 9 = .ok (.invokevirtual 126, 3) := by decide +kernel
theorem d_C_on_12 : decode c_C_on 12 = .ok (.goto 11, 3) := by decide +kernel
theorem d_C_on_15 : decode c_C_on 15 = .ok (.aload_n 0, 1) := by decide +kernel
theorem d_C_on_16 : decode c_C_on 16 = .ok (.iload_n 1, 1) := by decide +kernel
theorem d_C_on_17 : decode c_C_on 17 = .ok (.invokevirtual 38, 3) := by decide +kernel
theorem d_C_on_20 : decode c_C_on 20 = .ok (.invokevirtual 129, 3) := by decide +kernel
theorem d_C_on_23 : decode c_C_on 23 = .ok (.ireturn, 1) := by decide +kernel
def m_C_on : XM := ("CashLink", c_C_on, 2, (some .int), "on", [], 12, 264)
def b_C_on : XB := [(0, X_iload 1 1),
  (1, X_push (xv_i 4) 1),
  (2, X_icmp (fun x y => ¬ x = y) 15),
  (5, X_aload 0 1),
  (6, X_get 0 1),
  (9, X_invV 2 Y_B_turnOn 0 []),
  (12, X_goto 23),
  (15, X_aload 0 1),
  (16, X_iload 1 1),
  (17, X_invV 0 Y_C_machineAt 1 []),
  (20, X_invV 3 Y_M_turnOn 0 []),
  (23, X_iret)]
set_option maxRecDepth 100000 in
theorem k_C_on : x_bok m_C_on b_C_on := by
  unfold b_C_on
  refine x_bok.cons (xs_iload_n d_C_on_0 rfl) ?_
  refine x_bok.cons (xs_iconst d_C_on_1 (by decide)) ?_
  refine x_bok.cons (xs_icmp_ne d_C_on_2 (by decide)) ?_
  refine x_bok.cons (xs_aload_n d_C_on_5 rfl) ?_
  refine x_bok.cons (xs_get d_C_on_6 xc0 xw0 (by decide) q1_202 (Or.inl rfl)) ?_
  refine x_bok.cons (xs_invV d_C_on_9 xc2 sn_B_turnOn is_B_turnOn ⟨q4_145, q4_146, q4_147, q1_6⟩ (by decide) (by decide) rfl) ?_
  refine x_bok.cons (xs_goto d_C_on_12 (by decide)) ?_
  refine x_bok.cons (xs_aload_n d_C_on_15 rfl) ?_
  refine x_bok.cons (xs_iload_n d_C_on_16 rfl) ?_
  refine x_bok.cons (xs_invV d_C_on_17 xc0 sn_C_machineAt is_C_machineAt ⟨q1_223, q1_225, (x_sel (x_p1 (List.mem_of_getElem? (i := 0) rfl))), q1_1⟩ (by decide) (by decide) rfl) ?_
  refine x_bok.cons (xs_invV d_C_on_20 xc3 sn_M_turnOn is_M_turnOn ⟨q4_153, q4_154, q4_155, q1_8⟩ (by decide) (by decide) rfl) ?_
  refine x_bok.cons (xs_iret d_C_on_23 rfl) ?_
  exact x_bok.nil
set_option maxRecDepth 100000 in
theorem mn_C_on : x_bmn b_C_on := by
  unfold b_C_on
  refine x_bmn.cons (xm_iload) ?_
  refine x_bmn.cons (xm_push) ?_
  refine x_bmn.cons (xm_icmp) ?_
  refine x_bmn.cons (xm_aload) ?_
  refine x_bmn.cons (xm_get) ?_
  refine x_bmn.cons (xm_invV ym_B_turnOn) ?_
  refine x_bmn.cons (xm_goto) ?_
  refine x_bmn.cons (xm_aload) ?_
  refine x_bmn.cons (xm_iload) ?_
  refine x_bmn.cons (xm_invV ym_C_machineAt) ?_
  refine x_bmn.cons (xm_invV ym_M_turnOn) ?_
  refine x_bmn.cons (xm_iret) ?_
  exact x_bmn.nil
theorem is_C_on : x_Is y_C_on m_C_on := x_is_code q4_144
def Y_C_on : XMeth := x_do 2 b_C_on
theorem sn_C_on : x_Snd y_C_on m_C_on Y_C_on := x_snd_of (by decide) rfl rfl is_C_on k_C_on
theorem ym_C_on : x_Ymn Y_C_on := x_ymn_of mn_C_on
/- CashLinkLaw.on(LCashLink;I[J)I -/
abbrev c_L_on : ByteArray := method_13_code
def y_L_on : MethodName := ⟨"CashLinkLaw", "on", "(LCashLink;I[J)I"⟩
theorem d_L_on_0 : decode c_L_on 0 = .ok (.aload_n 2, 1) := by decide +kernel
theorem d_L_on_1 : decode c_L_on 1 = .ok (.iconst 0, 1) := by decide +kernel
theorem d_L_on_2 : decode c_L_on 2 = .ok (.aload_n 0, 1) := by decide +kernel
theorem d_L_on_3 : decode c_L_on 3 = .ok (.iload_n 1, 1) := by decide +kernel
theorem d_L_on_4 : decode c_L_on 4 = .ok (.invokevirtual 56, 3) := by decide +kernel
theorem d_L_on_7 : decode c_L_on 7 = .ok (.i2l, 1) := by decide +kernel
theorem d_L_on_8 : decode c_L_on 8 = .ok (.lastore, 1) := by decide +kernel
theorem d_L_on_9 : decode c_L_on 9 = .ok (.goto 9, 3) := by decide +kernel
theorem d_L_on_12 : decode c_L_on 12 = .ok (.astore_n 3, 1) := by decide +kernel
theorem d_L_on_13 : decode c_L_on 13 = .ok (.iconst 1, 1) := by decide +kernel
theorem d_L_on_14 : decode c_L_on 14 = .ok (.ireturn, 1) := by decide +kernel
theorem d_L_on_15 : decode c_L_on 15 = .ok (.astore_n 3, 1) := by decide +kernel
theorem d_L_on_16 : decode c_L_on 16 = .ok (.iconst 2, 1) := by decide +kernel
theorem d_L_on_17 : decode c_L_on 17 = .ok (.ireturn, 1) := by decide +kernel
theorem d_L_on_18 : decode c_L_on 18 = .ok (.iconst 0, 1) := by decide +kernel
theorem d_L_on_19 : decode c_L_on 19 = .ok (.ireturn, 1) := by decide +kernel
def m_L_on : XM := ("CashLinkLaw", c_L_on, 4, (some .int), "on", [(0, 9, 12, 13), (0, 9, 15, 27)], 13, 285)
theorem h_L_on_4 : x_hok m_L_on 4 [(11, 12), (14, 15)] := by
  intro ci h hc
  by_cases e0 : ci = 11
  · subst e0
    have hh : h = 12 := (Option.some.inj (hc.symm.trans (by rfl : x_catch [(11, 12), (14, 15)] 11 = some 12)))
    subst hh
    refine ⟨"java/lang/IllegalArgumentException", xT11, 0, [], ⟨0, 9, 12, 13⟩, [⟨0, 9, 15, 27⟩], rfl, rfl, rfl, rfl, by decide, q1_217, ?_⟩
    intro z hz
    cases hz
  by_cases e1 : ci = 14
  · subst e1
    have hh : h = 15 := (Option.some.inj (hc.symm.trans (by rfl : x_catch [(11, 12), (14, 15)] 14 = some 15)))
    subst hh
    refine ⟨"java/lang/ArithmeticException", xT14, 0, [⟨0, 9, 12, 13⟩], ⟨0, 9, 15, 27⟩, [], rfl, rfl, rfl, rfl, by decide, q2_109, ?_⟩
    intro z hz
    simp only [List.mem_cons, List.not_mem_nil, or_false] at hz
    rcases hz with rfl
    · exact Or.inr ⟨by decide, "java/lang/IllegalArgumentException", q1_217, x_inN 2 rfl⟩
  exfalso
  simp only [x_catch] at hc
  rw [if_neg (fun q => e0 q.symm)] at hc
  rw [if_neg (fun q => e1 q.symm)] at hc
  cases hc
def b_L_on : XB := [(0, X_aload 2 1),
  (1, X_push (xv_i 0) 1),
  (2, X_aload 0 1),
  (3, X_iload 1 1),
  (4, X_invV 0 Y_C_on 1 [(11, 12), (14, 15)]),
  (7, X_i2l),
  (8, X_last 1),
  (9, X_goto 18),
  (12, X_astore 3 1),
  (13, X_push (xv_i 1) 1),
  (14, X_iret),
  (15, X_astore 3 1),
  (16, X_push (xv_i 2) 1),
  (17, X_iret),
  (18, X_push (xv_i 0) 1),
  (19, X_iret)]
set_option maxRecDepth 100000 in
theorem k_L_on : x_bok m_L_on b_L_on := by
  unfold b_L_on
  refine x_bok.cons (xs_aload_n d_L_on_0 rfl) ?_
  refine x_bok.cons (xs_iconst d_L_on_1 (by decide)) ?_
  refine x_bok.cons (xs_aload_n d_L_on_2 rfl) ?_
  refine x_bok.cons (xs_iload_n d_L_on_3 rfl) ?_
  refine x_bok.cons (xs_invV d_L_on_4 xc0 sn_C_on is_C_on ⟨q4_141, q4_142, q4_143, q1_1⟩ (by decide) (by decide) h_L_on_4) ?_
  refine x_bok.cons (xs_i2l d_L_on_7) ?_
  refine x_bok.cons (xs_last d_L_on_8 rfl) ?_
  refine x_bok.cons (xs_goto d_L_on_9 (by decide)) ?_
  refine x_bok.cons (xs_astore_n d_L_on_12 rfl (by decide)) ?_
  refine x_bok.cons (xs_iconst d_L_on_13 (by decide)) ?_
  refine x_bok.cons (xs_iret d_L_on_14 rfl) ?_
  refine x_bok.cons (xs_astore_n d_L_on_15 rfl (by decide)) ?_
  refine x_bok.cons (xs_iconst d_L_on_16 (by decide)) ?_
  refine x_bok.cons (xs_iret d_L_on_17 rfl) ?_
  refine x_bok.cons (xs_iconst d_L_on_18 (by decide)) ?_
  refine x_bok.cons (xs_iret d_L_on_19 rfl) ?_
  exact x_bok.nil
set_option maxRecDepth 100000 in
theorem mn_L_on : x_bmn b_L_on := by
  unfold b_L_on
  refine x_bmn.cons (xm_aload) ?_
  refine x_bmn.cons (xm_push) ?_
  refine x_bmn.cons (xm_aload) ?_
  refine x_bmn.cons (xm_iload) ?_
  refine x_bmn.cons (xm_invV ym_C_on) ?_
  refine x_bmn.cons (xm_i2l) ?_
  refine x_bmn.cons (xm_last) ?_
  refine x_bmn.cons (xm_goto) ?_
  refine x_bmn.cons (xm_astore) ?_
  refine x_bmn.cons (xm_push) ?_
  refine x_bmn.cons (xm_iret) ?_
  refine x_bmn.cons (xm_astore) ?_
  refine x_bmn.cons (xm_push) ?_
  refine x_bmn.cons (xm_iret) ?_
  refine x_bmn.cons (xm_push) ?_
  refine x_bmn.cons (xm_iret) ?_
  exact x_bmn.nil
theorem is_L_on : x_Is y_L_on m_L_on := x_is_with q4_140
def Y_L_on : XMeth := x_do 4 b_L_on
theorem sn_L_on : x_Snd y_L_on m_L_on Y_L_on := x_snd_of (by decide) rfl rfl is_L_on k_L_on
theorem ym_L_on : x_Ymn Y_L_on := x_ymn_of mn_L_on
/- CashLink$Machine.tell(I)I -/
abbrev c_M_tell : ByteArray := prog_6_method_21_code
def y_M_tell : MethodName := ⟨"CashLink$Machine", "tell", "(I)I"⟩
theorem d_M_tell_0 : decode c_M_tell 0 = .ok (.iload_n 1, 1) := by decide +kernel
theorem d_M_tell_1 : decode c_M_tell 1 = .ok (.iconst 3, 1) := by decide +kernel
theorem d_M_tell_2 : decode c_M_tell 2 = .ok (.if_icmp .ne 11, 3) := by decide +kernel
theorem d_M_tell_5 : decode c_M_tell 5 = .ok (.aload_n 0, 1) := by decide +kernel
theorem d_M_tell_6 : decode c_M_tell 6 = .ok (.getfield 14, 3) := by decide +kernel
theorem d_M_tell_9 : decode c_M_tell 9 = .ok (.invokevirtual 142, 3) := by decide +kernel
theorem d_M_tell_12 : decode c_M_tell 12 = .ok (.ireturn, 1) := by decide +kernel
theorem d_M_tell_13 : decode c_M_tell 13 = .ok (.aload_n 0, 1) := by decide +kernel
theorem d_M_tell_14 : decode c_M_tell 14 = .ok (.getfield 14, 3) := by decide +kernel
theorem d_M_tell_17 : decode c_M_tell 17 = .ok (.invokevirtual 53, 3) := by decide +kernel
theorem d_M_tell_20 : decode c_M_tell 20 = .ok (.ifCond .ne 13, 3) := by decide +kernel
theorem d_M_tell_23 : decode c_M_tell 23 = .ok (.iload_n 1, 1) := by decide +kernel
theorem d_M_tell_24 : decode c_M_tell 24 = .ok (.ifCond .ne 7, 3) := by decide +kernel
theorem d_M_tell_27 : decode c_M_tell 27 = .ok (.iconst 0, 1) := by decide +kernel
theorem d_M_tell_28 : decode c_M_tell 28 = .ok (.goto 4, 3) := by decide +kernel
theorem d_M_tell_31 : decode c_M_tell 31 = .ok (.iconst (-1), 1) := by decide +kernel
theorem d_M_tell_32 : decode c_M_tell 32 = .ok (.ireturn, 1) := by decide +kernel
theorem d_M_tell_33 : decode c_M_tell 33 = .ok (.iload_n 1, 1) := by decide +kernel
theorem d_M_tell_34 : decode c_M_tell 34 = .ok (.ifCond .ne 11, 3) := by decide +kernel
theorem d_M_tell_37 : decode c_M_tell 37 = .ok (.aload_n 0, 1) := by decide +kernel
theorem d_M_tell_38 : decode c_M_tell 38 = .ok (.getfield 31, 3) := by decide +kernel
theorem d_M_tell_41 : decode c_M_tell 41 = .ok (.getfield 226, 3) := by decide +kernel
theorem d_M_tell_44 : decode c_M_tell 44 = .ok (.ireturn, 1) := by decide +kernel
theorem d_M_tell_45 : decode c_M_tell 45 = .ok (.iload_n 1, 1) := by decide +kernel
theorem d_M_tell_46 : decode c_M_tell 46 = .ok (.iconst 1, 1) := by decide +kernel
theorem d_M_tell_47 : decode c_M_tell 47 = .ok (.if_icmp .ne 10, 3) := by decide +kernel
theorem d_M_tell_50 : decode c_M_tell 50 = .ok (.aload_n 0, 1) := by decide +kernel
theorem d_M_tell_51 : decode c_M_tell 51 = .ok (.getfield 96, 3) := by decide +kernel
theorem d_M_tell_54 : decode c_M_tell 54 = .ok (.goto 10, 3) := by decide +kernel
theorem d_M_tell_57 : decode c_M_tell 57 = .ok (.aload_n 0, 1) := by decide +kernel
theorem d_M_tell_58 : decode c_M_tell 58 = .ok (.getfield 37, 3) := by decide +kernel
theorem d_M_tell_61 : decode c_M_tell 61 = .ok (.invokevirtual 79, 3) := by decide +kernel
theorem d_M_tell_64 : decode c_M_tell 64 = .ok (.ireturn, 1) := by decide +kernel
def m_M_tell : XM := ("CashLink$Machine", c_M_tell, 2, (some .int), "tell", [], 2, 40)
def b_M_tell : XB := [(0, X_iload 1 1),
  (1, X_push (xv_i 3) 1),
  (2, X_icmp (fun x y => ¬ x = y) 13),
  (5, X_aload 0 1),
  (6, X_get 3 3),
  (9, X_invV 4 Y_J_size 0 []),
  (12, X_iret),
  (13, X_aload 0 1),
  (14, X_get 3 3),
  (17, X_invV 4 Y_J_isOn 0 []),
  (20, X_if (fun x => ¬ x = 0) 33),
  (23, X_iload 1 1),
  (24, X_if (fun x => ¬ x = 0) 31),
  (27, X_push (xv_i 0) 1),
  (28, X_goto 32),
  (31, X_push (xv_i (-1)) 1),
  (32, X_iret),
  (33, X_iload 1 1),
  (34, X_if (fun x => ¬ x = 0) 45),
  (37, X_aload 0 1),
  (38, X_get 3 5),
  (41, X_getE 20 0),
  (44, X_iret),
  (45, X_iload 1 1),
  (46, X_push (xv_i 1) 1),
  (47, X_icmp (fun x y => ¬ x = y) 57),
  (50, X_aload 0 1),
  (51, X_get 3 8),
  (54, X_goto 64),
  (57, X_aload 0 1),
  (58, X_get 3 10),
  (61, X_invV 8 Y_A_size 0 []),
  (64, X_iret)]
set_option maxRecDepth 100000 in
theorem k_M_tell : x_bok m_M_tell b_M_tell := by
  unfold b_M_tell
  refine x_bok.cons (xs_iload_n d_M_tell_0 rfl) ?_
  refine x_bok.cons (xs_iconst d_M_tell_1 (by decide)) ?_
  refine x_bok.cons (xs_icmp_ne d_M_tell_2 (by decide)) ?_
  refine x_bok.cons (xs_aload_n d_M_tell_5 rfl) ?_
  refine x_bok.cons (xs_get d_M_tell_6 xc3 xw3 (by decide) q1_168 (Or.inl rfl)) ?_
  refine x_bok.cons (xs_invV d_M_tell_9 xc4 sn_J_size is_J_size ⟨q3_130, q3_131, q3_132, q1_7⟩ (by decide) (by decide) rfl) ?_
  refine x_bok.cons (xs_iret d_M_tell_12 rfl) ?_
  refine x_bok.cons (xs_aload_n d_M_tell_13 rfl) ?_
  refine x_bok.cons (xs_get d_M_tell_14 xc3 xw3 (by decide) q1_168 (Or.inl rfl)) ?_
  refine x_bok.cons (xs_invV d_M_tell_17 xc4 sn_J_isOn is_J_isOn ⟨q2_67, q2_68, q2_69, q1_7⟩ (by decide) (by decide) rfl) ?_
  refine x_bok.cons (xs_if_ne d_M_tell_20 (by decide)) ?_
  refine x_bok.cons (xs_iload_n d_M_tell_23 rfl) ?_
  refine x_bok.cons (xs_if_ne d_M_tell_24 (by decide)) ?_
  refine x_bok.cons (xs_iconst d_M_tell_27 (by decide)) ?_
  refine x_bok.cons (xs_goto d_M_tell_28 (by decide)) ?_
  refine x_bok.cons (xs_iconst d_M_tell_31 (by decide)) ?_
  refine x_bok.cons (xs_iret d_M_tell_32 rfl) ?_
  refine x_bok.cons (xs_iload_n d_M_tell_33 rfl) ?_
  refine x_bok.cons (xs_if_ne d_M_tell_34 (by decide)) ?_
  refine x_bok.cons (xs_aload_n d_M_tell_37 rfl) ?_
  refine x_bok.cons (xs_get d_M_tell_38 xc3 xw3 (by decide) q1_172 (Or.inl rfl)) ?_
  refine x_bok.cons (xs_getE d_M_tell_41 rfl q7_22 (Or.inl rfl)) ?_
  refine x_bok.cons (xs_iret d_M_tell_44 rfl) ?_
  refine x_bok.cons (xs_iload_n d_M_tell_45 rfl) ?_
  refine x_bok.cons (xs_iconst d_M_tell_46 (by decide)) ?_
  refine x_bok.cons (xs_icmp_ne d_M_tell_47 (by decide)) ?_
  refine x_bok.cons (xs_aload_n d_M_tell_50 rfl) ?_
  refine x_bok.cons (xs_get d_M_tell_51 xc3 xw3 (by decide) q1_175 (Or.inl rfl)) ?_
  refine x_bok.cons (xs_goto d_M_tell_54 (by decide)) ?_
  refine x_bok.cons (xs_aload_n d_M_tell_57 rfl) ?_
  refine x_bok.cons (xs_get d_M_tell_58 xc3 xw3 (by decide) q1_177 (Or.inl rfl)) ?_
  refine x_bok.cons (xs_invV d_M_tell_61 xc8 sn_A_size is_A_size ⟨q2_125, q2_126, q2_127, q1_5⟩ (by decide) (by decide) rfl) ?_
  refine x_bok.cons (xs_iret d_M_tell_64 rfl) ?_
  exact x_bok.nil
set_option maxRecDepth 100000 in
theorem mn_M_tell : x_bmn b_M_tell := by
  unfold b_M_tell
  refine x_bmn.cons (xm_iload) ?_
  refine x_bmn.cons (xm_push) ?_
  refine x_bmn.cons (xm_icmp) ?_
  refine x_bmn.cons (xm_aload) ?_
  refine x_bmn.cons (xm_get) ?_
  refine x_bmn.cons (xm_invV ym_J_size) ?_
  refine x_bmn.cons (xm_iret) ?_
  refine x_bmn.cons (xm_aload) ?_
  refine x_bmn.cons (xm_get) ?_
  refine x_bmn.cons (xm_invV ym_J_isOn) ?_
  refine x_bmn.cons (xm_if) ?_
  refine x_bmn.cons (xm_iload) ?_
  refine x_bmn.cons (xm_if) ?_
  refine x_bmn.cons (xm_push) ?_
  refine x_bmn.cons (xm_goto) ?_
  refine x_bmn.cons (xm_push) ?_
  refine x_bmn.cons (xm_iret) ?_
  refine x_bmn.cons (xm_iload) ?_
  refine x_bmn.cons (xm_if) ?_
  refine x_bmn.cons (xm_aload) ?_
  refine x_bmn.cons (xm_get) ?_
  refine x_bmn.cons (xm_getE) ?_
  refine x_bmn.cons (xm_iret) ?_
  refine x_bmn.cons (xm_iload) ?_
  refine x_bmn.cons (xm_push) ?_
  refine x_bmn.cons (xm_icmp) ?_
  refine x_bmn.cons (xm_aload) ?_
  refine x_bmn.cons (xm_get) ?_
  refine x_bmn.cons (xm_goto) ?_
  refine x_bmn.cons (xm_aload) ?_
  refine x_bmn.cons (xm_get) ?_
  refine x_bmn.cons (xm_invV ym_A_size) ?_
  refine x_bmn.cons (xm_iret) ?_
  exact x_bmn.nil
theorem is_M_tell : x_Is y_M_tell m_M_tell := x_is_code q4_185
def Y_M_tell : XMeth := x_do 2 b_M_tell
theorem sn_M_tell : x_Snd y_M_tell m_M_tell Y_M_tell := x_snd_of (by decide) rfl rfl is_M_tell k_M_tell
theorem ym_M_tell : x_Ymn Y_M_tell := x_ymn_of mn_M_tell
/- CashLink$Dispenser.tell(I)I -/
abbrev c_D_tell : ByteArray := prog_3_method_7_code
def y_D_tell : MethodName := ⟨"CashLink$Dispenser", "tell", "(I)I"⟩
theorem d_D_tell_0 : decode c_D_tell 0 = .ok (.iload_n 1, 1) := by decide +kernel
theorem d_D_tell_1 : decode c_D_tell 1 = .ok (.iconst 4, 1) := by decide +kernel
theorem d_D_tell_2 : decode c_D_tell 2 = .ok (.if_icmp .lt 18, 3) := by decide +kernel
theorem d_D_tell_5 : decode c_D_tell 5 = .ok (.iload_n 1, 1) := by decide +kernel
theorem d_D_tell_6 : decode c_D_tell 6 = .ok (.bipush 7, 2) := by decide +kernel
theorem d_D_tell_8 : decode c_D_tell 8 = .ok (.if_icmp .gt 12, 3) := by decide +kernel
theorem d_D_tell_11 : decode c_D_tell 11 = .ok (.aload_n 0, 1) := by decide +kernel
theorem d_D_tell_12 : decode c_D_tell 12 = .ok (.getfield 9, 3) := by decide +kernel
theorem d_D_tell_15 : decode c_D_tell 15 = .ok (.iload_n 1, 1) := by decide +kernel
theorem d_D_tell_16 : decode c_D_tell 16 = .ok (.iconst 4, 1) := by decide +kernel
theorem d_D_tell_17 : decode c_D_tell 17 = .ok (.isub, 1) := by decide +kernel
theorem d_D_tell_18 : decode c_D_tell 18 = .ok (.iaload, 1) := by decide +kernel
theorem d_D_tell_19 : decode c_D_tell 19 = .ok (.ireturn, 1) := by decide +kernel
theorem d_D_tell_20 : decode c_D_tell 20 = .ok (.iload_n 1, 1) := by decide +kernel
theorem d_D_tell_21 : decode c_D_tell 21 = .ok (.bipush 8, 2) := by decide +kernel
theorem d_D_tell_23 : decode c_D_tell 23 = .ok (.if_icmp .ne 8, 3) := by decide +kernel
theorem d_D_tell_26 : decode c_D_tell 26 = .ok (.aload_n 0, 1) := by decide +kernel
theorem d_D_tell_27 : decode c_D_tell 27 = .ok (.getfield 29, 3) := by decide +kernel
theorem d_D_tell_30 : decode c_D_tell 30 = .ok (.ireturn, 1) := by decide +kernel
theorem d_D_tell_31 : decode c_D_tell 31 = .ok (.iload_n 1, 1) := by decide +kernel
theorem d_D_tell_32 : decode c_D_tell 32 = .ok (.bipush 9, 2) := by decide +kernel
theorem d_D_tell_34 : decode c_D_tell 34 = .ok (.if_icmp .ne 10, 3) := by decide +kernel
theorem d_D_tell_37 : decode c_D_tell 37 = .ok (.aload_n 0, 1) := by decide +kernel
theorem d_D_tell_38 : decode c_D_tell 38 = .ok (.getfield 38, 3) := by decide +kernel
theorem d_D_tell_41 : decode c_D_tell 41 = .ok (.goto 7, 3) := by decide +kernel
theorem d_D_tell_44 : decode c_D_tell 44 = .ok (.aload_n 0, 1) := by decide +kernel
theorem d_D_tell_45 : decode c_D_tell 45 = .ok (.getfield 41, 3) := by decide +kernel
theorem d_D_tell_48 : decode c_D_tell 48 = .ok (.ireturn, 1) := by decide +kernel
def m_D_tell : XM := ("CashLink$Dispenser", c_D_tell, 2, (some .int), "tell", [], 0, 0)
def b_D_tell : XB := [(0, X_iload 1 1),
  (1, X_push (xv_i 4) 1),
  (2, X_icmp (fun x y => x < y) 20),
  (5, X_iload 1 1),
  (6, X_push (xv_i 7) 2),
  (8, X_icmp (fun x y => y < x) 20),
  (11, X_aload 0 1),
  (12, X_get 5 0),
  (15, X_iload 1 1),
  (16, X_push (xv_i 4) 1),
  (17, X_bin (fun x y => x - y)),
  (18, X_ald 0),
  (19, X_iret),
  (20, X_iload 1 1),
  (21, X_push (xv_i 8) 2),
  (23, X_icmp (fun x y => ¬ x = y) 31),
  (26, X_aload 0 1),
  (27, X_get 5 2),
  (30, X_iret),
  (31, X_iload 1 1),
  (32, X_push (xv_i 9) 2),
  (34, X_icmp (fun x y => ¬ x = y) 44),
  (37, X_aload 0 1),
  (38, X_get 5 3),
  (41, X_goto 48),
  (44, X_aload 0 1),
  (45, X_get 5 4),
  (48, X_iret)]
set_option maxRecDepth 100000 in
theorem k_D_tell : x_bok m_D_tell b_D_tell := by
  unfold b_D_tell
  refine x_bok.cons (xs_iload_n d_D_tell_0 rfl) ?_
  refine x_bok.cons (xs_iconst d_D_tell_1 (by decide)) ?_
  refine x_bok.cons (xs_icmp_lt d_D_tell_2 (by decide)) ?_
  refine x_bok.cons (xs_iload_n d_D_tell_5 rfl) ?_
  refine x_bok.cons (xs_bipush d_D_tell_6 (by decide)) ?_
  refine x_bok.cons (xs_icmp_gt d_D_tell_8 (by decide)) ?_
  refine x_bok.cons (xs_aload_n d_D_tell_11 rfl) ?_
  refine x_bok.cons (xs_get d_D_tell_12 xc5 xw5 (by decide) q1_144 (Or.inl rfl)) ?_
  refine x_bok.cons (xs_iload_n d_D_tell_15 rfl) ?_
  refine x_bok.cons (xs_iconst d_D_tell_16 (by decide)) ?_
  refine x_bok.cons (xs_isub d_D_tell_17) ?_
  refine x_bok.cons (xs_iald d_D_tell_18 rfl) ?_
  refine x_bok.cons (xs_iret d_D_tell_19 rfl) ?_
  refine x_bok.cons (xs_iload_n d_D_tell_20 rfl) ?_
  refine x_bok.cons (xs_bipush d_D_tell_21 (by decide)) ?_
  refine x_bok.cons (xs_icmp_ne d_D_tell_23 (by decide)) ?_
  refine x_bok.cons (xs_aload_n d_D_tell_26 rfl) ?_
  refine x_bok.cons (xs_get d_D_tell_27 xc5 xw5 (by decide) q1_147 (Or.inl rfl)) ?_
  refine x_bok.cons (xs_iret d_D_tell_30 rfl) ?_
  refine x_bok.cons (xs_iload_n d_D_tell_31 rfl) ?_
  refine x_bok.cons (xs_bipush d_D_tell_32 (by decide)) ?_
  refine x_bok.cons (xs_icmp_ne d_D_tell_34 (by decide)) ?_
  refine x_bok.cons (xs_aload_n d_D_tell_37 rfl) ?_
  refine x_bok.cons (xs_get d_D_tell_38 xc5 xw5 (by decide) q1_148 (Or.inl rfl)) ?_
  refine x_bok.cons (xs_goto d_D_tell_41 (by decide)) ?_
  refine x_bok.cons (xs_aload_n d_D_tell_44 rfl) ?_
  refine x_bok.cons (xs_get d_D_tell_45 xc5 xw5 (by decide) q1_149 (Or.inl rfl)) ?_
  refine x_bok.cons (xs_iret d_D_tell_48 rfl) ?_
  exact x_bok.nil
set_option maxRecDepth 100000 in
theorem mn_D_tell : x_bmn b_D_tell := by
  unfold b_D_tell
  refine x_bmn.cons (xm_iload) ?_
  refine x_bmn.cons (xm_push) ?_
  refine x_bmn.cons (xm_icmp) ?_
  refine x_bmn.cons (xm_iload) ?_
  refine x_bmn.cons (xm_push) ?_
  refine x_bmn.cons (xm_icmp) ?_
  refine x_bmn.cons (xm_aload) ?_
  refine x_bmn.cons (xm_get) ?_
  refine x_bmn.cons (xm_iload) ?_
  refine x_bmn.cons (xm_push) ?_
  refine x_bmn.cons (xm_bin) ?_
  refine x_bmn.cons (xm_ald) ?_
  refine x_bmn.cons (xm_iret) ?_
  refine x_bmn.cons (xm_iload) ?_
  refine x_bmn.cons (xm_push) ?_
  refine x_bmn.cons (xm_icmp) ?_
  refine x_bmn.cons (xm_aload) ?_
  refine x_bmn.cons (xm_get) ?_
  refine x_bmn.cons (xm_iret) ?_
  refine x_bmn.cons (xm_iload) ?_
  refine x_bmn.cons (xm_push) ?_
  refine x_bmn.cons (xm_icmp) ?_
  refine x_bmn.cons (xm_aload) ?_
  refine x_bmn.cons (xm_get) ?_
  refine x_bmn.cons (xm_goto) ?_
  refine x_bmn.cons (xm_aload) ?_
  refine x_bmn.cons (xm_get) ?_
  refine x_bmn.cons (xm_iret) ?_
  exact x_bmn.nil
theorem is_D_tell : x_Is y_D_tell m_D_tell := x_is_code q4_189
def Y_D_tell : XMeth := x_do 2 b_D_tell
theorem sn_D_tell : x_Snd y_D_tell m_D_tell Y_D_tell := x_snd_of (by decide) rfl rfl is_D_tell k_D_tell
theorem ym_D_tell : x_Ymn Y_D_tell := x_ymn_of mn_D_tell
/- CashLink.told(II)I -/
abbrev c_C_told : ByteArray := prog_1_method_13_code
def y_C_told : MethodName := ⟨"CashLink", "told", "(II)I"⟩
theorem d_C_told_0 : decode c_C_told 0 = .ok (.aload_n 0, 1) := by decide +kernel
theorem d_C_told_1 : decode c_C_told 1 = .ok (.iload_n 1, 1) := by decide +kernel
theorem d_C_told_2 : decode c_C_told 2 = .ok (.invokevirtual 38, 3) := by decide +kernel
theorem d_C_told_5 : decode c_C_told 5 = .ok (.astore_n 3, 1) := by decide +kernel
theorem d_C_told_6 : decode c_C_told 6 = .ok (.iload_n 2, 1) := by decide +kernel
theorem d_C_told_7 : decode c_C_told 7 = .ok (.ifCond .lt 13, 3) := by decide +kernel
theorem d_C_told_10 : decode c_C_told 10 = .ok (.iload_n 2, 1) := by decide +kernel
theorem d_C_told_11 : decode c_C_told 11 = .ok (.bipush 10, 2) := by decide +kernel
theorem d_C_told_13 : decode c_C_told 13 = .ok (.if_icmp .gt 7, 3) := by decide +kernel
theorem d_C_told_16 : decode c_C_told 16 = .ok (.iconst 1, 1) := by decide +kernel
theorem d_C_told_17 : decode c_C_told 17 = .ok (.goto 4, 3) := by decide +kernel
theorem d_C_told_20 : decode c_C_told 20 = .ok (.iconst 0, 1) := by decide +kernel
theorem d_C_told_21 : decode c_C_told 21 = .ok (.invokestatic 46, 3) := by decide +kernel
theorem d_C_told_24 : decode c_C_told 24 = .ok (.iload_n 2, 1) := by decide +kernel
theorem d_C_told_25 : decode c_C_told 25 = .ok (.iconst 3, 1) := by decide +kernel
theorem d_C_told_26 : decode c_C_told 26 = .ok (.if_icmp .gt 11, 3) := by decide +kernel
theorem d_C_told_29 : decode c_C_told 29 = .ok (.aload_n 3, 1) := by decide +kernel
theorem d_C_told_30 : decode c_C_told 30 = .ok (.iload_n 2, 1) := by decide +kernel
theorem d_C_told_31 : decode c_C_told 31 = .ok (.invokevirtual 130, 3) := by decide +kernel
theorem d_C_told_34 : decode c_C_told 34 = .ok (.goto 11, 3) := by decide +kernel
theorem d_C_told_37 : decode c_C_told 37 = .ok (.aload_n 3, 1) := by decide +kernel
theorem d_C_told_38 : decode c_C_told 38 = .ok (.getfield 100, 3) := by decide +kernel
theorem d_C_told_41 : decode c_C_told 41 = .ok (.iload_n 2, 1) := by decide +kernel
theorem d_C_told_42 : decode c_C_told 42 = .ok (.invokevirtual 133, 3) := by decide +kernel
theorem d_C_told_45 : decode c_C_told 45 = .ok (.ireturn, 1) := by decide +kernel
def m_C_told : XM := ("CashLink", c_C_told, 4, (some .int), "told", [], 8, 131)
def b_C_told : XB := [(0, X_aload 0 1),
  (1, X_iload 1 1),
  (2, X_invV 0 Y_C_machineAt 1 []),
  (5, X_astore 3 1),
  (6, X_iload 2 1),
  (7, X_if (fun x => x < 0) 20),
  (10, X_iload 2 1),
  (11, X_push (xv_i 10) 2),
  (13, X_icmp (fun x y => y < x) 20),
  (16, X_push (xv_i 1) 1),
  (17, X_goto 21),
  (20, X_push (xv_i 0) 1),
  (21, X_invS Y_C_allow 1 []),
  (24, X_iload 2 1),
  (25, X_push (xv_i 3) 1),
  (26, X_icmp (fun x y => y < x) 37),
  (29, X_aload 3 1),
  (30, X_iload 2 1),
  (31, X_invV 3 Y_M_tell 1 []),
  (34, X_goto 45),
  (37, X_aload 3 1),
  (38, X_get 3 4),
  (41, X_iload 2 1),
  (42, X_invV 5 Y_D_tell 1 []),
  (45, X_iret)]
set_option maxRecDepth 100000 in
theorem k_C_told : x_bok m_C_told b_C_told := by
  unfold b_C_told
  refine x_bok.cons (xs_aload_n d_C_told_0 rfl) ?_
  refine x_bok.cons (xs_iload_n d_C_told_1 rfl) ?_
  refine x_bok.cons (xs_invV d_C_told_2 xc0 sn_C_machineAt is_C_machineAt ⟨q1_223, q1_225, (x_sel (x_p1 (List.mem_of_getElem? (i := 0) rfl))), q1_1⟩ (by decide) (by decide) rfl) ?_
  refine x_bok.cons (xs_astore_n d_C_told_5 rfl (by decide)) ?_
  refine x_bok.cons (xs_iload_n d_C_told_6 rfl) ?_
  refine x_bok.cons (xs_if_lt d_C_told_7 (by decide)) ?_
  refine x_bok.cons (xs_iload_n d_C_told_10 rfl) ?_
  refine x_bok.cons (xs_bipush d_C_told_11 (by decide)) ?_
  refine x_bok.cons (xs_icmp_gt d_C_told_13 (by decide)) ?_
  refine x_bok.cons (xs_iconst d_C_told_16 (by decide)) ?_
  refine x_bok.cons (xs_goto d_C_told_17 (by decide)) ?_
  refine x_bok.cons (xs_iconst d_C_told_20 (by decide)) ?_
  refine x_bok.cons (xs_invS d_C_told_21 sn_C_allow is_C_allow ⟨q1_227, q1_228, q1_1⟩ (by decide) (by decide) rfl) ?_
  refine x_bok.cons (xs_iload_n d_C_told_24 rfl) ?_
  refine x_bok.cons (xs_iconst d_C_told_25 (by decide)) ?_
  refine x_bok.cons (xs_icmp_gt d_C_told_26 (by decide)) ?_
  refine x_bok.cons (xs_aload_n d_C_told_29 rfl) ?_
  refine x_bok.cons (xs_iload_n d_C_told_30 rfl) ?_
  refine x_bok.cons (xs_invV d_C_told_31 xc3 sn_M_tell is_M_tell ⟨q4_182, q4_183, q4_184, q1_8⟩ (by decide) (by decide) rfl) ?_
  refine x_bok.cons (xs_goto d_C_told_34 (by decide)) ?_
  refine x_bok.cons (xs_aload_n d_C_told_37 rfl) ?_
  refine x_bok.cons (xs_get d_C_told_38 xc3 xw3 (by decide) q1_171 (Or.inl rfl)) ?_
  refine x_bok.cons (xs_iload_n d_C_told_41 rfl) ?_
  refine x_bok.cons (xs_invV d_C_told_42 xc5 sn_D_tell is_D_tell ⟨q4_186, q4_187, q4_188, q1_9⟩ (by decide) (by decide) rfl) ?_
  refine x_bok.cons (xs_iret d_C_told_45 rfl) ?_
  exact x_bok.nil
set_option maxRecDepth 100000 in
theorem mn_C_told : x_bmn b_C_told := by
  unfold b_C_told
  refine x_bmn.cons (xm_aload) ?_
  refine x_bmn.cons (xm_iload) ?_
  refine x_bmn.cons (xm_invV ym_C_machineAt) ?_
  refine x_bmn.cons (xm_astore) ?_
  refine x_bmn.cons (xm_iload) ?_
  refine x_bmn.cons (xm_if) ?_
  refine x_bmn.cons (xm_iload) ?_
  refine x_bmn.cons (xm_push) ?_
  refine x_bmn.cons (xm_icmp) ?_
  refine x_bmn.cons (xm_push) ?_
  refine x_bmn.cons (xm_goto) ?_
  refine x_bmn.cons (xm_push) ?_
  refine x_bmn.cons (xm_invS ym_C_allow) ?_
  refine x_bmn.cons (xm_iload) ?_
  refine x_bmn.cons (xm_push) ?_
  refine x_bmn.cons (xm_icmp) ?_
  refine x_bmn.cons (xm_aload) ?_
  refine x_bmn.cons (xm_iload) ?_
  refine x_bmn.cons (xm_invV ym_M_tell) ?_
  refine x_bmn.cons (xm_goto) ?_
  refine x_bmn.cons (xm_aload) ?_
  refine x_bmn.cons (xm_get) ?_
  refine x_bmn.cons (xm_iload) ?_
  refine x_bmn.cons (xm_invV ym_D_tell) ?_
  refine x_bmn.cons (xm_iret) ?_
  exact x_bmn.nil
theorem is_C_told : x_Is y_C_told m_C_told := x_is_code q4_181
def Y_C_told : XMeth := x_do 4 b_C_told
theorem sn_C_told : x_Snd y_C_told m_C_told Y_C_told := x_snd_of (by decide) rfl rfl is_C_told k_C_told
theorem ym_C_told : x_Ymn Y_C_told := x_ymn_of mn_C_told
