/- CashLinkModel.voids(I)I -/
abbrev c_R_voids : ByteArray := prog_12_method_10_code
def y_R_voids : MethodName := ⟨"CashLinkModel", "voids", "(I)I"⟩
theorem d_R_voids_0 : decode c_R_voids 0 = .ok (.iconst 0, 1) := by decide +kernel
theorem d_R_voids_1 : decode c_R_voids 1 = .ok (.istore_n 2, 1) := by decide +kernel
theorem d_R_voids_2 : decode c_R_voids 2 = .ok (.iload_n 1, 1) := by decide +kernel
theorem d_R_voids_3 : decode c_R_voids 3 = .ok (.invokestatic 100, 3) := by decide +kernel
theorem d_R_voids_6 : decode c_R_voids 6 = .ok (.istore_n 3, 1) := by decide +kernel
theorem d_R_voids_7 : decode c_R_voids 7 = .ok (.iload_n 3, 1) := by decide +kernel
theorem d_R_voids_8 : decode c_R_voids 8 = .ok (.iload_n 1, 1) := by decide +kernel
theorem d_R_voids_9 : decode c_R_voids 9 = .ok (.invokestatic 100, 3) := by decide +kernel
theorem d_R_voids_12 : decode c_R_voids 12 = .ok (.aload_n 0, 1) := by decide +kernel
theorem d_R_voids_13 : decode c_R_voids 13 = .ok (.getfield 28, 3) := by decide +kernel
theorem d_R_voids_16 : decode c_R_voids 16 = .ok (.iload_n 1, 1) := by decide +kernel
theorem d_R_voids_17 : decode c_R_voids 17 = .ok (.iaload, 1) := by decide +kernel
theorem d_R_voids_18 : decode c_R_voids 18 = .ok (.iadd, 1) := by decide +kernel
theorem d_R_voids_19 : decode c_R_voids 19 = .ok (.if_icmp .ge 21, 3) := by decide +kernel
theorem d_R_voids_22 : decode c_R_voids 22 = .ok (.aload_n 0, 1) := by decide +kernel
theorem d_R_voids_23 : decode c_R_voids 23 = .ok (.iload_n 1, 1) := by decide +kernel
theorem d_R_voids_24 : decode c_R_voids 24 = .ok (.iload_n 3, 1) := by decide +kernel
theorem d_R_voids_25 : decode c_R_voids 25 = .ok (.invokevirtual 115, 3) := by decide +kernel
theorem d_R_voids_28 : decode c_R_voids 28 = .ok (.ifCond .eq 6, 3) := by decide +kernel
theorem d_R_voids_31 : decode c_R_voids 31 = .ok (.iinc 2 1, 3) := by decide +kernel
theorem d_R_voids_34 : decode c_R_voids 34 = .ok (.iinc 3 1, 3) := by decide +kernel
theorem d_R_voids_37 : decode c_R_voids 37 = .ok (.goto (-30), 3) := by decide +kernel
theorem d_R_voids_40 : decode c_R_voids 40 = .ok (.iload_n 2, 1) := by decide +kernel
theorem d_R_voids_41 : decode c_R_voids 41 = .ok (.ireturn, 1) := by decide +kernel
def m_R_voids : XM := ("CashLinkModel", c_R_voids, 4, (some .int), "voids", [], 4, 90)
def b_R_voids : XB := [(0, X_push (xv_i 0) 1),
  (1, X_istore 2 1),
  (2, X_iload 1 1),
  (3, X_invS Y_R_at 1 []),
  (6, X_istore 3 1),
  (7, X_iload 3 1),
  (8, X_iload 1 1),
  (9, X_invS Y_R_at 1 []),
  (12, X_aload 0 1),
  (13, X_get 10 6),
  (16, X_iload 1 1),
  (17, X_ald 0),
  (18, X_bin (fun x y => x + y)),
  (19, X_icmp (fun x y => y ≤ x) 40),
  (22, X_aload 0 1),
  (23, X_iload 1 1),
  (24, X_iload 3 1),
  (25, X_invV 10 Y_R_isVoid 2 []),
  (28, X_if (fun x => x = 0) 34),
  (31, X_iinc 2 1),
  (34, X_iinc 3 1),
  (37, X_goto 7),
  (40, X_iload 2 1),
  (41, X_iret)]
set_option maxRecDepth 100000 in
theorem k_R_voids : x_bok m_R_voids b_R_voids := by
  unfold b_R_voids
  refine x_bok.cons (xs_iconst d_R_voids_0 (by decide)) ?_
  refine x_bok.cons (xs_istore_n d_R_voids_1 rfl (by decide)) ?_
  refine x_bok.cons (xs_iload_n d_R_voids_2 rfl) ?_
  refine x_bok.cons (xs_invS d_R_voids_3 sn_R_at is_R_at ⟨q6_88, q6_89, q1_12⟩ (by decide) (by decide) rfl) ?_
  refine x_bok.cons (xs_istore_n d_R_voids_6 rfl (by decide)) ?_
  refine x_bok.cons (xs_iload_n d_R_voids_7 rfl) ?_
  refine x_bok.cons (xs_iload_n d_R_voids_8 rfl) ?_
  refine x_bok.cons (xs_invS d_R_voids_9 sn_R_at is_R_at ⟨q6_88, q6_89, q1_12⟩ (by decide) (by decide) rfl) ?_
  refine x_bok.cons (xs_aload_n d_R_voids_12 rfl) ?_
  refine x_bok.cons (xs_get d_R_voids_13 xc10 xw10 (by decide) q5_211 (Or.inl rfl)) ?_
  refine x_bok.cons (xs_iload_n d_R_voids_16 rfl) ?_
  refine x_bok.cons (xs_iald d_R_voids_17 rfl) ?_
  refine x_bok.cons (xs_iadd d_R_voids_18) ?_
  refine x_bok.cons (xs_icmp_ge d_R_voids_19 (by decide)) ?_
  refine x_bok.cons (xs_aload_n d_R_voids_22 rfl) ?_
  refine x_bok.cons (xs_iload_n d_R_voids_23 rfl) ?_
  refine x_bok.cons (xs_iload_n d_R_voids_24 rfl) ?_
  refine x_bok.cons (xs_invV d_R_voids_25 xc10 sn_R_isVoid is_R_isVoid ⟨q6_91, q6_93, (x_sel (x_p2 (List.mem_of_getElem? (i := 15) rfl))), q1_12⟩ (by decide) (by decide) rfl) ?_
  refine x_bok.cons (xs_if_eq d_R_voids_28 (by decide)) ?_
  refine x_bok.cons (xs_iinc d_R_voids_31 (by decide) (by decide)) ?_
  refine x_bok.cons (xs_iinc d_R_voids_34 (by decide) (by decide)) ?_
  refine x_bok.cons (xs_goto d_R_voids_37 (by decide)) ?_
  refine x_bok.cons (xs_iload_n d_R_voids_40 rfl) ?_
  refine x_bok.cons (xs_iret d_R_voids_41 rfl) ?_
  exact x_bok.nil
set_option maxRecDepth 100000 in
theorem mn_R_voids : x_bmn b_R_voids := by
  unfold b_R_voids
  refine x_bmn.cons (xm_push) ?_
  refine x_bmn.cons (xm_istore) ?_
  refine x_bmn.cons (xm_iload) ?_
  refine x_bmn.cons (xm_invS ym_R_at) ?_
  refine x_bmn.cons (xm_istore) ?_
  refine x_bmn.cons (xm_iload) ?_
  refine x_bmn.cons (xm_iload) ?_
  refine x_bmn.cons (xm_invS ym_R_at) ?_
  refine x_bmn.cons (xm_aload) ?_
  refine x_bmn.cons (xm_get) ?_
  refine x_bmn.cons (xm_iload) ?_
  refine x_bmn.cons (xm_ald) ?_
  refine x_bmn.cons (xm_bin) ?_
  refine x_bmn.cons (xm_icmp) ?_
  refine x_bmn.cons (xm_aload) ?_
  refine x_bmn.cons (xm_iload) ?_
  refine x_bmn.cons (xm_iload) ?_
  refine x_bmn.cons (xm_invV ym_R_isVoid) ?_
  refine x_bmn.cons (xm_if) ?_
  refine x_bmn.cons (xm_iinc) ?_
  refine x_bmn.cons (xm_iinc) ?_
  refine x_bmn.cons (xm_goto) ?_
  refine x_bmn.cons (xm_iload) ?_
  refine x_bmn.cons (xm_iret) ?_
  exact x_bmn.nil
theorem is_R_voids : x_Is y_R_voids m_R_voids := x_is_code q6_87
def Y_R_voids : XMeth := x_do 4 b_R_voids
theorem sn_R_voids : x_Snd y_R_voids m_R_voids Y_R_voids := x_snd_of (by decide) rfl rfl is_R_voids k_R_voids
theorem ym_R_voids : x_Ymn Y_R_voids := x_ymn_of mn_R_voids
/- CashLinkModel.lastTrace(I)I -/
abbrev c_R_lastTrace : ByteArray := prog_12_method_8_code
def y_R_lastTrace : MethodName := ⟨"CashLinkModel", "lastTrace", "(I)I"⟩
theorem d_R_lastTrace_0 : decode c_R_lastTrace 0 = .ok (.iconst 0, 1) := by decide +kernel
theorem d_R_lastTrace_1 : decode c_R_lastTrace 1 = .ok (.istore_n 2, 1) := by decide +kernel
theorem d_R_lastTrace_2 : decode c_R_lastTrace 2 = .ok (.iload_n 1, 1) := by decide +kernel
theorem d_R_lastTrace_3 : decode c_R_lastTrace 3 = .ok (.invokestatic 100, 3) := by decide +kernel
theorem d_R_lastTrace_6 : decode c_R_lastTrace 6 = .ok (.istore_n 3, 1) := by decide +kernel
theorem d_R_lastTrace_7 : decode c_R_lastTrace 7 = .ok (.iload_n 3, 1) := by decide +kernel
theorem d_R_lastTrace_8 : decode c_R_lastTrace 8 = .ok (.iload_n 1, 1) := by decide +kernel
theorem d_R_lastTrace_9 : decode c_R_lastTrace 9 = .ok (.invokestatic 100, 3) := by decide +kernel
theorem d_R_lastTrace_12 : decode c_R_lastTrace 12 = .ok (.aload_n 0, 1) := by decide +kernel
theorem d_R_lastTrace_13 : decode c_R_lastTrace 13 = .ok (.getfield 28, 3) := by decide +kernel
theorem d_R_lastTrace_16 : decode c_R_lastTrace 16 = .ok (.iload_n 1, 1) := by decide +kernel
theorem d_R_lastTrace_17 : decode c_R_lastTrace 17 = .ok (.iaload, 1) := by decide +kernel
theorem d_R_lastTrace_18 : decode c_R_lastTrace 18 = .ok (.iadd, 1) := by decide +kernel
theorem d_R_lastTrace_19 : decode c_R_lastTrace 19 = .ok (.if_icmp .ge 22, 3) := by decide +kernel
theorem d_R_lastTrace_22 : decode c_R_lastTrace 22 = .ok (.aload_n 0, 1) := by decide +kernel
theorem d_R_lastTrace_23 : decode c_R_lastTrace 23 = .ok (.getfield 7, 3) := by decide +kernel
theorem d_R_lastTrace_26 : decode c_R_lastTrace 26 = .ok (.iload_n 3, 1) := by decide +kernel
theorem d_R_lastTrace_27 : decode c_R_lastTrace 27 = .ok (.iaload, 1) := by decide +kernel
theorem d_R_lastTrace_28 : decode c_R_lastTrace 28 = .ok (.iconst 1, 1) := by decide +kernel
theorem d_R_lastTrace_29 : decode c_R_lastTrace 29 = .ok (.if_icmp .ne 6, 3) := by decide +kernel
theorem d_R_lastTrace_32 : decode c_R_lastTrace 32 = .ok (.iinc 2 1, 3) := by decide +kernel
theorem d_R_lastTrace_35 : decode c_R_lastTrace 35 = .ok (.iinc 3 1, 3) := by decide +kernel
theorem d_R_lastTrace_38 : decode c_R_lastTrace 38 = .ok (.goto (-31), 3) := by decide +kernel
theorem d_R_lastTrace_41 : decode c_R_lastTrace 41 = .ok (.iload_n 2, 1) := by decide +kernel
theorem d_R_lastTrace_42 : decode c_R_lastTrace 42 = .ok (.ireturn, 1) := by decide +kernel
def m_R_lastTrace : XM := ("CashLinkModel", c_R_lastTrace, 4, (some .int), "lastTrace", [], 1, 20)
def b_R_lastTrace : XB := [(0, X_push (xv_i 0) 1),
  (1, X_istore 2 1),
  (2, X_iload 1 1),
  (3, X_invS Y_R_at 1 []),
  (6, X_istore 3 1),
  (7, X_iload 3 1),
  (8, X_iload 1 1),
  (9, X_invS Y_R_at 1 []),
  (12, X_aload 0 1),
  (13, X_get 10 6),
  (16, X_iload 1 1),
  (17, X_ald 0),
  (18, X_bin (fun x y => x + y)),
  (19, X_icmp (fun x y => y ≤ x) 41),
  (22, X_aload 0 1),
  (23, X_get 10 0),
  (26, X_iload 3 1),
  (27, X_ald 0),
  (28, X_push (xv_i 1) 1),
  (29, X_icmp (fun x y => ¬ x = y) 35),
  (32, X_iinc 2 1),
  (35, X_iinc 3 1),
  (38, X_goto 7),
  (41, X_iload 2 1),
  (42, X_iret)]
set_option maxRecDepth 100000 in
theorem k_R_lastTrace : x_bok m_R_lastTrace b_R_lastTrace := by
  unfold b_R_lastTrace
  refine x_bok.cons (xs_iconst d_R_lastTrace_0 (by decide)) ?_
  refine x_bok.cons (xs_istore_n d_R_lastTrace_1 rfl (by decide)) ?_
  refine x_bok.cons (xs_iload_n d_R_lastTrace_2 rfl) ?_
  refine x_bok.cons (xs_invS d_R_lastTrace_3 sn_R_at is_R_at ⟨q6_88, q6_89, q1_12⟩ (by decide) (by decide) rfl) ?_
  refine x_bok.cons (xs_istore_n d_R_lastTrace_6 rfl (by decide)) ?_
  refine x_bok.cons (xs_iload_n d_R_lastTrace_7 rfl) ?_
  refine x_bok.cons (xs_iload_n d_R_lastTrace_8 rfl) ?_
  refine x_bok.cons (xs_invS d_R_lastTrace_9 sn_R_at is_R_at ⟨q6_88, q6_89, q1_12⟩ (by decide) (by decide) rfl) ?_
  refine x_bok.cons (xs_aload_n d_R_lastTrace_12 rfl) ?_
  refine x_bok.cons (xs_get d_R_lastTrace_13 xc10 xw10 (by decide) q5_211 (Or.inl rfl)) ?_
  refine x_bok.cons (xs_iload_n d_R_lastTrace_16 rfl) ?_
  refine x_bok.cons (xs_iald d_R_lastTrace_17 rfl) ?_
  refine x_bok.cons (xs_iadd d_R_lastTrace_18) ?_
  refine x_bok.cons (xs_icmp_ge d_R_lastTrace_19 (by decide)) ?_
  refine x_bok.cons (xs_aload_n d_R_lastTrace_22 rfl) ?_
  refine x_bok.cons (xs_get d_R_lastTrace_23 xc10 xw10 (by decide) q5_205 (Or.inl rfl)) ?_
  refine x_bok.cons (xs_iload_n d_R_lastTrace_26 rfl) ?_
  refine x_bok.cons (xs_iald d_R_lastTrace_27 rfl) ?_
  refine x_bok.cons (xs_iconst d_R_lastTrace_28 (by decide)) ?_
  refine x_bok.cons (xs_icmp_ne d_R_lastTrace_29 (by decide)) ?_
  refine x_bok.cons (xs_iinc d_R_lastTrace_32 (by decide) (by decide)) ?_
  refine x_bok.cons (xs_iinc d_R_lastTrace_35 (by decide) (by decide)) ?_
  refine x_bok.cons (xs_goto d_R_lastTrace_38 (by decide)) ?_
  refine x_bok.cons (xs_iload_n d_R_lastTrace_41 rfl) ?_
  refine x_bok.cons (xs_iret d_R_lastTrace_42 rfl) ?_
  exact x_bok.nil
set_option maxRecDepth 100000 in
theorem mn_R_lastTrace : x_bmn b_R_lastTrace := by
  unfold b_R_lastTrace
  refine x_bmn.cons (xm_push) ?_
  refine x_bmn.cons (xm_istore) ?_
  refine x_bmn.cons (xm_iload) ?_
  refine x_bmn.cons (xm_invS ym_R_at) ?_
  refine x_bmn.cons (xm_istore) ?_
  refine x_bmn.cons (xm_iload) ?_
  refine x_bmn.cons (xm_iload) ?_
  refine x_bmn.cons (xm_invS ym_R_at) ?_
  refine x_bmn.cons (xm_aload) ?_
  refine x_bmn.cons (xm_get) ?_
  refine x_bmn.cons (xm_iload) ?_
  refine x_bmn.cons (xm_ald) ?_
  refine x_bmn.cons (xm_bin) ?_
  refine x_bmn.cons (xm_icmp) ?_
  refine x_bmn.cons (xm_aload) ?_
  refine x_bmn.cons (xm_get) ?_
  refine x_bmn.cons (xm_iload) ?_
  refine x_bmn.cons (xm_ald) ?_
  refine x_bmn.cons (xm_push) ?_
  refine x_bmn.cons (xm_icmp) ?_
  refine x_bmn.cons (xm_iinc) ?_
  refine x_bmn.cons (xm_iinc) ?_
  refine x_bmn.cons (xm_goto) ?_
  refine x_bmn.cons (xm_iload) ?_
  refine x_bmn.cons (xm_iret) ?_
  exact x_bmn.nil
theorem is_R_lastTrace : x_Is y_R_lastTrace m_R_lastTrace := x_is_code q6_106
def Y_R_lastTrace : XMeth := x_do 4 b_R_lastTrace
theorem sn_R_lastTrace : x_Snd y_R_lastTrace m_R_lastTrace Y_R_lastTrace := x_snd_of (by decide) rfl rfl is_R_lastTrace k_R_lastTrace
theorem ym_R_lastTrace : x_Ymn Y_R_lastTrace := x_ymn_of mn_R_lastTrace
/- CashLinkModel.record(IIIIIII)V -/
abbrev c_R_record : ByteArray := prog_12_method_5_code
def y_R_record : MethodName := ⟨"CashLinkModel", "record", "(IIIIIII)V"⟩
theorem d_R_record_0 : decode c_R_record 0 = .ok (.aload_n 0, 1) := by decide +kernel
theorem d_R_record_1 : decode c_R_record 1 = .ok (.getfield 34, 3) := by decide +kernel
theorem d_R_record_4 : decode c_R_record 4 = .ok (.iload_n 1, 1) := by decide +kernel
theorem d_R_record_5 : decode c_R_record 5 = .ok (.iaload, 1) := by decide +kernel
theorem d_R_record_6 : decode c_R_record 6 = .ok (.bipush 16, 2) := by decide +kernel
theorem d_R_record_8 : decode c_R_record 8 = .ok (.if_icmp .gt 16, 3) := by decide +kernel
theorem d_R_record_11 : decode c_R_record 11 = .ok (.aload_n 0, 1) := by decide +kernel
theorem d_R_record_12 : decode c_R_record 12 = .ok (.getfield 31, 3) := by decide +kernel
theorem d_R_record_15 : decode c_R_record 15 = .ok (.iload_n 1, 1) := by decide +kernel
theorem d_R_record_16 : decode c_R_record 16 = .ok (.iaload, 1) := by decide +kernel
theorem d_R_record_17 : decode c_R_record 17 = .ok (.ifCond .ne 7, 3) := by decide +kernel
theorem d_R_record_20 : decode c_R_record 20 = .ok (.iconst 1, 1) := by decide +kernel
theorem d_R_record_21 : decode c_R_record 21 = .ok (.goto 4, 3) := by decide +kernel
theorem d_R_record_24 : decode c_R_record 24 = .ok (.iconst 0, 1) := by decide +kernel
theorem d_R_record_25 : decode c_R_record 25 = .ok (.istore 8, 2) := by decide +kernel
theorem d_R_record_27 : decode c_R_record 27 = .ok (.iload 8, 2) := by decide +kernel
theorem d_R_record_29 : decode c_R_record 29 = .ok (.ifCond .eq 14, 3) := by decide +kernel
theorem d_R_record_32 : decode c_R_record 32 = .ok (.aload_n 0, 1) := by decide +kernel
theorem d_R_record_33 : decode c_R_record 33 = .ok (.getfield 34, 3) := by decide +kernel
theorem d_R_record_36 : decode c_R_record 36 = .ok (.iload_n 1, 1) := by decide +kernel
theorem d_R_record_37 : decode c_R_record 37 = .ok (.iaload, 1) := by decide +kernel
theorem d_R_record_38 : decode c_R_record 38 = .ok (.bipush 16, 2) := by decide +kernel
theorem d_R_record_40 : decode c_R_record 40 = .ok (.if_icmp .ne 78, 3) := by decide +kernel
theorem d_R_record_43 : decode c_R_record 43 = .ok (.iload_n 1, 1) := by decide +kernel
theorem d_R_record_44 : decode c_R_record 44 = .ok (.invokestatic 100, 3) := by decide +kernel
theorem d_R_record_47 : decode c_R_record 47 = .ok (.aload_n 0, 1) := by decide +kernel
theorem d_R_record_48 : decode c_R_record 48 = .ok (.getfield 28, 3) := by decide +kernel
theorem d_R_record_51 : decode c_R_record 51 = .ok (.iload_n 1, 1) := by decide +kernel
theorem d_R_record_52 : decode c_R_record 52 = .ok (.iaload, 1) := by decide +kernel
theorem d_R_record_53 : decode c_R_record 53 = .ok (.iadd, 1) := by decide +kernel
theorem d_R_record_54 : decode c_R_record 54 = .ok (.istore 9, 2) := by decide +kernel
theorem d_R_record_56 : decode c_R_record 56 = .ok (.aload_n 0, 1) := by decide +kernel
theorem d_R_record_57 : decode c_R_record 57 = .ok (.getfield 7, 3) := by decide +kernel
theorem d_R_record_60 : decode c_R_record 60 = .ok (.iload 9, 2) := by decide +kernel
theorem d_R_record_62 : decode c_R_record 62 = .ok (.iload_n 2, 1) := by decide +kernel
theorem d_R_record_63 : decode c_R_record 63 = .ok (.iastore, 1) := by decide +kernel
theorem d_R_record_64 : decode c_R_record 64 = .ok (.aload_n 0, 1) := by decide +kernel
theorem d_R_record_65 : decode c_R_record 65 = .ok (.getfield 13, 3) := by decide +kernel
theorem d_R_record_68 : decode c_R_record 68 = .ok (.iload 9, 2) := by decide +kernel
theorem d_R_record_70 : decode c_R_record 70 = .ok (.iload_n 3, 1) := by decide +kernel
theorem d_R_record_71 : decode c_R_record 71 = .ok (.iastore, 1) := by decide +kernel
theorem d_R_record_72 : decode c_R_record 72 = .ok (.aload_n 0, 1) := by decide +kernel
theorem d_R_record_73 : decode c_R_record 73 = .ok (.getfield 16, 3) := by decide +kernel
theorem d_R_record_76 : decode c_R_record 76 = .ok (.iload 9, 2) := by decide +kernel
theorem d_R_record_78 : decode c_R_record 78 = .ok (.iload 4, 2) := by decide +kernel
theorem d_R_record_80 : decode c_R_record 80 = .ok (.iastore, 1) := by decide +kernel
theorem d_R_record_81 : decode c_R_record 81 = .ok (.aload_n 0, 1) := by decide +kernel
theorem d_R_record_82 : decode c_R_record 82 = .ok (.getfield 19, 3) := by decide +kernel
theorem d_R_record_85 : decode c_R_record 85 = .ok (.iload 9, 2) := by decide +kernel
theorem d_R_record_87 : decode c_R_record 87 = .ok (.iload 5, 2) := by decide +kernel
theorem d_R_record_89 : decode c_R_record 89 = .ok (.iastore, 1) := by decide +kernel
theorem d_R_record_90 : decode c_R_record 90 = .ok (.aload_n 0, 1) := by decide +kernel
theorem d_R_record_91 : decode c_R_record 91 = .ok (.getfield 22, 3) := by decide +kernel
theorem d_R_record_94 : decode c_R_record 94 = .ok (.iload 9, 2) := by decide +kernel
theorem d_R_record_96 : decode c_R_record 96 = .ok (.iload 6, 2) := by decide +kernel
theorem d_R_record_98 : decode c_R_record 98 = .ok (.iastore, 1) := by decide +kernel
theorem d_R_record_99 : decode c_R_record 99 = .ok (.aload_n 0, 1) := by decide +kernel
theorem d_R_record_100 : decode c_R_record 100 = .ok (.getfield 25, 3) := by decide +kernel
theorem d_R_record_103 : decode c_R_record 103 = .ok (.iload 9, 2) := by decide +kernel
theorem d_R_record_105 : decode c_R_record 105 = .ok (.iload 7, 2) := by decide +kernel
theorem d_R_record_107 : decode c_R_record 107 = .ok (.iastore, 1) := by decide +kernel
theorem d_R_record_108 : decode c_R_record 108 = .ok (.aload_n 0, 1) := by decide +kernel
theorem d_R_record_109 : decode c_R_record 109 = .ok (.getfield 28, 3) := by decide +kernel
theorem d_R_record_112 : decode c_R_record 112 = .ok (.iload_n 1, 1) := by decide +kernel
theorem d_R_record_113 : decode c_R_record 113 = .ok (.dup2, 1) := by decide +kernel
theorem d_R_record_114 : decode c_R_record 114 = .ok (.iaload, 1) := by decide +kernel
theorem d_R_record_115 : decode c_R_record 115 = .ok (.iconst 1, 1) := by decide +kernel
theorem d_R_record_116 : decode c_R_record 116 = .ok (.iadd, 1) := by decide +kernel
theorem d_R_record_117 : decode c_R_record 117 = .ok (.iastore, 1) := by decide +kernel
theorem d_R_record_118 : decode c_R_record 118 = .ok (.iload 8, 2) := by decide +kernel
theorem d_R_record_120 : decode c_R_record 120 = .ok (.ifCond .ne 14, 3) := by decide +kernel
theorem d_R_record_123 : decode c_R_record 123 = .ok (.aload_n 0, 1) := by decide +kernel
theorem d_R_record_124 : decode c_R_record 124 = .ok (.getfield 31, 3) := by decide +kernel
theorem d_R_record_127 : decode c_R_record 127 = .ok (.iload_n 1, 1) := by decide +kernel
theorem d_R_record_128 : decode c_R_record 128 = .ok (.dup2, 1) := by decide +kernel
theorem d_R_record_129 : decode c_R_record 129 = .ok (.iaload, 1) := by decide +kernel
theorem d_R_record_130 : decode c_R_record 130 = .ok (.iconst 1, 1) := by decide +kernel
theorem d_R_record_131 : decode c_R_record 131 = .ok (.isub, 1) := by decide +kernel
theorem d_R_record_132 : decode c_R_record 132 = .ok (.iastore, 1) := by decide +kernel
theorem d_R_record_133 : decode c_R_record 133 = .ok (.return_, 1) := by decide +kernel
theorem d_R_record_134 : decode c_R_record 134 = .ok (.aload_n 0, 1) := by decide +kernel
theorem d_R_record_135 : decode c_R_record 135 = .ok (.getfield 34, 3) := by decide +kernel
theorem d_R_record_138 : decode c_R_record 138 = .ok (.iload_n 1, 1) := by decide +kernel
theorem d_R_record_139 : decode c_R_record 139 = .ok (.bipush 17, 2) := by decide +kernel
theorem d_R_record_141 : decode c_R_record 141 = .ok (.iastore, 1) := by decide +kernel
theorem d_R_record_142 : decode c_R_record 142 = .ok (.iload_n 1, 1) := by decide +kernel
theorem d_R_record_143 : decode c_R_record 143 = .ok (.iconst 4, 1) := by decide +kernel
theorem d_R_record_144 : decode c_R_record 144 = .ok (.if_icmp .ne 11, 3) := by decide +kernel
theorem d_R_record_147 : decode c_R_record 147 = .ok (.aload_n 0, 1) := by decide +kernel
theorem d_R_record_148 : decode c_R_record 148 = .ok (.iconst 0, 1) := by decide +kernel
theorem d_R_record_149 : decode c_R_record 149 = .ok (.putfield 37, 3) := by decide +kernel
theorem d_R_record_152 : decode c_R_record 152 = .ok (.goto 10, 3) := by decide +kernel
theorem d_R_record_155 : decode c_R_record 155 = .ok (.aload_n 0, 1) := by decide +kernel
theorem d_R_record_156 : decode c_R_record 156 = .ok (.getfield 41, 3) := by decide +kernel
theorem d_R_record_159 : decode c_R_record 159 = .ok (.iload_n 1, 1) := by decide +kernel
theorem d_R_record_160 : decode c_R_record 160 = .ok (.iconst 0, 1) := by decide +kernel
theorem d_R_record_161 : decode c_R_record 161 = .ok (.iastore, 1) := by decide +kernel
theorem d_R_record_162 : decode c_R_record 162 = .ok (.new 104, 3) := by decide +kernel
theorem d_R_record_165 : decode c_R_record 165 = .ok (.dup, 1) := by decide +kernel
theorem d_R_record_166 : decode c_R_record 166 = .ok (.invokespecial 106, 3) := by decide +kernel
theorem d_R_record_169 : decode c_R_record 169 = .ok (.athrow, 1) := by decide +kernel
def m_R_record : XM := ("CashLinkModel", c_R_record, 10, none, "record", [], 6, 90)
def b_R_record : XB := [(0, X_aload 0 1),
  (1, X_get 10 8),
  (4, X_iload 1 1),
  (5, X_ald 0),
  (6, X_push (xv_i 16) 2),
  (8, X_icmp (fun x y => y < x) 24),
  (11, X_aload 0 1),
  (12, X_get 10 7),
  (15, X_iload 1 1),
  (16, X_ald 0),
  (17, X_if (fun x => ¬ x = 0) 24),
  (20, X_push (xv_i 1) 1),
  (21, X_goto 25),
  (24, X_push (xv_i 0) 1),
  (25, X_istore 8 2),
  (27, X_iload 8 2),
  (29, X_if (fun x => x = 0) 43),
  (32, X_aload 0 1),
  (33, X_get 10 8),
  (36, X_iload 1 1),
  (37, X_ald 0),
  (38, X_push (xv_i 16) 2),
  (40, X_icmp (fun x y => ¬ x = y) 118),
  (43, X_iload 1 1),
  (44, X_invS Y_R_at 1 []),
  (47, X_aload 0 1),
  (48, X_get 10 6),
  (51, X_iload 1 1),
  (52, X_ald 0),
  (53, X_bin (fun x y => x + y)),
  (54, X_istore 9 2),
  (56, X_aload 0 1),
  (57, X_get 10 0),
  (60, X_iload 9 2),
  (62, X_iload 2 1),
  (63, X_ast 0 (fun x => x)),
  (64, X_aload 0 1),
  (65, X_get 10 1),
  (68, X_iload 9 2),
  (70, X_iload 3 1),
  (71, X_ast 0 (fun x => x)),
  (72, X_aload 0 1),
  (73, X_get 10 2),
  (76, X_iload 9 2),
  (78, X_iload 4 2),
  (80, X_ast 0 (fun x => x)),
  (81, X_aload 0 1),
  (82, X_get 10 3),
  (85, X_iload 9 2),
  (87, X_iload 5 2),
  (89, X_ast 0 (fun x => x)),
  (90, X_aload 0 1),
  (91, X_get 10 4),
  (94, X_iload 9 2),
  (96, X_iload 6 2),
  (98, X_ast 0 (fun x => x)),
  (99, X_aload 0 1),
  (100, X_get 10 5),
  (103, X_iload 9 2),
  (105, X_iload 7 2),
  (107, X_ast 0 (fun x => x)),
  (108, X_aload 0 1),
  (109, X_get 10 6),
  (112, X_iload 1 1),
  (113, X_dup2),
  (114, X_ald 0),
  (115, X_push (xv_i 1) 1),
  (116, X_bin (fun x y => x + y)),
  (117, X_ast 0 (fun x => x)),
  (118, X_iload 8 2),
  (120, X_if (fun x => ¬ x = 0) 134),
  (123, X_aload 0 1),
  (124, X_get 10 7),
  (127, X_iload 1 1),
  (128, X_dup2),
  (129, X_ald 0),
  (130, X_push (xv_i 1) 1),
  (131, X_bin (fun x y => x - y)),
  (132, X_ast 0 (fun x => x)),
  (133, X_vret),
  (134, X_aload 0 1),
  (135, X_get 10 8),
  (138, X_iload 1 1),
  (139, X_push (xv_i 17) 2),
  (141, X_ast 0 (fun x => x)),
  (142, X_iload 1 1),
  (143, X_push (xv_i 4) 1),
  (144, X_icmp (fun x y => ¬ x = y) 155),
  (147, X_aload 0 1),
  (148, X_push (xv_i 0) 1),
  (149, X_put x_tZ 10 9),
  (152, X_goto 162),
  (155, X_aload 0 1),
  (156, X_get 10 10),
  (159, X_iload 1 1),
  (160, X_push (xv_i 0) 1),
  (161, X_ast 0 (fun x => x)),
  (162, X_tn 14)]
set_option maxRecDepth 100000 in
theorem k_R_record : x_bok m_R_record b_R_record := by
  unfold b_R_record
  refine x_bok.cons (xs_aload_n d_R_record_0 rfl) ?_
  refine x_bok.cons (xs_get d_R_record_1 xc10 xw10 (by decide) q5_213 (Or.inl rfl)) ?_
  refine x_bok.cons (xs_iload_n d_R_record_4 rfl) ?_
  refine x_bok.cons (xs_iald d_R_record_5 rfl) ?_
  refine x_bok.cons (xs_bipush d_R_record_6 (by decide)) ?_
  refine x_bok.cons (xs_icmp_gt d_R_record_8 (by decide)) ?_
  refine x_bok.cons (xs_aload_n d_R_record_11 rfl) ?_
  refine x_bok.cons (xs_get d_R_record_12 xc10 xw10 (by decide) q5_212 (Or.inl rfl)) ?_
  refine x_bok.cons (xs_iload_n d_R_record_15 rfl) ?_
  refine x_bok.cons (xs_iald d_R_record_16 rfl) ?_
  refine x_bok.cons (xs_if_ne d_R_record_17 (by decide)) ?_
  refine x_bok.cons (xs_iconst d_R_record_20 (by decide)) ?_
  refine x_bok.cons (xs_goto d_R_record_21 (by decide)) ?_
  refine x_bok.cons (xs_iconst d_R_record_24 (by decide)) ?_
  refine x_bok.cons (xs_istore d_R_record_25 (by decide)) ?_
  refine x_bok.cons (xs_iload d_R_record_27) ?_
  refine x_bok.cons (xs_if_eq d_R_record_29 (by decide)) ?_
  refine x_bok.cons (xs_aload_n d_R_record_32 rfl) ?_
  refine x_bok.cons (xs_get d_R_record_33 xc10 xw10 (by decide) q5_213 (Or.inl rfl)) ?_
  refine x_bok.cons (xs_iload_n d_R_record_36 rfl) ?_
  refine x_bok.cons (xs_iald d_R_record_37 rfl) ?_
  refine x_bok.cons (xs_bipush d_R_record_38 (by decide)) ?_
  refine x_bok.cons (xs_icmp_ne d_R_record_40 (by decide)) ?_
  refine x_bok.cons (xs_iload_n d_R_record_43 rfl) ?_
  refine x_bok.cons (xs_invS d_R_record_44 sn_R_at is_R_at ⟨q6_88, q6_89, q1_12⟩ (by decide) (by decide) rfl) ?_
  refine x_bok.cons (xs_aload_n d_R_record_47 rfl) ?_
  refine x_bok.cons (xs_get d_R_record_48 xc10 xw10 (by decide) q5_211 (Or.inl rfl)) ?_
  refine x_bok.cons (xs_iload_n d_R_record_51 rfl) ?_
  refine x_bok.cons (xs_iald d_R_record_52 rfl) ?_
  refine x_bok.cons (xs_iadd d_R_record_53) ?_
  refine x_bok.cons (xs_istore d_R_record_54 (by decide)) ?_
  refine x_bok.cons (xs_aload_n d_R_record_56 rfl) ?_
  refine x_bok.cons (xs_get d_R_record_57 xc10 xw10 (by decide) q5_205 (Or.inl rfl)) ?_
  refine x_bok.cons (xs_iload d_R_record_60) ?_
  refine x_bok.cons (xs_iload_n d_R_record_62 rfl) ?_
  refine x_bok.cons (xs_iast d_R_record_63 rfl) ?_
  refine x_bok.cons (xs_aload_n d_R_record_64 rfl) ?_
  refine x_bok.cons (xs_get d_R_record_65 xc10 xw10 (by decide) q5_206 (Or.inl rfl)) ?_
  refine x_bok.cons (xs_iload d_R_record_68) ?_
  refine x_bok.cons (xs_iload_n d_R_record_70 rfl) ?_
  refine x_bok.cons (xs_iast d_R_record_71 rfl) ?_
  refine x_bok.cons (xs_aload_n d_R_record_72 rfl) ?_
  refine x_bok.cons (xs_get d_R_record_73 xc10 xw10 (by decide) q5_207 (Or.inl rfl)) ?_
  refine x_bok.cons (xs_iload d_R_record_76) ?_
  refine x_bok.cons (xs_iload d_R_record_78) ?_
  refine x_bok.cons (xs_iast d_R_record_80 rfl) ?_
  refine x_bok.cons (xs_aload_n d_R_record_81 rfl) ?_
  refine x_bok.cons (xs_get d_R_record_82 xc10 xw10 (by decide) q5_208 (Or.inl rfl)) ?_
  refine x_bok.cons (xs_iload d_R_record_85) ?_
  refine x_bok.cons (xs_iload d_R_record_87) ?_
  refine x_bok.cons (xs_iast d_R_record_89 rfl) ?_
  refine x_bok.cons (xs_aload_n d_R_record_90 rfl) ?_
  refine x_bok.cons (xs_get d_R_record_91 xc10 xw10 (by decide) q5_209 (Or.inl rfl)) ?_
  refine x_bok.cons (xs_iload d_R_record_94) ?_
  refine x_bok.cons (xs_iload d_R_record_96) ?_
  refine x_bok.cons (xs_iast d_R_record_98 rfl) ?_
  refine x_bok.cons (xs_aload_n d_R_record_99 rfl) ?_
  refine x_bok.cons (xs_get d_R_record_100 xc10 xw10 (by decide) q5_210 (Or.inl rfl)) ?_
  refine x_bok.cons (xs_iload d_R_record_103) ?_
  refine x_bok.cons (xs_iload d_R_record_105) ?_
  refine x_bok.cons (xs_iast d_R_record_107 rfl) ?_
  refine x_bok.cons (xs_aload_n d_R_record_108 rfl) ?_
  refine x_bok.cons (xs_get d_R_record_109 xc10 xw10 (by decide) q5_211 (Or.inl rfl)) ?_
  refine x_bok.cons (xs_iload_n d_R_record_112 rfl) ?_
  refine x_bok.cons (xs_dup2 d_R_record_113) ?_
  refine x_bok.cons (xs_iald d_R_record_114 rfl) ?_
  refine x_bok.cons (xs_iconst d_R_record_115 (by decide)) ?_
  refine x_bok.cons (xs_iadd d_R_record_116) ?_
  refine x_bok.cons (xs_iast d_R_record_117 rfl) ?_
  refine x_bok.cons (xs_iload d_R_record_118) ?_
  refine x_bok.cons (xs_if_ne d_R_record_120 (by decide)) ?_
  refine x_bok.cons (xs_aload_n d_R_record_123 rfl) ?_
  refine x_bok.cons (xs_get d_R_record_124 xc10 xw10 (by decide) q5_212 (Or.inl rfl)) ?_
  refine x_bok.cons (xs_iload_n d_R_record_127 rfl) ?_
  refine x_bok.cons (xs_dup2 d_R_record_128) ?_
  refine x_bok.cons (xs_iald d_R_record_129 rfl) ?_
  refine x_bok.cons (xs_iconst d_R_record_130 (by decide)) ?_
  refine x_bok.cons (xs_isub d_R_record_131) ?_
  refine x_bok.cons (xs_iast d_R_record_132 rfl) ?_
  refine x_bok.cons (xs_vret d_R_record_133 rfl) ?_
  refine x_bok.cons (xs_aload_n d_R_record_134 rfl) ?_
  refine x_bok.cons (xs_get d_R_record_135 xc10 xw10 (by decide) q5_213 (Or.inl rfl)) ?_
  refine x_bok.cons (xs_iload_n d_R_record_138 rfl) ?_
  refine x_bok.cons (xs_bipush d_R_record_139 (by decide)) ?_
  refine x_bok.cons (xs_iast d_R_record_141 rfl) ?_
  refine x_bok.cons (xs_iload_n d_R_record_142 rfl) ?_
  refine x_bok.cons (xs_iconst d_R_record_143 (by decide)) ?_
  refine x_bok.cons (xs_icmp_ne d_R_record_144 (by decide)) ?_
  refine x_bok.cons (xs_aload_n d_R_record_147 rfl) ?_
  refine x_bok.cons (xs_iconst d_R_record_148 (by decide)) ?_
  refine x_bok.cons (xs_put d_R_record_149 xc10 xw10 xt10 xn10 (by decide) q5_214 (Or.inl rfl) rfl rfl x_fitZ) ?_
  refine x_bok.cons (xs_goto d_R_record_152 (by decide)) ?_
  refine x_bok.cons (xs_aload_n d_R_record_155 rfl) ?_
  refine x_bok.cons (xs_get d_R_record_156 xc10 xw10 (by decide) q5_215 (Or.inl rfl)) ?_
  refine x_bok.cons (xs_iload_n d_R_record_159 rfl) ?_
  refine x_bok.cons (xs_iconst d_R_record_160 (by decide)) ?_
  refine x_bok.cons (xs_iast d_R_record_161 rfl) ?_
  refine x_bok.cons (xs_tn0 (names := ["java/lang/RuntimeException", "java/lang/Exception"]) d_R_record_162 d_R_record_165 d_R_record_166 d_R_record_169 xc14 rfl (by decide +kernel) (by decide +kernel) x_exin (by decide +kernel) rfl (by decide)) ?_
  exact x_bok.nil
set_option maxRecDepth 100000 in
theorem mn_R_record : x_bmn b_R_record := by
  unfold b_R_record
  refine x_bmn.cons (xm_aload) ?_
  refine x_bmn.cons (xm_get) ?_
  refine x_bmn.cons (xm_iload) ?_
  refine x_bmn.cons (xm_ald) ?_
  refine x_bmn.cons (xm_push) ?_
  refine x_bmn.cons (xm_icmp) ?_
  refine x_bmn.cons (xm_aload) ?_
  refine x_bmn.cons (xm_get) ?_
  refine x_bmn.cons (xm_iload) ?_
  refine x_bmn.cons (xm_ald) ?_
  refine x_bmn.cons (xm_if) ?_
  refine x_bmn.cons (xm_push) ?_
  refine x_bmn.cons (xm_goto) ?_
  refine x_bmn.cons (xm_push) ?_
  refine x_bmn.cons (xm_istore) ?_
  refine x_bmn.cons (xm_iload) ?_
  refine x_bmn.cons (xm_if) ?_
  refine x_bmn.cons (xm_aload) ?_
  refine x_bmn.cons (xm_get) ?_
  refine x_bmn.cons (xm_iload) ?_
  refine x_bmn.cons (xm_ald) ?_
  refine x_bmn.cons (xm_push) ?_
  refine x_bmn.cons (xm_icmp) ?_
  refine x_bmn.cons (xm_iload) ?_
  refine x_bmn.cons (xm_invS ym_R_at) ?_
  refine x_bmn.cons (xm_aload) ?_
  refine x_bmn.cons (xm_get) ?_
  refine x_bmn.cons (xm_iload) ?_
  refine x_bmn.cons (xm_ald) ?_
  refine x_bmn.cons (xm_bin) ?_
  refine x_bmn.cons (xm_istore) ?_
  refine x_bmn.cons (xm_aload) ?_
  refine x_bmn.cons (xm_get) ?_
  refine x_bmn.cons (xm_iload) ?_
  refine x_bmn.cons (xm_iload) ?_
  refine x_bmn.cons (xm_ast) ?_
  refine x_bmn.cons (xm_aload) ?_
  refine x_bmn.cons (xm_get) ?_
  refine x_bmn.cons (xm_iload) ?_
  refine x_bmn.cons (xm_iload) ?_
  refine x_bmn.cons (xm_ast) ?_
  refine x_bmn.cons (xm_aload) ?_
  refine x_bmn.cons (xm_get) ?_
  refine x_bmn.cons (xm_iload) ?_
  refine x_bmn.cons (xm_iload) ?_
  refine x_bmn.cons (xm_ast) ?_
  refine x_bmn.cons (xm_aload) ?_
  refine x_bmn.cons (xm_get) ?_
  refine x_bmn.cons (xm_iload) ?_
  refine x_bmn.cons (xm_iload) ?_
  refine x_bmn.cons (xm_ast) ?_
  refine x_bmn.cons (xm_aload) ?_
  refine x_bmn.cons (xm_get) ?_
  refine x_bmn.cons (xm_iload) ?_
  refine x_bmn.cons (xm_iload) ?_
  refine x_bmn.cons (xm_ast) ?_
  refine x_bmn.cons (xm_aload) ?_
  refine x_bmn.cons (xm_get) ?_
  refine x_bmn.cons (xm_iload) ?_
  refine x_bmn.cons (xm_iload) ?_
  refine x_bmn.cons (xm_ast) ?_
  refine x_bmn.cons (xm_aload) ?_
  refine x_bmn.cons (xm_get) ?_
  refine x_bmn.cons (xm_iload) ?_
  refine x_bmn.cons (xm_dup2) ?_
  refine x_bmn.cons (xm_ald) ?_
  refine x_bmn.cons (xm_push) ?_
  refine x_bmn.cons (xm_bin) ?_
  refine x_bmn.cons (xm_ast) ?_
  refine x_bmn.cons (xm_iload) ?_
  refine x_bmn.cons (xm_if) ?_
  refine x_bmn.cons (xm_aload) ?_
  refine x_bmn.cons (xm_get) ?_
  refine x_bmn.cons (xm_iload) ?_
  refine x_bmn.cons (xm_dup2) ?_
  refine x_bmn.cons (xm_ald) ?_
  refine x_bmn.cons (xm_push) ?_
  refine x_bmn.cons (xm_bin) ?_
  refine x_bmn.cons (xm_ast) ?_
  refine x_bmn.cons (xm_vret) ?_
  refine x_bmn.cons (xm_aload) ?_
  refine x_bmn.cons (xm_get) ?_
  refine x_bmn.cons (xm_iload) ?_
  refine x_bmn.cons (xm_push) ?_
  refine x_bmn.cons (xm_ast) ?_
  refine x_bmn.cons (xm_iload) ?_
  refine x_bmn.cons (xm_push) ?_
  refine x_bmn.cons (xm_icmp) ?_
  refine x_bmn.cons (xm_aload) ?_
  refine x_bmn.cons (xm_push) ?_
  refine x_bmn.cons (xm_put) ?_
  refine x_bmn.cons (xm_goto) ?_
  refine x_bmn.cons (xm_aload) ?_
  refine x_bmn.cons (xm_get) ?_
  refine x_bmn.cons (xm_iload) ?_
  refine x_bmn.cons (xm_push) ?_
  refine x_bmn.cons (xm_ast) ?_
  refine x_bmn.cons (xm_tn) ?_
  exact x_bmn.nil
theorem is_R_record : x_Is y_R_record m_R_record := x_is_code q6_110
def Y_R_record : XMeth := x_do 10 b_R_record
theorem sn_R_record : x_Snd y_R_record m_R_record Y_R_record := x_snd_of (by decide) rfl rfl is_R_record k_R_record
theorem ym_R_record : x_Ymn Y_R_record := x_ymn_of mn_R_record
/- CashLinkModel.sent(IIIIII)V -/
abbrev c_R_sent : ByteArray := prog_12_method_12_code
def y_R_sent : MethodName := ⟨"CashLinkModel", "sent", "(IIIIII)V"⟩
theorem d_R_sent_0 : decode c_R_sent 0 = .ok (.aload_n 0, 1) := by decide +kernel
theorem d_R_sent_1 : decode c_R_sent 1 = .ok (.getfield 119, 3) := by decide +kernel
theorem d_R_sent_4 : decode c_R_sent 4 = .ok (.sipush 3000, 3) := by decide +kernel
theorem d_R_sent_7 : decode c_R_sent 7 = .ok (.if_icmp .ne 4, 3) := by decide +kernel
theorem d_R_sent_10 : decode c_R_sent 10 = .ok (.return_, 1) := by decide +kernel
theorem d_R_sent_11 : decode c_R_sent 11 = .ok (.aload_n 0, 1) := by decide +kernel
theorem d_R_sent_12 : decode c_R_sent 12 = .ok (.getfield 68, 3) := by decide +kernel
theorem d_R_sent_15 : decode c_R_sent 15 = .ok (.aload_n 0, 1) := by decide +kernel
theorem d_R_sent_16 : decode c_R_sent 16 = .ok (.getfield 119, 3) := by decide +kernel
theorem d_R_sent_19 : decode c_R_sent 19 = .ok (.iload_n 1, 1) := by decide +kernel
theorem d_R_sent_20 : decode c_R_sent 20 = .ok (.iastore, 1) := by decide +kernel
theorem d_R_sent_21 : decode c_R_sent 21 = .ok (.aload_n 0, 1) := by decide +kernel
theorem d_R_sent_22 : decode c_R_sent 22 = .ok (.getfield 71, 3) := by decide +kernel
theorem d_R_sent_25 : decode c_R_sent 25 = .ok (.aload_n 0, 1) := by decide +kernel
theorem d_R_sent_26 : decode c_R_sent 26 = .ok (.getfield 119, 3) := by decide +kernel
theorem d_R_sent_29 : decode c_R_sent 29 = .ok (.iload_n 2, 1) := by decide +kernel
theorem d_R_sent_30 : decode c_R_sent 30 = .ok (.iastore, 1) := by decide +kernel
theorem d_R_sent_31 : decode c_R_sent 31 = .ok (.aload_n 0, 1) := by decide +kernel
theorem d_R_sent_32 : decode c_R_sent 32 = .ok (.getfield 74, 3) := by decide +kernel
theorem d_R_sent_35 : decode c_R_sent 35 = .ok (.aload_n 0, 1) := by decide +kernel
theorem d_R_sent_36 : decode c_R_sent 36 = .ok (.getfield 119, 3) := by decide +kernel
theorem d_R_sent_39 : decode c_R_sent 39 = .ok (.iload_n 3, 1) := by decide +kernel
theorem d_R_sent_40 : decode c_R_sent 40 = .ok (.iastore, 1) := by decide +kernel
theorem d_R_sent_41 : decode c_R_sent 41 = .ok (.aload_n 0, 1) := by decide +kernel
theorem d_R_sent_42 : decode c_R_sent 42 = .ok (.getfield 77, 3) := by decide +kernel
theorem d_R_sent_45 : decode c_R_sent 45 = .ok (.aload_n 0, 1) := by decide +kernel
theorem d_R_sent_46 : decode c_R_sent 46 = .ok (.getfield 119, 3) := by decide +kernel
theorem d_R_sent_49 : decode c_R_sent 49 = .ok (.iload 4, 2) := by decide +kernel
theorem d_R_sent_51 : decode c_R_sent 51 = .ok (.iastore, 1) := by decide +kernel
theorem d_R_sent_52 : decode c_R_sent 52 = .ok (.aload_n 0, 1) := by decide +kernel
theorem d_R_sent_53 : decode c_R_sent 53 = .ok (.getfield 80, 3) := by decide +kernel
theorem d_R_sent_56 : decode c_R_sent 56 = .ok (.aload_n 0, 1) := by decide +kernel
theorem d_R_sent_57 : decode c_R_sent 57 = .ok (.getfield 119, 3) := by decide +kernel
theorem d_R_sent_60 : decode c_R_sent 60 = .ok (.iload 5, 2) := by decide +kernel
theorem d_R_sent_62 : decode c_R_sent 62 = .ok (.iastore, 1) := by decide +kernel
theorem d_R_sent_63 : decode c_R_sent 63 = .ok (.aload_n 0, 1) := by decide +kernel
theorem d_R_sent_64 : decode c_R_sent 64 = .ok (.getfield 83, 3) := by decide +kernel
theorem d_R_sent_67 : decode c_R_sent 67 = .ok (.aload_n 0, 1) := by decide +kernel
theorem d_R_sent_68 : decode c_R_sent 68 = .ok (.getfield 119, 3) := by decide +kernel
theorem d_R_sent_71 : decode c_R_sent 71 = .ok (.iload 6, 2) := by decide +kernel
theorem d_R_sent_73 : decode c_R_sent 73 = .ok (.iastore, 1) := by decide +kernel
theorem d_R_sent_74 : decode c_R_sent 74 = .ok (.aload_n 0, 1) := by decide +kernel
theorem d_R_sent_75 : decode c_R_sent 75 = .ok (.dup, 1) := by decide +kernel
theorem d_R_sent_76 : decode c_R_sent 76 = .ok (.getfield 119, 3) := by decide +kernel
theorem d_R_sent_79 : decode c_R_sent 79 = .ok (.iconst 1, 1) := by decide +kernel
theorem d_R_sent_80 : decode c_R_sent 80 = .ok (.iadd, 1) := by decide +kernel
theorem d_R_sent_81 : decode c_R_sent 81 = .ok (.putfield 119, 3) := by decide +kernel
theorem d_R_sent_84 : decode c_R_sent 84 = .ok (.return_, 1) := by decide +kernel
def m_R_sent : XM := ("CashLinkModel", c_R_sent, 7, none, "sent", [], 0, 0)
def b_R_sent : XB := [(0, X_aload 0 1),
  (1, X_get 10 25),
  (4, X_push (xv_i 3000) 3),
  (7, X_icmp (fun x y => ¬ x = y) 11),
  (10, X_vret),
  (11, X_aload 0 1),
  (12, X_get 10 19),
  (15, X_aload 0 1),
  (16, X_get 10 25),
  (19, X_iload 1 1),
  (20, X_ast 0 (fun x => x)),
  (21, X_aload 0 1),
  (22, X_get 10 20),
  (25, X_aload 0 1),
  (26, X_get 10 25),
  (29, X_iload 2 1),
  (30, X_ast 0 (fun x => x)),
  (31, X_aload 0 1),
  (32, X_get 10 21),
  (35, X_aload 0 1),
  (36, X_get 10 25),
  (39, X_iload 3 1),
  (40, X_ast 0 (fun x => x)),
  (41, X_aload 0 1),
  (42, X_get 10 22),
  (45, X_aload 0 1),
  (46, X_get 10 25),
  (49, X_iload 4 2),
  (51, X_ast 0 (fun x => x)),
  (52, X_aload 0 1),
  (53, X_get 10 23),
  (56, X_aload 0 1),
  (57, X_get 10 25),
  (60, X_iload 5 2),
  (62, X_ast 0 (fun x => x)),
  (63, X_aload 0 1),
  (64, X_get 10 24),
  (67, X_aload 0 1),
  (68, X_get 10 25),
  (71, X_iload 6 2),
  (73, X_ast 0 (fun x => x)),
  (74, X_aload 0 1),
  (75, X_dup),
  (76, X_get 10 25),
  (79, X_push (xv_i 1) 1),
  (80, X_bin (fun x y => x + y)),
  (81, X_put x_tI 10 25),
  (84, X_vret)]
set_option maxRecDepth 100000 in
theorem k_R_sent : x_bok m_R_sent b_R_sent := by
  unfold b_R_sent
  refine x_bok.cons (xs_aload_n d_R_sent_0 rfl) ?_
  refine x_bok.cons (xs_get d_R_sent_1 xc10 xw10 (by decide) q5_230 (Or.inl rfl)) ?_
  refine x_bok.cons (xs_sipush d_R_sent_4 (by decide)) ?_
  refine x_bok.cons (xs_icmp_ne d_R_sent_7 (by decide)) ?_
  refine x_bok.cons (xs_vret d_R_sent_10 rfl) ?_
  refine x_bok.cons (xs_aload_n d_R_sent_11 rfl) ?_
  refine x_bok.cons (xs_get d_R_sent_12 xc10 xw10 (by decide) q5_224 (Or.inl rfl)) ?_
  refine x_bok.cons (xs_aload_n d_R_sent_15 rfl) ?_
  refine x_bok.cons (xs_get d_R_sent_16 xc10 xw10 (by decide) q5_230 (Or.inl rfl)) ?_
  refine x_bok.cons (xs_iload_n d_R_sent_19 rfl) ?_
  refine x_bok.cons (xs_iast d_R_sent_20 rfl) ?_
  refine x_bok.cons (xs_aload_n d_R_sent_21 rfl) ?_
  refine x_bok.cons (xs_get d_R_sent_22 xc10 xw10 (by decide) q5_225 (Or.inl rfl)) ?_
  refine x_bok.cons (xs_aload_n d_R_sent_25 rfl) ?_
  refine x_bok.cons (xs_get d_R_sent_26 xc10 xw10 (by decide) q5_230 (Or.inl rfl)) ?_
  refine x_bok.cons (xs_iload_n d_R_sent_29 rfl) ?_
  refine x_bok.cons (xs_iast d_R_sent_30 rfl) ?_
  refine x_bok.cons (xs_aload_n d_R_sent_31 rfl) ?_
  refine x_bok.cons (xs_get d_R_sent_32 xc10 xw10 (by decide) q5_226 (Or.inl rfl)) ?_
  refine x_bok.cons (xs_aload_n d_R_sent_35 rfl) ?_
  refine x_bok.cons (xs_get d_R_sent_36 xc10 xw10 (by decide) q5_230 (Or.inl rfl)) ?_
  refine x_bok.cons (xs_iload_n d_R_sent_39 rfl) ?_
  refine x_bok.cons (xs_iast d_R_sent_40 rfl) ?_
  refine x_bok.cons (xs_aload_n d_R_sent_41 rfl) ?_
  refine x_bok.cons (xs_get d_R_sent_42 xc10 xw10 (by decide) q5_227 (Or.inl rfl)) ?_
  refine x_bok.cons (xs_aload_n d_R_sent_45 rfl) ?_
  refine x_bok.cons (xs_get d_R_sent_46 xc10 xw10 (by decide) q5_230 (Or.inl rfl)) ?_
  refine x_bok.cons (xs_iload d_R_sent_49) ?_
  refine x_bok.cons (xs_iast d_R_sent_51 rfl) ?_
  refine x_bok.cons (xs_aload_n d_R_sent_52 rfl) ?_
  refine x_bok.cons (xs_get d_R_sent_53 xc10 xw10 (by decide) q5_228 (Or.inl rfl)) ?_
  refine x_bok.cons (xs_aload_n d_R_sent_56 rfl) ?_
  refine x_bok.cons (xs_get d_R_sent_57 xc10 xw10 (by decide) q5_230 (Or.inl rfl)) ?_
  refine x_bok.cons (xs_iload d_R_sent_60) ?_
  refine x_bok.cons (xs_iast d_R_sent_62 rfl) ?_
  refine x_bok.cons (xs_aload_n d_R_sent_63 rfl) ?_
  refine x_bok.cons (xs_get d_R_sent_64 xc10 xw10 (by decide) q5_229 (Or.inl rfl)) ?_
  refine x_bok.cons (xs_aload_n d_R_sent_67 rfl) ?_
  refine x_bok.cons (xs_get d_R_sent_68 xc10 xw10 (by decide) q5_230 (Or.inl rfl)) ?_
  refine x_bok.cons (xs_iload d_R_sent_71) ?_
  refine x_bok.cons (xs_iast d_R_sent_73 rfl) ?_
  refine x_bok.cons (xs_aload_n d_R_sent_74 rfl) ?_
  refine x_bok.cons (xs_dup d_R_sent_75) ?_
  refine x_bok.cons (xs_get d_R_sent_76 xc10 xw10 (by decide) q5_230 (Or.inl rfl)) ?_
  refine x_bok.cons (xs_iconst d_R_sent_79 (by decide)) ?_
  refine x_bok.cons (xs_iadd d_R_sent_80) ?_
  refine x_bok.cons (xs_put d_R_sent_81 xc10 xw10 xt10 xn10 (by decide) q5_230 (Or.inl rfl) rfl rfl x_fitI) ?_
  refine x_bok.cons (xs_vret d_R_sent_84 rfl) ?_
  exact x_bok.nil
set_option maxRecDepth 100000 in
theorem mn_R_sent : x_bmn b_R_sent := by
  unfold b_R_sent
  refine x_bmn.cons (xm_aload) ?_
  refine x_bmn.cons (xm_get) ?_
  refine x_bmn.cons (xm_push) ?_
  refine x_bmn.cons (xm_icmp) ?_
  refine x_bmn.cons (xm_vret) ?_
  refine x_bmn.cons (xm_aload) ?_
  refine x_bmn.cons (xm_get) ?_
  refine x_bmn.cons (xm_aload) ?_
  refine x_bmn.cons (xm_get) ?_
  refine x_bmn.cons (xm_iload) ?_
  refine x_bmn.cons (xm_ast) ?_
  refine x_bmn.cons (xm_aload) ?_
  refine x_bmn.cons (xm_get) ?_
  refine x_bmn.cons (xm_aload) ?_
  refine x_bmn.cons (xm_get) ?_
  refine x_bmn.cons (xm_iload) ?_
  refine x_bmn.cons (xm_ast) ?_
  refine x_bmn.cons (xm_aload) ?_
  refine x_bmn.cons (xm_get) ?_
  refine x_bmn.cons (xm_aload) ?_
  refine x_bmn.cons (xm_get) ?_
  refine x_bmn.cons (xm_iload) ?_
  refine x_bmn.cons (xm_ast) ?_
  refine x_bmn.cons (xm_aload) ?_
  refine x_bmn.cons (xm_get) ?_
  refine x_bmn.cons (xm_aload) ?_
  refine x_bmn.cons (xm_get) ?_
  refine x_bmn.cons (xm_iload) ?_
  refine x_bmn.cons (xm_ast) ?_
  refine x_bmn.cons (xm_aload) ?_
  refine x_bmn.cons (xm_get) ?_
  refine x_bmn.cons (xm_aload) ?_
  refine x_bmn.cons (xm_get) ?_
  refine x_bmn.cons (xm_iload) ?_
  refine x_bmn.cons (xm_ast) ?_
  refine x_bmn.cons (xm_aload) ?_
  refine x_bmn.cons (xm_get) ?_
  refine x_bmn.cons (xm_aload) ?_
  refine x_bmn.cons (xm_get) ?_
  refine x_bmn.cons (xm_iload) ?_
  refine x_bmn.cons (xm_ast) ?_
  refine x_bmn.cons (xm_aload) ?_
  refine x_bmn.cons (xm_dup) ?_
  refine x_bmn.cons (xm_get) ?_
  refine x_bmn.cons (xm_push) ?_
  refine x_bmn.cons (xm_bin) ?_
  refine x_bmn.cons (xm_put) ?_
  refine x_bmn.cons (xm_vret) ?_
  exact x_bmn.nil
theorem is_R_sent : x_Is y_R_sent m_R_sent := x_is_code q6_124
def Y_R_sent : XMeth := x_do 7 b_R_sent
theorem sn_R_sent : x_Snd y_R_sent m_R_sent Y_R_sent := x_snd_of (by decide) rfl rfl is_R_sent k_R_sent
theorem ym_R_sent : x_Ymn Y_R_sent := x_ymn_of mn_R_sent
