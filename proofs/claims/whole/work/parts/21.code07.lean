/- java/util/ArrayList.fastRemove([Ljava/lang/Object;I)V -/
abbrev c_A_fastRemove : ByteArray := prog_35_method_39_code
def y_A_fastRemove : MethodName := ⟨"java/util/ArrayList", "fastRemove", "([Ljava/lang/Object;I)V"⟩
theorem d_A_fastRemove_0 : decode c_A_fastRemove 0 = .ok (.aload_n 0, 1) := by decide +kernel
theorem d_A_fastRemove_1 : decode c_A_fastRemove 1 = .ok (.dup, 1) := by decide +kernel
theorem d_A_fastRemove_2 : decode c_A_fastRemove 2 = .ok (.getfield 63, 3) := by decide +kernel
theorem d_A_fastRemove_5 : decode c_A_fastRemove 5 = .ok (.iconst 1, 1) := by decide +kernel
theorem d_A_fastRemove_6 : decode c_A_fastRemove 6 = .ok (.iadd, 1) := by decide +kernel
theorem d_A_fastRemove_7 : decode c_A_fastRemove 7 = .ok (.putfield 63, 3) := by decide +kernel
theorem d_A_fastRemove_10 : decode c_A_fastRemove 10 = .ok (.aload_n 0, 1) := by decide +kernel
theorem d_A_fastRemove_11 : decode c_A_fastRemove 11 = .ok (.getfield 48, 3) := by decide +kernel
theorem d_A_fastRemove_14 : decode c_A_fastRemove 14 = .ok (.iconst 1, 1) := by decide +kernel
theorem d_A_fastRemove_15 : decode c_A_fastRemove 15 = .ok (.isub, 1) := by decide +kernel
theorem d_A_fastRemove_16 : decode c_A_fastRemove 16 = .ok (.dup, 1) := by decide +kernel
theorem d_A_fastRemove_17 : decode c_A_fastRemove 17 = .ok (.istore_n 3, 1) := by decide +kernel
theorem d_A_fastRemove_18 : decode c_A_fastRemove 18 = .ok (.iload_n 2, 1) := by decide +kernel
theorem d_A_fastRemove_19 : decode c_A_fastRemove 19 = .ok (.if_icmp .le 15, 3) := by decide +kernel
theorem d_A_fastRemove_22 : decode c_A_fastRemove 22 = .ok (.aload_n 1, 1) := by decide +kernel
theorem d_A_fastRemove_23 : decode c_A_fastRemove 23 = .ok (.iload_n 2, 1) := by decide +kernel
theorem d_A_fastRemove_24 : decode c_A_fastRemove 24 = .ok (.iconst 1, 1) := by decide +kernel
theorem d_A_fastRemove_25 : decode c_A_fastRemove 25 = .ok (.iadd, 1) := by decide +kernel
theorem d_A_fastRemove_26 : decode c_A_fastRemove 26 = .ok (.aload_n 1, 1) := by decide +kernel
theorem d_A_fastRemove_27 : decode c_A_fastRemove 27 = .ok (.iload_n 2, 1) := by decide +kernel
theorem d_A_fastRemove_28 : decode c_A_fastRemove 28 = .ok (.iload_n 3, 1) := by decide +kernel
theorem d_A_fastRemove_29 : decode c_A_fastRemove 29 = .ok (.iload_n 2, 1) := by decide +kernel
theorem d_A_fastRemove_30 : decode c_A_fastRemove 30 = .ok (.isub, 1) := by decide +kernel
theorem d_A_fastRemove_31 : decode c_A_fastRemove 31 = .ok (.invokestatic 112, 3) := by decide +kernel
theorem d_A_fastRemove_34 : decode c_A_fastRemove 34 = .ok (.aload_n 1, 1) := by decide +kernel
theorem d_A_fastRemove_35 : decode c_A_fastRemove 35 = .ok (.aload_n 0, 1) := by decide +kernel
theorem d_A_fastRemove_36 : decode c_A_fastRemove 36 = .ok (.iload_n 3, 1) := by decide +kernel
theorem d_A_fastRemove_37 : decode c_A_fastRemove 37 = .ok (.dup_x1, 1) := by decide +kernel
theorem d_A_fastRemove_38 : decode c_A_fastRemove 38 = .ok (.putfield 48, 3) := by decide +kernel
theorem d_A_fastRemove_41 : decode c_A_fastRemove 41 = .ok (.aconst_null, 1) := by decide +kernel
theorem d_A_fastRemove_42 : decode c_A_fastRemove 42 = .ok (.aastore, 1) := by decide +kernel
theorem d_A_fastRemove_43 : decode c_A_fastRemove 43 = .ok (.return_, 1) := by decide +kernel
def m_A_fastRemove : XM := ("java/util/ArrayList", c_A_fastRemove, 4, none, "fastRemove", [], 1, 26)
def b_A_fastRemove : XB := [(0, X_aload 0 1),
  (1, X_dup),
  (2, X_get 8 2),
  (5, X_push (xv_i 1) 1),
  (6, X_bin (fun x y => x + y)),
  (7, X_put x_tI 8 2),
  (10, X_aload 0 1),
  (11, X_get 8 1),
  (14, X_push (xv_i 1) 1),
  (15, X_bin (fun x y => x - y)),
  (16, X_dup),
  (17, X_istore 3 1),
  (18, X_iload 2 1),
  (19, X_icmp (fun x y => x ≤ y) 34),
  (22, X_aload 1 1),
  (23, X_iload 2 1),
  (24, X_push (xv_i 1) 1),
  (25, X_bin (fun x y => x + y)),
  (26, X_aload 1 1),
  (27, X_iload 2 1),
  (28, X_iload 3 1),
  (29, X_iload 2 1),
  (30, X_bin (fun x y => x - y)),
  (31, X_acpy),
  (34, X_aload 1 1),
  (35, X_aload 0 1),
  (36, X_iload 3 1),
  (37, X_dup_x1),
  (38, X_put x_tI 8 1),
  (41, X_push xv_n 1),
  (42, X_aastD),
  (43, X_vret)]
set_option maxRecDepth 100000 in
theorem k_A_fastRemove : x_bok m_A_fastRemove b_A_fastRemove := by
  unfold b_A_fastRemove
  refine x_bok.cons (xs_aload_n d_A_fastRemove_0 rfl) ?_
  refine x_bok.cons (xs_dup d_A_fastRemove_1) ?_
  refine x_bok.cons (xs_get d_A_fastRemove_2 xc8 xw8 (by decide) q1_69 (Or.inr q1_70)) ?_
  refine x_bok.cons (xs_iconst d_A_fastRemove_5 (by decide)) ?_
  refine x_bok.cons (xs_iadd d_A_fastRemove_6) ?_
  refine x_bok.cons (xs_put d_A_fastRemove_7 xc8 xw8 xt8 xn8 (by decide) q1_69 (Or.inr q1_70) rfl rfl x_fitI) ?_
  refine x_bok.cons (xs_aload_n d_A_fastRemove_10 rfl) ?_
  refine x_bok.cons (xs_get d_A_fastRemove_11 xc8 xw8 (by decide) q1_67 (Or.inl rfl)) ?_
  refine x_bok.cons (xs_iconst d_A_fastRemove_14 (by decide)) ?_
  refine x_bok.cons (xs_isub d_A_fastRemove_15) ?_
  refine x_bok.cons (xs_dup d_A_fastRemove_16) ?_
  refine x_bok.cons (xs_istore_n d_A_fastRemove_17 rfl (by decide)) ?_
  refine x_bok.cons (xs_iload_n d_A_fastRemove_18 rfl) ?_
  refine x_bok.cons (xs_icmp_le d_A_fastRemove_19 (by decide)) ?_
  refine x_bok.cons (xs_aload_n d_A_fastRemove_22 rfl) ?_
  refine x_bok.cons (xs_iload_n d_A_fastRemove_23 rfl) ?_
  refine x_bok.cons (xs_iconst d_A_fastRemove_24 (by decide)) ?_
  refine x_bok.cons (xs_iadd d_A_fastRemove_25) ?_
  refine x_bok.cons (xs_aload_n d_A_fastRemove_26 rfl) ?_
  refine x_bok.cons (xs_iload_n d_A_fastRemove_27 rfl) ?_
  refine x_bok.cons (xs_iload_n d_A_fastRemove_28 rfl) ?_
  refine x_bok.cons (xs_iload_n d_A_fastRemove_29 rfl) ?_
  refine x_bok.cons (xs_isub d_A_fastRemove_30) ?_
  refine x_bok.cons (xs_acpy d_A_fastRemove_31 ⟨q4_74, q3_2, q3_1, q1_24⟩ (by decide)) ?_
  refine x_bok.cons (xs_aload_n d_A_fastRemove_34 rfl) ?_
  refine x_bok.cons (xs_aload_n d_A_fastRemove_35 rfl) ?_
  refine x_bok.cons (xs_iload_n d_A_fastRemove_36 rfl) ?_
  refine x_bok.cons (xs_dup_x1 d_A_fastRemove_37) ?_
  refine x_bok.cons (xs_put d_A_fastRemove_38 xc8 xw8 xt8 xn8 (by decide) q1_67 (Or.inl rfl) rfl rfl x_fitI) ?_
  refine x_bok.cons (xs_null d_A_fastRemove_41) ?_
  refine x_bok.cons (xs_aastD d_A_fastRemove_42) ?_
  refine x_bok.cons (xs_vret d_A_fastRemove_43 rfl) ?_
  exact x_bok.nil
set_option maxRecDepth 100000 in
theorem mn_A_fastRemove : x_bmn b_A_fastRemove := by
  unfold b_A_fastRemove
  refine x_bmn.cons (xm_aload) ?_
  refine x_bmn.cons (xm_dup) ?_
  refine x_bmn.cons (xm_get) ?_
  refine x_bmn.cons (xm_push) ?_
  refine x_bmn.cons (xm_bin) ?_
  refine x_bmn.cons (xm_put) ?_
  refine x_bmn.cons (xm_aload) ?_
  refine x_bmn.cons (xm_get) ?_
  refine x_bmn.cons (xm_push) ?_
  refine x_bmn.cons (xm_bin) ?_
  refine x_bmn.cons (xm_dup) ?_
  refine x_bmn.cons (xm_istore) ?_
  refine x_bmn.cons (xm_iload) ?_
  refine x_bmn.cons (xm_icmp) ?_
  refine x_bmn.cons (xm_aload) ?_
  refine x_bmn.cons (xm_iload) ?_
  refine x_bmn.cons (xm_push) ?_
  refine x_bmn.cons (xm_bin) ?_
  refine x_bmn.cons (xm_aload) ?_
  refine x_bmn.cons (xm_iload) ?_
  refine x_bmn.cons (xm_iload) ?_
  refine x_bmn.cons (xm_iload) ?_
  refine x_bmn.cons (xm_bin) ?_
  refine x_bmn.cons (xm_acpy) ?_
  refine x_bmn.cons (xm_aload) ?_
  refine x_bmn.cons (xm_aload) ?_
  refine x_bmn.cons (xm_iload) ?_
  refine x_bmn.cons (xm_dup_x1) ?_
  refine x_bmn.cons (xm_put) ?_
  refine x_bmn.cons (xm_push) ?_
  refine x_bmn.cons (xm_aastD) ?_
  refine x_bmn.cons (xm_vret) ?_
  exact x_bmn.nil
theorem is_A_fastRemove : x_Is y_A_fastRemove m_A_fastRemove := x_is_code q4_73
def Y_A_fastRemove : XMeth := x_do 4 b_A_fastRemove
theorem sn_A_fastRemove : x_Snd y_A_fastRemove m_A_fastRemove Y_A_fastRemove := x_snd_of (by decide) rfl rfl is_A_fastRemove k_A_fastRemove
theorem ym_A_fastRemove : x_Ymn Y_A_fastRemove := x_ymn_of mn_A_fastRemove
/- java/util/ArrayList.remove(I)Ljava/lang/Object; -/
abbrev c_A_remove : ByteArray := prog_35_method_29_code
def y_A_remove : MethodName := ⟨"java/util/ArrayList", "remove", "(I)Ljava/lang/Object;"⟩
theorem d_A_remove_0 : decode c_A_remove 0 = .ok (.iload_n 1, 1) := by decide +kernel
theorem d_A_remove_1 : decode c_A_remove 1 = .ok (.aload_n 0, 1) := by decide +kernel
theorem d_A_remove_2 : decode c_A_remove 2 = .ok (.getfield 48, 3) := by decide +kernel
theorem d_A_remove_5 : decode c_A_remove 5 = .ok (.invokestatic 118, 3) := by decide +kernel
theorem d_A_remove_8 : decode c_A_remove 8 = .ok (.pop, 1) := by decide +kernel
theorem d_A_remove_9 : decode c_A_remove 9 = .ok (.aload_n 0, 1) := by decide +kernel
theorem d_A_remove_10 : decode c_A_remove 10 = .ok (.getfield 9, 3) := by decide +kernel
theorem d_A_remove_13 : decode c_A_remove 13 = .ok (.astore_n 2, 1) := by decide +kernel
theorem d_A_remove_14 : decode c_A_remove 14 = .ok (.aload_n 2, 1) := by decide +kernel
theorem d_A_remove_15 : decode c_A_remove 15 = .ok (.iload_n 1, 1) := by decide +kernel
theorem d_A_remove_16 : decode c_A_remove 16 = .ok (.aaload, 1) := by decide +kernel
theorem d_A_remove_17 : decode c_A_remove 17 = .ok (.astore_n 3, 1) := by decide +kernel
theorem d_A_remove_18 : decode c_A_remove 18 = .ok (.aload_n 0, 1) := by decide +kernel
theorem d_A_remove_19 : decode c_A_remove 19 = .ok (.aload_n 2, 1) := by decide +kernel
theorem d_A_remove_20 : decode c_A_remove 20 = .ok (.iload_n 1, 1) := by decide +kernel
theorem d_A_remove_21 : decode c_A_remove 21 = .ok (.invokevirtual 144, 3) := by decide +kernel
theorem d_A_remove_24 : decode c_A_remove 24 = .ok (.aload_n 3, 1) := by decide +kernel
theorem d_A_remove_25 : decode c_A_remove 25 = .ok (.areturn, 1) := by decide +kernel
def m_A_remove : XM := ("java/util/ArrayList", c_A_remove, 4, (some (.object "java/lang/Object")), "remove", [], 2, 49)
def b_A_remove : XB := [(0, X_iload 1 1),
  (1, X_aload 0 1),
  (2, X_get 8 1),
  (5, X_invS Y_ZObjects_checkIndex 2 []),
  (8, X_pop),
  (9, X_aload 0 1),
  (10, X_get 8 0),
  (13, X_astore 2 1),
  (14, X_aload 2 1),
  (15, X_iload 1 1),
  (16, X_aald 3),
  (17, X_astore 3 1),
  (18, X_aload 0 1),
  (19, X_aload 2 1),
  (20, X_iload 1 1),
  (21, X_invV 8 Y_A_fastRemove 2 []),
  (24, X_aload 3 1),
  (25, X_aret)]
set_option maxRecDepth 100000 in
theorem k_A_remove : x_bok m_A_remove b_A_remove := by
  unfold b_A_remove
  refine x_bok.cons (xs_iload_n d_A_remove_0 rfl) ?_
  refine x_bok.cons (xs_aload_n d_A_remove_1 rfl) ?_
  refine x_bok.cons (xs_get d_A_remove_2 xc8 xw8 (by decide) q1_67 (Or.inl rfl)) ?_
  refine x_bok.cons (xs_invS d_A_remove_5 sn_ZObjects_checkIndex is_ZObjects_checkIndex ⟨q3_93, q3_94, q1_28⟩ (by decide) (by decide) rfl) ?_
  refine x_bok.cons (xs_pop d_A_remove_8) ?_
  refine x_bok.cons (xs_aload_n d_A_remove_9 rfl) ?_
  refine x_bok.cons (xs_get d_A_remove_10 xc8 xw8 (by decide) q1_66 (Or.inl rfl)) ?_
  refine x_bok.cons (xs_astore_n d_A_remove_13 rfl (by decide)) ?_
  refine x_bok.cons (xs_aload_n d_A_remove_14 rfl) ?_
  refine x_bok.cons (xs_iload_n d_A_remove_15 rfl) ?_
  refine x_bok.cons (xs_aald d_A_remove_16 rfl) ?_
  refine x_bok.cons (xs_astore_n d_A_remove_17 rfl (by decide)) ?_
  refine x_bok.cons (xs_aload_n d_A_remove_18 rfl) ?_
  refine x_bok.cons (xs_aload_n d_A_remove_19 rfl) ?_
  refine x_bok.cons (xs_iload_n d_A_remove_20 rfl) ?_
  refine x_bok.cons (xs_invV d_A_remove_21 xc8 sn_A_fastRemove is_A_fastRemove ⟨q4_70, q4_72, (x_sel (x_p2 (List.mem_of_getElem? (i := 2) rfl))), q1_5⟩ (by decide) (by decide) rfl) ?_
  refine x_bok.cons (xs_aload_n d_A_remove_24 rfl) ?_
  refine x_bok.cons (xs_aret d_A_remove_25 rfl (by first | exact Or.inl ⟨_, rfl⟩ | exact Or.inr ⟨_, rfl⟩)) ?_
  exact x_bok.nil
set_option maxRecDepth 100000 in
theorem mn_A_remove : x_bmn b_A_remove := by
  unfold b_A_remove
  refine x_bmn.cons (xm_iload) ?_
  refine x_bmn.cons (xm_aload) ?_
  refine x_bmn.cons (xm_get) ?_
  refine x_bmn.cons (xm_invS ym_ZObjects_checkIndex) ?_
  refine x_bmn.cons (xm_pop) ?_
  refine x_bmn.cons (xm_aload) ?_
  refine x_bmn.cons (xm_get) ?_
  refine x_bmn.cons (xm_astore) ?_
  refine x_bmn.cons (xm_aload) ?_
  refine x_bmn.cons (xm_iload) ?_
  refine x_bmn.cons (xm_aald) ?_
  refine x_bmn.cons (xm_astore) ?_
  refine x_bmn.cons (xm_aload) ?_
  refine x_bmn.cons (xm_aload) ?_
  refine x_bmn.cons (xm_iload) ?_
  refine x_bmn.cons (xm_invV ym_A_fastRemove) ?_
  refine x_bmn.cons (xm_aload) ?_
  refine x_bmn.cons (xm_aret) ?_
  exact x_bmn.nil
theorem is_A_remove : x_Is y_A_remove m_A_remove := x_is_code q4_69
def Y_A_remove : XMeth := x_do 4 b_A_remove
theorem sn_A_remove : x_Snd y_A_remove m_A_remove Y_A_remove := x_snd_of (by decide) rfl rfl is_A_remove k_A_remove
theorem ym_A_remove : x_Ymn Y_A_remove := x_ymn_of mn_A_remove
/- CashLink$Machine.forgetVoid(I)V -/
abbrev c_M_forgetVoid : ByteArray := prog_6_method_15_code
def y_M_forgetVoid : MethodName := ⟨"CashLink$Machine", "forgetVoid", "(I)V"⟩
theorem d_M_forgetVoid_0 : decode c_M_forgetVoid 0 = .ok (.aload_n 0, 1) := by decide +kernel
theorem d_M_forgetVoid_1 : decode c_M_forgetVoid 1 = .ok (.getfield 37, 3) := by decide +kernel
theorem d_M_forgetVoid_4 : decode c_M_forgetVoid 4 = .ok (.invokevirtual 79, 3) := by decide +kernel
theorem d_M_forgetVoid_7 : decode c_M_forgetVoid 7 = .ok (.iconst 1, 1) := by decide +kernel
theorem d_M_forgetVoid_8 : decode c_M_forgetVoid 8 = .ok (.isub, 1) := by decide +kernel
theorem d_M_forgetVoid_9 : decode c_M_forgetVoid 9 = .ok (.istore_n 2, 1) := by decide +kernel
theorem d_M_forgetVoid_10 : decode c_M_forgetVoid 10 = .ok (.iload_n 2, 1) := by decide +kernel
theorem d_M_forgetVoid_11 : decode c_M_forgetVoid 11 = .ok (.ifCond .lt 36, 3) := by decide +kernel
theorem d_M_forgetVoid_14 : decode c_M_forgetVoid 14 = .ok (.aload_n 0, 1) := by decide +kernel
theorem d_M_forgetVoid_15 : decode c_M_forgetVoid 15 = .ok (.getfield 37, 3) := by decide +kernel
theorem d_M_forgetVoid_18 : decode c_M_forgetVoid 18 = .ok (.iload_n 2, 1) := by decide +kernel
theorem d_M_forgetVoid_19 : decode c_M_forgetVoid 19 = .ok (.invokevirtual 127, 3) := by decide +kernel
theorem d_M_forgetVoid_22 : decode c_M_forgetVoid 22 = .ok (.checkcast 94, 3) := by decide +kernel
theorem d_M_forgetVoid_25 : decode c_M_forgetVoid 25 = .ok (.invokevirtual 134, 3) := by decide +kernel
theorem d_M_forgetVoid_28 : decode c_M_forgetVoid 28 = .ok (.iload_n 1, 1) := by decide +kernel
theorem d_M_forgetVoid_29 : decode c_M_forgetVoid 29 = .ok (.if_icmp .ne 12, 3) := by decide +kernel
theorem d_M_forgetVoid_32 : decode c_M_forgetVoid 32 = .ok (.aload_n 0, 1) := by decide +kernel
theorem d_M_forgetVoid_33 : decode c_M_forgetVoid 33 = .ok (.getfield 37, 3) := by decide +kernel
theorem d_M_forgetVoid_36 : decode c_M_forgetVoid 36 = .ok (.iload_n 2, 1) := by decide +kernel
theorem d_M_forgetVoid_37 : decode c_M_forgetVoid 37 = .ok (.invokevirtual 201, 3) := by decide +kernel
theorem d_M_forgetVoid_40 : decode c_M_forgetVoid 40 = .ok (.pop, 1) := by decide +kernel
theorem d_M_forgetVoid_41 : decode c_M_forgetVoid 41 = .ok (.iinc 2 (-1), 3) := by decide +kernel
theorem d_M_forgetVoid_44 : decode c_M_forgetVoid 44 = .ok (.goto (-34), 3) := by decide +kernel
theorem d_M_forgetVoid_47 : decode c_M_forgetVoid 47 = .ok (.return_, 1) := by decide +kernel
def m_M_forgetVoid : XM := ("CashLink$Machine", c_M_forgetVoid, 3, none, "forgetVoid", [], 3, 72)
def b_M_forgetVoid : XB := [(0, X_aload 0 1),
  (1, X_get 3 10),
  (4, X_invV 8 Y_A_size 0 []),
  (7, X_push (xv_i 1) 1),
  (8, X_bin (fun x y => x - y)),
  (9, X_istore 2 1),
  (10, X_iload 2 1),
  (11, X_if (fun x => x < 0) 47),
  (14, X_aload 0 1),
  (15, X_get 3 10),
  (18, X_iload 2 1),
  (19, X_invV 8 Y_A_get 1 []),
  (22, X_cast 6),
  (25, X_invV 6 Y_E_trace 0 []),
  (28, X_iload 1 1),
  (29, X_icmp (fun x y => ¬ x = y) 41),
  (32, X_aload 0 1),
  (33, X_get 3 10),
  (36, X_iload 2 1),
  (37, X_invV 8 Y_A_remove 1 []),
  (40, X_pop),
  (41, X_iinc 2 (-1)),
  (44, X_goto 10),
  (47, X_vret)]
set_option maxRecDepth 100000 in
theorem k_M_forgetVoid : x_bok m_M_forgetVoid b_M_forgetVoid := by
  unfold b_M_forgetVoid
  refine x_bok.cons (xs_aload_n d_M_forgetVoid_0 rfl) ?_
  refine x_bok.cons (xs_get d_M_forgetVoid_1 xc3 xw3 (by decide) q1_177 (Or.inl rfl)) ?_
  refine x_bok.cons (xs_invV d_M_forgetVoid_4 xc8 sn_A_size is_A_size ⟨q2_125, q2_126, q2_127, q1_5⟩ (by decide) (by decide) rfl) ?_
  refine x_bok.cons (xs_iconst d_M_forgetVoid_7 (by decide)) ?_
  refine x_bok.cons (xs_isub d_M_forgetVoid_8) ?_
  refine x_bok.cons (xs_istore_n d_M_forgetVoid_9 rfl (by decide)) ?_
  refine x_bok.cons (xs_iload_n d_M_forgetVoid_10 rfl) ?_
  refine x_bok.cons (xs_if_lt d_M_forgetVoid_11 (by decide)) ?_
  refine x_bok.cons (xs_aload_n d_M_forgetVoid_14 rfl) ?_
  refine x_bok.cons (xs_get d_M_forgetVoid_15 xc3 xw3 (by decide) q1_177 (Or.inl rfl)) ?_
  refine x_bok.cons (xs_iload_n d_M_forgetVoid_18 rfl) ?_
  refine x_bok.cons (xs_invV d_M_forgetVoid_19 xc8 sn_A_get is_A_get ⟨q3_89, q3_90, q3_91, q1_5⟩ (by decide) (by decide) rfl) ?_
  refine x_bok.cons (xs_cast d_M_forgetVoid_22 xc6 q2_150 q7_4) ?_
  refine x_bok.cons (xs_invV d_M_forgetVoid_25 xc6 sn_E_trace is_E_trace ⟨q3_103, q3_104, q3_105, q1_21⟩ (by decide) (by decide) rfl) ?_
  refine x_bok.cons (xs_iload_n d_M_forgetVoid_28 rfl) ?_
  refine x_bok.cons (xs_icmp_ne d_M_forgetVoid_29 (by decide)) ?_
  refine x_bok.cons (xs_aload_n d_M_forgetVoid_32 rfl) ?_
  refine x_bok.cons (xs_get d_M_forgetVoid_33 xc3 xw3 (by decide) q1_177 (Or.inl rfl)) ?_
  refine x_bok.cons (xs_iload_n d_M_forgetVoid_36 rfl) ?_
  refine x_bok.cons (xs_invV d_M_forgetVoid_37 xc8 sn_A_remove is_A_remove ⟨q4_66, q4_67, q4_68, q1_5⟩ (by decide) (by decide) rfl) ?_
  refine x_bok.cons (xs_pop d_M_forgetVoid_40) ?_
  refine x_bok.cons (xs_iinc d_M_forgetVoid_41 (by decide) (by decide)) ?_
  refine x_bok.cons (xs_goto d_M_forgetVoid_44 (by decide)) ?_
  refine x_bok.cons (xs_vret d_M_forgetVoid_47 rfl) ?_
  exact x_bok.nil
set_option maxRecDepth 100000 in
theorem mn_M_forgetVoid : x_bmn b_M_forgetVoid := by
  unfold b_M_forgetVoid
  refine x_bmn.cons (xm_aload) ?_
  refine x_bmn.cons (xm_get) ?_
  refine x_bmn.cons (xm_invV ym_A_size) ?_
  refine x_bmn.cons (xm_push) ?_
  refine x_bmn.cons (xm_bin) ?_
  refine x_bmn.cons (xm_istore) ?_
  refine x_bmn.cons (xm_iload) ?_
  refine x_bmn.cons (xm_if) ?_
  refine x_bmn.cons (xm_aload) ?_
  refine x_bmn.cons (xm_get) ?_
  refine x_bmn.cons (xm_iload) ?_
  refine x_bmn.cons (xm_invV ym_A_get) ?_
  refine x_bmn.cons (xm_cast) ?_
  refine x_bmn.cons (xm_invV ym_E_trace) ?_
  refine x_bmn.cons (xm_iload) ?_
  refine x_bmn.cons (xm_icmp) ?_
  refine x_bmn.cons (xm_aload) ?_
  refine x_bmn.cons (xm_get) ?_
  refine x_bmn.cons (xm_iload) ?_
  refine x_bmn.cons (xm_invV ym_A_remove) ?_
  refine x_bmn.cons (xm_pop) ?_
  refine x_bmn.cons (xm_iinc) ?_
  refine x_bmn.cons (xm_goto) ?_
  refine x_bmn.cons (xm_vret) ?_
  exact x_bmn.nil
theorem is_M_forgetVoid : x_Is y_M_forgetVoid m_M_forgetVoid := x_is_code q4_65
def Y_M_forgetVoid : XMeth := x_do 3 b_M_forgetVoid
theorem sn_M_forgetVoid : x_Snd y_M_forgetVoid m_M_forgetVoid Y_M_forgetVoid := x_snd_of (by decide) rfl rfl is_M_forgetVoid k_M_forgetVoid
theorem ym_M_forgetVoid : x_Ymn Y_M_forgetVoid := x_ymn_of mn_M_forgetVoid
/- CashLink$Machine.endVoid(I)V -/
abbrev c_M_endVoid : ByteArray := prog_6_method_13_code
def y_M_endVoid : MethodName := ⟨"CashLink$Machine", "endVoid", "(I)V"⟩
theorem d_M_endVoid_0 : decode c_M_endVoid 0 = .ok (.aload_n 0, 1) := by decide +kernel
theorem d_M_endVoid_1 : decode c_M_endVoid 1 = .ok (.iload_n 1, 1) := by decide +kernel
theorem d_M_endVoid_2 : decode c_M_endVoid 2 = .ok (.invokevirtual 195, 3) := by decide +kernel
theorem d_M_endVoid_5 : decode c_M_endVoid 5 = .ok (.ifCond .eq 29, 3) := by decide +kernel
theorem d_M_endVoid_8 : decode c_M_endVoid 8 = .ok (.aload_n 0, 1) := by decide +kernel
theorem d_M_endVoid_9 : decode c_M_endVoid 9 = .ok (.getfield 14, 3) := by decide +kernel
theorem d_M_endVoid_12 : decode c_M_endVoid 12 = .ok (.new 94, 3) := by decide +kernel
theorem d_M_endVoid_15 : decode c_M_endVoid 15 = .ok (.dup, 1) := by decide +kernel
theorem d_M_endVoid_16 : decode c_M_endVoid 16 = .ok (.iconst 5, 1) := by decide +kernel
theorem d_M_endVoid_17 : decode c_M_endVoid 17 = .ok (.aload_n 0, 1) := by decide +kernel
theorem d_M_endVoid_18 : decode c_M_endVoid 18 = .ok (.getfield 41, 3) := by decide +kernel
theorem d_M_endVoid_21 : decode c_M_endVoid 21 = .ok (.iload_n 1, 1) := by decide +kernel
theorem d_M_endVoid_22 : decode c_M_endVoid 22 = .ok (.iconst 0, 1) := by decide +kernel
theorem d_M_endVoid_23 : decode c_M_endVoid 23 = .ok (.invokespecial 178, 3) := by decide +kernel
theorem d_M_endVoid_26 : decode c_M_endVoid 26 = .ok (.invokevirtual 102, 3) := by decide +kernel
theorem d_M_endVoid_29 : decode c_M_endVoid 29 = .ok (.aload_n 0, 1) := by decide +kernel
theorem d_M_endVoid_30 : decode c_M_endVoid 30 = .ok (.iload_n 1, 1) := by decide +kernel
theorem d_M_endVoid_31 : decode c_M_endVoid 31 = .ok (.invokevirtual 198, 3) := by decide +kernel
theorem d_M_endVoid_34 : decode c_M_endVoid 34 = .ok (.return_, 1) := by decide +kernel
def m_M_endVoid : XM := ("CashLink$Machine", c_M_endVoid, 2, none, "endVoid", [], 8, 179)
def b_M_endVoid : XB := [(0, X_aload 0 1),
  (1, X_iload 1 1),
  (2, X_invV 3 Y_M_isVoid 1 []),
  (5, X_if (fun x => x = 0) 34),
  (8, X_aload 0 1),
  (9, X_get 3 3),
  (12, X_new 6 6 xD6),
  (15, X_dup),
  (16, X_push (xv_i 5) 1),
  (17, X_aload 0 1),
  (18, X_get 3 0),
  (21, X_iload 1 1),
  (22, X_push (xv_i 0) 1),
  (23, X_invI Y_E_init_2 4 []),
  (26, X_invV 4 Y_J_write 1 []),
  (29, X_aload 0 1),
  (30, X_iload 1 1),
  (31, X_invV 3 Y_M_forgetVoid 1 []),
  (34, X_vret)]
set_option maxRecDepth 100000 in
theorem k_M_endVoid : x_bok m_M_endVoid b_M_endVoid := by
  unfold b_M_endVoid
  refine x_bok.cons (xs_aload_n d_M_endVoid_0 rfl) ?_
  refine x_bok.cons (xs_iload_n d_M_endVoid_1 rfl) ?_
  refine x_bok.cons (xs_invV d_M_endVoid_2 xc3 sn_M_isVoid is_M_isVoid ⟨q4_58, q4_60, (x_sel (x_p2 (List.mem_of_getElem? (i := 0) rfl))), q1_8⟩ (by decide) (by decide) rfl) ?_
  refine x_bok.cons (xs_if_eq d_M_endVoid_5 (by decide)) ?_
  refine x_bok.cons (xs_aload_n d_M_endVoid_8 rfl) ?_
  refine x_bok.cons (xs_get d_M_endVoid_9 xc3 xw3 (by decide) q1_168 (Or.inl rfl)) ?_
  refine x_bok.cons (xs_new d_M_endVoid_12 xc6 xw6 xt6 q2_150 q2_151 q1_21 xd6 rfl) ?_
  refine x_bok.cons (xs_dup d_M_endVoid_15) ?_
  refine x_bok.cons (xs_iconst d_M_endVoid_16 (by decide)) ?_
  refine x_bok.cons (xs_aload_n d_M_endVoid_17 rfl) ?_
  refine x_bok.cons (xs_get d_M_endVoid_18 xc3 xw3 (by decide) q1_165 (Or.inl rfl)) ?_
  refine x_bok.cons (xs_iload_n d_M_endVoid_21 rfl) ?_
  refine x_bok.cons (xs_iconst d_M_endVoid_22 (by decide)) ?_
  refine x_bok.cons (xs_invI d_M_endVoid_23 sn_E_init_2 is_E_init_2 ⟨q3_71, q3_72, q3_73, q1_21⟩ (by decide) rfl (by decide) rfl) ?_
  refine x_bok.cons (xs_invV d_M_endVoid_26 xc4 sn_J_write is_J_write ⟨q2_178, q2_179, q2_180, q1_7⟩ (by decide) (by decide) rfl) ?_
  refine x_bok.cons (xs_aload_n d_M_endVoid_29 rfl) ?_
  refine x_bok.cons (xs_iload_n d_M_endVoid_30 rfl) ?_
  refine x_bok.cons (xs_invV d_M_endVoid_31 xc3 sn_M_forgetVoid is_M_forgetVoid ⟨q4_62, q4_64, (x_sel (x_p2 (List.mem_of_getElem? (i := 1) rfl))), q1_8⟩ (by decide) (by decide) rfl) ?_
  refine x_bok.cons (xs_vret d_M_endVoid_34 rfl) ?_
  exact x_bok.nil
set_option maxRecDepth 100000 in
theorem mn_M_endVoid : x_bmn b_M_endVoid := by
  unfold b_M_endVoid
  refine x_bmn.cons (xm_aload) ?_
  refine x_bmn.cons (xm_iload) ?_
  refine x_bmn.cons (xm_invV ym_M_isVoid) ?_
  refine x_bmn.cons (xm_if) ?_
  refine x_bmn.cons (xm_aload) ?_
  refine x_bmn.cons (xm_get) ?_
  refine x_bmn.cons (xm_new) ?_
  refine x_bmn.cons (xm_dup) ?_
  refine x_bmn.cons (xm_push) ?_
  refine x_bmn.cons (xm_aload) ?_
  refine x_bmn.cons (xm_get) ?_
  refine x_bmn.cons (xm_iload) ?_
  refine x_bmn.cons (xm_push) ?_
  refine x_bmn.cons (xm_invI ym_E_init_2) ?_
  refine x_bmn.cons (xm_invV ym_J_write) ?_
  refine x_bmn.cons (xm_aload) ?_
  refine x_bmn.cons (xm_iload) ?_
  refine x_bmn.cons (xm_invV ym_M_forgetVoid) ?_
  refine x_bmn.cons (xm_vret) ?_
  exact x_bmn.nil
theorem is_M_endVoid : x_Is y_M_endVoid m_M_endVoid := x_is_code q4_57
def Y_M_endVoid : XMeth := x_do 2 b_M_endVoid
theorem sn_M_endVoid : x_Snd y_M_endVoid m_M_endVoid Y_M_endVoid := x_snd_of (by decide) rfl rfl is_M_endVoid k_M_endVoid
theorem ym_M_endVoid : x_Ymn Y_M_endVoid := x_ymn_of mn_M_endVoid
/- CashLink$Machine.isAwaited(I)Z -/
abbrev c_M_isAwaited : ByteArray := prog_6_method_9_code
def y_M_isAwaited : MethodName := ⟨"CashLink$Machine", "isAwaited", "(I)Z"⟩
theorem d_M_isAwaited_0 : decode c_M_isAwaited 0 = .ok (.aload_n 0, 1) := by decide +kernel
theorem d_M_isAwaited_1 : decode c_M_isAwaited 1 = .ok (.getfield 31, 3) := by decide +kernel
theorem d_M_isAwaited_4 : decode c_M_isAwaited 4 = .ok (.getstatic 121, 3) := by decide +kernel
theorem d_M_isAwaited_7 : decode c_M_isAwaited 7 = .ok (.if_acmp .ne 15, 3) := by decide +kernel
theorem d_M_isAwaited_10 : decode c_M_isAwaited 10 = .ok (.iload_n 1, 1) := by decide +kernel
theorem d_M_isAwaited_11 : decode c_M_isAwaited 11 = .ok (.aload_n 0, 1) := by decide +kernel
theorem d_M_isAwaited_12 : decode c_M_isAwaited 12 = .ok (.getfield 96, 3) := by decide +kernel
theorem d_M_isAwaited_15 : decode c_M_isAwaited 15 = .ok (.if_icmp .ne 7, 3) := by decide +kernel
theorem d_M_isAwaited_18 : decode c_M_isAwaited 18 = .ok (.iconst 1, 1) := by decide +kernel
theorem d_M_isAwaited_19 : decode c_M_isAwaited 19 = .ok (.goto 4, 3) := by decide +kernel
theorem d_M_isAwaited_22 : decode c_M_isAwaited 22 = .ok (.iconst 0, 1) := by decide +kernel
theorem d_M_isAwaited_23 : decode c_M_isAwaited 23 = .ok (.ireturn, 1) := by decide +kernel
def m_M_isAwaited : XM := ("CashLink$Machine", c_M_isAwaited, 2, (some .boolean), "isAwaited", [], 0, 0)
def b_M_isAwaited : XB := [(0, X_aload 0 1),
  (1, X_get 3 5),
  (4, X_push (xv_r 49 3) 3),
  (7, X_acmp (fun q => ¬ q) 22),
  (10, X_iload 1 1),
  (11, X_aload 0 1),
  (12, X_get 3 8),
  (15, X_icmp (fun x y => ¬ x = y) 22),
  (18, X_push (xv_i 1) 1),
  (19, X_goto 23),
  (22, X_push (xv_i 0) 1),
  (23, X_zret)]
set_option maxRecDepth 100000 in
theorem k_M_isAwaited : x_bok m_M_isAwaited b_M_isAwaited := by
  unfold b_M_isAwaited
  refine x_bok.cons (xs_aload_n d_M_isAwaited_0 rfl) ?_
  refine x_bok.cons (xs_get d_M_isAwaited_1 xc3 xw3 (by decide) q1_172 (Or.inl rfl)) ?_
  refine x_bok.cons (xs_gets d_M_isAwaited_4 (List.mem_of_getElem? (i := 3) rfl) q3_54 (Or.inl rfl)) ?_
  refine x_bok.cons (xs_acmp_ne d_M_isAwaited_7 (by decide)) ?_
  refine x_bok.cons (xs_iload_n d_M_isAwaited_10 rfl) ?_
  refine x_bok.cons (xs_aload_n d_M_isAwaited_11 rfl) ?_
  refine x_bok.cons (xs_get d_M_isAwaited_12 xc3 xw3 (by decide) q1_175 (Or.inl rfl)) ?_
  refine x_bok.cons (xs_icmp_ne d_M_isAwaited_15 (by decide)) ?_
  refine x_bok.cons (xs_iconst d_M_isAwaited_18 (by decide)) ?_
  refine x_bok.cons (xs_goto d_M_isAwaited_19 (by decide)) ?_
  refine x_bok.cons (xs_iconst d_M_isAwaited_22 (by decide)) ?_
  refine x_bok.cons (xs_zret d_M_isAwaited_23 rfl) ?_
  exact x_bok.nil
set_option maxRecDepth 100000 in
theorem mn_M_isAwaited : x_bmn b_M_isAwaited := by
  unfold b_M_isAwaited
  refine x_bmn.cons (xm_aload) ?_
  refine x_bmn.cons (xm_get) ?_
  refine x_bmn.cons (xm_push) ?_
  refine x_bmn.cons (xm_acmp) ?_
  refine x_bmn.cons (xm_iload) ?_
  refine x_bmn.cons (xm_aload) ?_
  refine x_bmn.cons (xm_get) ?_
  refine x_bmn.cons (xm_icmp) ?_
  refine x_bmn.cons (xm_push) ?_
  refine x_bmn.cons (xm_goto) ?_
  refine x_bmn.cons (xm_push) ?_
  refine x_bmn.cons (xm_zret) ?_
  exact x_bmn.nil
theorem is_M_isAwaited : x_Is y_M_isAwaited m_M_isAwaited := x_is_code q4_79
def Y_M_isAwaited : XMeth := x_do 2 b_M_isAwaited
theorem sn_M_isAwaited : x_Snd y_M_isAwaited m_M_isAwaited Y_M_isAwaited := x_snd_of (by decide) rfl rfl is_M_isAwaited k_M_isAwaited
theorem ym_M_isAwaited : x_Ymn Y_M_isAwaited := x_ymn_of mn_M_isAwaited
/- CashLink$Message.answer()I -/
abbrev c_G_answer : ByteArray := prog_7_method_13_code
def y_G_answer : MethodName := ⟨"CashLink$Message", "answer", "()I"⟩
theorem d_G_answer_0 : decode c_G_answer 0 = .ok (.aload_n 0, 1) := by decide +kernel
theorem d_G_answer_1 : decode c_G_answer 1 = .ok (.getfield 26, 3) := by decide +kernel
theorem d_G_answer_4 : decode c_G_answer 4 = .ok (.ireturn, 1) := by decide +kernel
def m_G_answer : XM := ("CashLink$Message", c_G_answer, 1, (some .int), "answer", [], 0, 0)
def b_G_answer : XB := [(0, X_aload 0 1),
  (1, X_get 7 5),
  (4, X_iret)]
set_option maxRecDepth 100000 in
theorem k_G_answer : x_bok m_G_answer b_G_answer := by
  unfold b_G_answer
  refine x_bok.cons (xs_aload_n d_G_answer_0 rfl) ?_
  refine x_bok.cons (xs_get d_G_answer_1 xc7 xw7 (by decide) q3_39 (Or.inl rfl)) ?_
  refine x_bok.cons (xs_iret d_G_answer_4 rfl) ?_
  exact x_bok.nil
set_option maxRecDepth 100000 in
theorem mn_G_answer : x_bmn b_G_answer := by
  unfold b_G_answer
  refine x_bmn.cons (xm_aload) ?_
  refine x_bmn.cons (xm_get) ?_
  refine x_bmn.cons (xm_iret) ?_
  exact x_bmn.nil
theorem is_G_answer : x_Is y_G_answer m_G_answer := x_is_code q4_83
def Y_G_answer : XMeth := x_do 1 b_G_answer
theorem sn_G_answer : x_Snd y_G_answer m_G_answer Y_G_answer := x_snd_of (by decide) rfl rfl is_G_answer k_G_answer
theorem ym_G_answer : x_Ymn Y_G_answer := x_ymn_of mn_G_answer
/- CashLink$Dispenser.notesIn(II)I -/
abbrev c_D_notesIn : ByteArray := prog_3_method_4_code
def y_D_notesIn : MethodName := ⟨"CashLink$Dispenser", "notesIn", "(II)I"⟩
theorem d_D_notesIn_0 : decode c_D_notesIn 0 = .ok (.iload_n 0, 1) := by decide +kernel
theorem d_D_notesIn_1 : decode c_D_notesIn 1 = .ok (.bipush 8, 2) := by decide +kernel
theorem d_D_notesIn_3 : decode c_D_notesIn 3 = .ok (.iload_n 1, 1) := by decide +kernel
theorem d_D_notesIn_4 : decode c_D_notesIn 4 = .ok (.imul, 1) := by decide +kernel
theorem d_D_notesIn_5 : decode c_D_notesIn 5 = .ok (.ishr, 1) := by decide +kernel
theorem d_D_notesIn_6 : decode c_D_notesIn 6 = .ok (.sipush 255, 3) := by decide +kernel
theorem d_D_notesIn_9 : decode c_D_notesIn 9 = .ok (.iand, 1) := by decide +kernel
theorem d_D_notesIn_10 : decode c_D_notesIn 10 = .ok (.ireturn, 1) := by decide +kernel
def m_D_notesIn : XM := ("CashLink$Dispenser", c_D_notesIn, 2, (some .int), "notesIn", [], 0, 0)
def b_D_notesIn : XB := [(0, X_iload 0 1),
  (1, X_push (xv_i 8) 2),
  (3, X_iload 1 1),
  (4, X_bin (fun x y => x * y)),
  (5, X_bin (fun x y => x >>> (y &&& 31))),
  (6, X_push (xv_i 255) 3),
  (9, X_bin (fun x y => x &&& y)),
  (10, X_iret)]
set_option maxRecDepth 100000 in
theorem k_D_notesIn : x_bok m_D_notesIn b_D_notesIn := by
  unfold b_D_notesIn
  refine x_bok.cons (xs_iload_n d_D_notesIn_0 rfl) ?_
  refine x_bok.cons (xs_bipush d_D_notesIn_1 (by decide)) ?_
  refine x_bok.cons (xs_iload_n d_D_notesIn_3 rfl) ?_
  refine x_bok.cons (xs_imul d_D_notesIn_4) ?_
  refine x_bok.cons (xs_ishr d_D_notesIn_5) ?_
  refine x_bok.cons (xs_sipush d_D_notesIn_6 (by decide)) ?_
  refine x_bok.cons (xs_iand d_D_notesIn_9) ?_
  refine x_bok.cons (xs_iret d_D_notesIn_10 rfl) ?_
  exact x_bok.nil
set_option maxRecDepth 100000 in
theorem mn_D_notesIn : x_bmn b_D_notesIn := by
  unfold b_D_notesIn
  refine x_bmn.cons (xm_iload) ?_
  refine x_bmn.cons (xm_push) ?_
  refine x_bmn.cons (xm_iload) ?_
  refine x_bmn.cons (xm_bin) ?_
  refine x_bmn.cons (xm_bin) ?_
  refine x_bmn.cons (xm_push) ?_
  refine x_bmn.cons (xm_bin) ?_
  refine x_bmn.cons (xm_iret) ?_
  exact x_bmn.nil
theorem is_D_notesIn : x_Is y_D_notesIn m_D_notesIn := x_is_code q4_94
def Y_D_notesIn : XMeth := x_do 2 b_D_notesIn
theorem sn_D_notesIn : x_Snd y_D_notesIn m_D_notesIn Y_D_notesIn := x_snd_of (by decide) rfl rfl is_D_notesIn k_D_notesIn
theorem ym_D_notesIn : x_Ymn Y_D_notesIn := x_ymn_of mn_D_notesIn
/- CashLink$Dispenser.dispense(II)I -/
abbrev c_D_dispense : ByteArray := prog_3_method_5_code
def y_D_dispense : MethodName := ⟨"CashLink$Dispenser", "dispense", "(II)I"⟩
theorem d_D_dispense_0 : decode c_D_dispense 0 = .ok (.iload_n 1, 1) := by decide +kernel
theorem d_D_dispense_1 : decode c_D_dispense 1 = .ok (.aload_n 0, 1) := by decide +kernel
theorem d_D_dispense_2 : decode c_D_dispense 2 = .ok (.getfield 29, 3) := by decide +kernel
theorem d_D_dispense_5 : decode c_D_dispense 5 = .ok (.if_icmp .ne 5, 3) := by decide +kernel
theorem d_D_dispense_8 : decode c_D_dispense 8 = .ok (.iconst 0, 1) := by decide +kernel
theorem d_D_dispense_9 : decode c_D_dispense 9 = .ok (.ireturn, 1) := by decide +kernel
theorem d_D_dispense_10 : decode c_D_dispense 10 = .ok (.aload_n 0, 1) := by decide +kernel
theorem d_D_dispense_11 : decode c_D_dispense 11 = .ok (.getfield 15, 3) := by decide +kernel
theorem d_D_dispense_14 : decode c_D_dispense 14 = .ok (.istore_n 3, 1) := by decide +kernel
theorem d_D_dispense_15 : decode c_D_dispense 15 = .ok (.aload_n 0, 1) := by decide +kernel
theorem d_D_dispense_16 : decode c_D_dispense 16 = .ok (.bipush 41, 2) := by decide +kernel
theorem d_D_dispense_18 : decode c_D_dispense 18 = .ok (.putfield 15, 3) := by decide +kernel
theorem d_D_dispense_21 : decode c_D_dispense 21 = .ok (.iconst 0, 1) := by decide +kernel
theorem d_D_dispense_22 : decode c_D_dispense 22 = .ok (.istore 4, 2) := by decide +kernel
theorem d_D_dispense_24 : decode c_D_dispense 24 = .ok (.iconst 3, 1) := by decide +kernel
theorem d_D_dispense_25 : decode c_D_dispense 25 = .ok (.istore 5, 2) := by decide +kernel
theorem d_D_dispense_27 : decode c_D_dispense 27 = .ok (.iload 5, 2) := by decide +kernel
theorem d_D_dispense_29 : decode c_D_dispense 29 = .ok (.ifCond .lt 52, 3) := by decide +kernel
theorem d_D_dispense_32 : decode c_D_dispense 32 = .ok (.iload_n 2, 1) := by decide +kernel
theorem d_D_dispense_33 : decode c_D_dispense 33 = .ok (.iload 5, 2) := by decide +kernel
theorem d_D_dispense_35 : decode c_D_dispense 35 = .ok (.invokestatic 32, 3) := by decide +kernel
theorem d_D_dispense_38 : decode c_D_dispense 38 = .ok (.iload_n 3, 1) := by decide +kernel
theorem d_D_dispense_39 : decode c_D_dispense 39 = .ok (.invokestatic 23, 3) := by decide +kernel
theorem d_D_dispense_42 : decode c_D_dispense 42 = .ok (.istore 6, 2) := by decide +kernel
theorem d_D_dispense_44 : decode c_D_dispense 44 = .ok (.iload_n 3, 1) := by decide +kernel
theorem d_D_dispense_45 : decode c_D_dispense 45 = .ok (.iload 6, 2) := by decide +kernel
theorem d_D_dispense_47 : decode c_D_dispense 47 = .ok (.isub, 1) := by decide +kernel
theorem d_D_dispense_48 : decode c_D_dispense 48 = .ok (.istore_n 3, 1) := by decide +kernel
theorem d_D_dispense_49 : decode c_D_dispense 49 = .ok (.aload_n 0, 1) := by decide +kernel
theorem d_D_dispense_50 : decode c_D_dispense 50 = .ok (.getfield 9, 3) := by decide +kernel
theorem d_D_dispense_53 : decode c_D_dispense 53 = .ok (.iload 5, 2) := by decide +kernel
theorem d_D_dispense_55 : decode c_D_dispense 55 = .ok (.dup2, 1) := by decide +kernel
theorem d_D_dispense_56 : decode c_D_dispense 56 = .ok (.iaload, 1) := by decide +kernel
theorem d_D_dispense_57 : decode c_D_dispense 57 = .ok (.iload 6, 2) := by decide +kernel
theorem d_D_dispense_59 : decode c_D_dispense 59 = .ok (.isub, 1) := by decide +kernel
theorem d_D_dispense_60 : decode c_D_dispense 60 = .ok (.iastore, 1) := by decide +kernel
theorem d_D_dispense_61 : decode c_D_dispense 61 = .ok (.iload 4, 2) := by decide +kernel
theorem d_D_dispense_63 : decode c_D_dispense 63 = .ok (.iload 6, 2) := by decide +kernel
theorem d_D_dispense_65 : decode c_D_dispense 65 = .ok (.getstatic 35, 3) := by decide +kernel
theorem d_D_dispense_68 : decode c_D_dispense 68 = .ok (.iload 5, 2) := by decide +kernel
theorem d_D_dispense_70 : decode c_D_dispense 70 = .ok (.iaload, 1) := by decide +kernel
theorem d_D_dispense_71 : decode c_D_dispense 71 = .ok (.imul, 1) := by decide +kernel
theorem d_D_dispense_72 : decode c_D_dispense 72 = .ok (.iadd, 1) := by decide +kernel
theorem d_D_dispense_73 : decode c_D_dispense 73 = .ok (.istore 4, 2) := by decide +kernel
theorem d_D_dispense_75 : decode c_D_dispense 75 = .ok (.iinc 5 (-1), 3) := by decide +kernel
theorem d_D_dispense_78 : decode c_D_dispense 78 = .ok (.goto (-51), 3) := by decide +kernel
theorem d_D_dispense_81 : decode c_D_dispense 81 = .ok (.aload_n 0, 1) := by decide +kernel
theorem d_D_dispense_82 : decode c_D_dispense 82 = .ok (.iload_n 1, 1) := by decide +kernel
theorem d_D_dispense_83 : decode c_D_dispense 83 = .ok (.putfield 29, 3) := by decide +kernel
theorem d_D_dispense_86 : decode c_D_dispense 86 = .ok (.aload_n 0, 1) := by decide +kernel
theorem d_D_dispense_87 : decode c_D_dispense 87 = .ok (.iload 4, 2) := by decide +kernel
theorem d_D_dispense_89 : decode c_D_dispense 89 = .ok (.putfield 38, 3) := by decide +kernel
theorem d_D_dispense_92 : decode c_D_dispense 92 = .ok (.aload_n 0, 1) := by decide +kernel
theorem d_D_dispense_93 : decode c_D_dispense 93 = .ok (.dup, 1) := by decide +kernel
theorem d_D_dispense_94 : decode c_D_dispense 94 = .ok (.getfield 41, 3) := by decide +kernel
theorem d_D_dispense_97 : decode c_D_dispense 97 = .ok (.iload 4, 2) := by decide +kernel
theorem d_D_dispense_99 : decode c_D_dispense 99 = .ok (.iadd, 1) := by decide +kernel
theorem d_D_dispense_100 : decode c_D_dispense 100 = .ok (.putfield 41, 3) := by decide +kernel
theorem d_D_dispense_103 : decode c_D_dispense 103 = .ok (.iload 4, 2) := by decide +kernel
theorem d_D_dispense_105 : decode c_D_dispense 105 = .ok (.ireturn, 1) := by decide +kernel
def m_D_dispense : XM := ("CashLink$Dispenser", c_D_dispense, 7, (some .int), "dispense", [], 1, 21)
def b_D_dispense : XB := [(0, X_iload 1 1),
  (1, X_aload 0 1),
  (2, X_get 5 2),
  (5, X_icmp (fun x y => ¬ x = y) 10),
  (8, X_push (xv_i 0) 1),
  (9, X_iret),
  (10, X_aload 0 1),
  (11, X_get 5 1),
  (14, X_istore 3 1),
  (15, X_aload 0 1),
  (16, X_push (xv_i 41) 2),
  (18, X_put x_tI 5 1),
  (21, X_push (xv_i 0) 1),
  (22, X_istore 4 2),
  (24, X_push (xv_i 3) 1),
  (25, X_istore 5 2),
  (27, X_iload 5 2),
  (29, X_if (fun x => x < 0) 81),
  (32, X_iload 2 1),
  (33, X_iload 5 2),
  (35, X_invS Y_D_notesIn 2 []),
  (38, X_iload 3 1),
  (39, X_mm (fun x y => if y < x then y else x)),
  (42, X_istore 6 2),
  (44, X_iload 3 1),
  (45, X_iload 6 2),
  (47, X_bin (fun x y => x - y)),
  (48, X_istore 3 1),
  (49, X_aload 0 1),
  (50, X_get 5 0),
  (53, X_iload 5 2),
  (55, X_dup2),
  (56, X_ald 0),
  (57, X_iload 6 2),
  (59, X_bin (fun x y => x - y)),
  (60, X_ast 0 (fun x => x)),
  (61, X_iload 4 2),
  (63, X_iload 6 2),
  (65, X_push (xv_r 53 0) 3),
  (68, X_iload 5 2),
  (70, X_ald 0),
  (71, X_bin (fun x y => x * y)),
  (72, X_bin (fun x y => x + y)),
  (73, X_istore 4 2),
  (75, X_iinc 5 (-1)),
  (78, X_goto 27),
  (81, X_aload 0 1),
  (82, X_iload 1 1),
  (83, X_put x_tI 5 2),
  (86, X_aload 0 1),
  (87, X_iload 4 2),
  (89, X_put x_tI 5 3),
  (92, X_aload 0 1),
  (93, X_dup),
  (94, X_get 5 4),
  (97, X_iload 4 2),
  (99, X_bin (fun x y => x + y)),
  (100, X_put x_tI 5 4),
  (103, X_iload 4 2),
  (105, X_iret)]
set_option maxRecDepth 100000 in
theorem k_D_dispense : x_bok m_D_dispense b_D_dispense := by
  unfold b_D_dispense
  refine x_bok.cons (xs_iload_n d_D_dispense_0 rfl) ?_
  refine x_bok.cons (xs_aload_n d_D_dispense_1 rfl) ?_
  refine x_bok.cons (xs_get d_D_dispense_2 xc5 xw5 (by decide) q1_147 (Or.inl rfl)) ?_
  refine x_bok.cons (xs_icmp_ne d_D_dispense_5 (by decide)) ?_
  refine x_bok.cons (xs_iconst d_D_dispense_8 (by decide)) ?_
  refine x_bok.cons (xs_iret d_D_dispense_9 rfl) ?_
  refine x_bok.cons (xs_aload_n d_D_dispense_10 rfl) ?_
  refine x_bok.cons (xs_get d_D_dispense_11 xc5 xw5 (by decide) q1_145 (Or.inl rfl)) ?_
  refine x_bok.cons (xs_istore_n d_D_dispense_14 rfl (by decide)) ?_
  refine x_bok.cons (xs_aload_n d_D_dispense_15 rfl) ?_
  refine x_bok.cons (xs_bipush d_D_dispense_16 (by decide)) ?_
  refine x_bok.cons (xs_put d_D_dispense_18 xc5 xw5 xt5 xn5 (by decide) q1_145 (Or.inl rfl) rfl rfl x_fitI) ?_
  refine x_bok.cons (xs_iconst d_D_dispense_21 (by decide)) ?_
  refine x_bok.cons (xs_istore d_D_dispense_22 (by decide)) ?_
  refine x_bok.cons (xs_iconst d_D_dispense_24 (by decide)) ?_
  refine x_bok.cons (xs_istore d_D_dispense_25 (by decide)) ?_
  refine x_bok.cons (xs_iload d_D_dispense_27) ?_
  refine x_bok.cons (xs_if_lt d_D_dispense_29 (by decide)) ?_
  refine x_bok.cons (xs_iload_n d_D_dispense_32 rfl) ?_
  refine x_bok.cons (xs_iload d_D_dispense_33) ?_
  refine x_bok.cons (xs_invS d_D_dispense_35 sn_D_notesIn is_D_notesIn ⟨q4_92, q4_93, q1_9⟩ (by decide) (by decide) rfl) ?_
  refine x_bok.cons (xs_iload_n d_D_dispense_38 rfl) ?_
  refine x_bok.cons (xs_mmin d_D_dispense_39 ⟨q2_122, q2_123, q1_18, q2_124⟩ (by decide)) ?_
  refine x_bok.cons (xs_istore d_D_dispense_42 (by decide)) ?_
  refine x_bok.cons (xs_iload_n d_D_dispense_44 rfl) ?_
  refine x_bok.cons (xs_iload d_D_dispense_45) ?_
  refine x_bok.cons (xs_isub d_D_dispense_47) ?_
  refine x_bok.cons (xs_istore_n d_D_dispense_48 rfl (by decide)) ?_
  refine x_bok.cons (xs_aload_n d_D_dispense_49 rfl) ?_
  refine x_bok.cons (xs_get d_D_dispense_50 xc5 xw5 (by decide) q1_144 (Or.inl rfl)) ?_
  refine x_bok.cons (xs_iload d_D_dispense_53) ?_
  refine x_bok.cons (xs_dup2 d_D_dispense_55) ?_
  refine x_bok.cons (xs_iald d_D_dispense_56 rfl) ?_
  refine x_bok.cons (xs_iload d_D_dispense_57) ?_
  refine x_bok.cons (xs_isub d_D_dispense_59) ?_
  refine x_bok.cons (xs_iast d_D_dispense_60 rfl) ?_
  refine x_bok.cons (xs_iload d_D_dispense_61) ?_
  refine x_bok.cons (xs_iload d_D_dispense_63) ?_
  refine x_bok.cons (xs_gets d_D_dispense_65 (List.mem_of_getElem? (i := 10) rfl) q4_95 (Or.inl rfl)) ?_
  refine x_bok.cons (xs_iload d_D_dispense_68) ?_
  refine x_bok.cons (xs_iald d_D_dispense_70 rfl) ?_
  refine x_bok.cons (xs_imul d_D_dispense_71) ?_
  refine x_bok.cons (xs_iadd d_D_dispense_72) ?_
  refine x_bok.cons (xs_istore d_D_dispense_73 (by decide)) ?_
  refine x_bok.cons (xs_iinc d_D_dispense_75 (by decide) (by decide)) ?_
  refine x_bok.cons (xs_goto d_D_dispense_78 (by decide)) ?_
  refine x_bok.cons (xs_aload_n d_D_dispense_81 rfl) ?_
  refine x_bok.cons (xs_iload_n d_D_dispense_82 rfl) ?_
  refine x_bok.cons (xs_put d_D_dispense_83 xc5 xw5 xt5 xn5 (by decide) q1_147 (Or.inl rfl) rfl rfl x_fitI) ?_
  refine x_bok.cons (xs_aload_n d_D_dispense_86 rfl) ?_
  refine x_bok.cons (xs_iload d_D_dispense_87) ?_
  refine x_bok.cons (xs_put d_D_dispense_89 xc5 xw5 xt5 xn5 (by decide) q1_148 (Or.inl rfl) rfl rfl x_fitI) ?_
  refine x_bok.cons (xs_aload_n d_D_dispense_92 rfl) ?_
  refine x_bok.cons (xs_dup d_D_dispense_93) ?_
  refine x_bok.cons (xs_get d_D_dispense_94 xc5 xw5 (by decide) q1_149 (Or.inl rfl)) ?_
  refine x_bok.cons (xs_iload d_D_dispense_97) ?_
  refine x_bok.cons (xs_iadd d_D_dispense_99) ?_
  refine x_bok.cons (xs_put d_D_dispense_100 xc5 xw5 xt5 xn5 (by decide) q1_149 (Or.inl rfl) rfl rfl x_fitI) ?_
  refine x_bok.cons (xs_iload d_D_dispense_103) ?_
  refine x_bok.cons (xs_iret d_D_dispense_105 rfl) ?_
  exact x_bok.nil
set_option maxRecDepth 100000 in
theorem mn_D_dispense : x_bmn b_D_dispense := by
  unfold b_D_dispense
  refine x_bmn.cons (xm_iload) ?_
  refine x_bmn.cons (xm_aload) ?_
  refine x_bmn.cons (xm_get) ?_
  refine x_bmn.cons (xm_icmp) ?_
  refine x_bmn.cons (xm_push) ?_
  refine x_bmn.cons (xm_iret) ?_
  refine x_bmn.cons (xm_aload) ?_
  refine x_bmn.cons (xm_get) ?_
  refine x_bmn.cons (xm_istore) ?_
  refine x_bmn.cons (xm_aload) ?_
  refine x_bmn.cons (xm_push) ?_
  refine x_bmn.cons (xm_put) ?_
  refine x_bmn.cons (xm_push) ?_
  refine x_bmn.cons (xm_istore) ?_
  refine x_bmn.cons (xm_push) ?_
  refine x_bmn.cons (xm_istore) ?_
  refine x_bmn.cons (xm_iload) ?_
  refine x_bmn.cons (xm_if) ?_
  refine x_bmn.cons (xm_iload) ?_
  refine x_bmn.cons (xm_iload) ?_
  refine x_bmn.cons (xm_invS ym_D_notesIn) ?_
  refine x_bmn.cons (xm_iload) ?_
  refine x_bmn.cons (xm_mm) ?_
  refine x_bmn.cons (xm_istore) ?_
  refine x_bmn.cons (xm_iload) ?_
  refine x_bmn.cons (xm_iload) ?_
  refine x_bmn.cons (xm_bin) ?_
  refine x_bmn.cons (xm_istore) ?_
  refine x_bmn.cons (xm_aload) ?_
  refine x_bmn.cons (xm_get) ?_
  refine x_bmn.cons (xm_iload) ?_
  refine x_bmn.cons (xm_dup2) ?_
  refine x_bmn.cons (xm_ald) ?_
  refine x_bmn.cons (xm_iload) ?_
  refine x_bmn.cons (xm_bin) ?_
  refine x_bmn.cons (xm_ast) ?_
  refine x_bmn.cons (xm_iload) ?_
  refine x_bmn.cons (xm_iload) ?_
  refine x_bmn.cons (xm_push) ?_
  refine x_bmn.cons (xm_iload) ?_
  refine x_bmn.cons (xm_ald) ?_
  refine x_bmn.cons (xm_bin) ?_
  refine x_bmn.cons (xm_bin) ?_
  refine x_bmn.cons (xm_istore) ?_
  refine x_bmn.cons (xm_iinc) ?_
  refine x_bmn.cons (xm_goto) ?_
  refine x_bmn.cons (xm_aload) ?_
  refine x_bmn.cons (xm_iload) ?_
  refine x_bmn.cons (xm_put) ?_
  refine x_bmn.cons (xm_aload) ?_
  refine x_bmn.cons (xm_iload) ?_
  refine x_bmn.cons (xm_put) ?_
  refine x_bmn.cons (xm_aload) ?_
  refine x_bmn.cons (xm_dup) ?_
  refine x_bmn.cons (xm_get) ?_
  refine x_bmn.cons (xm_iload) ?_
  refine x_bmn.cons (xm_bin) ?_
  refine x_bmn.cons (xm_put) ?_
  refine x_bmn.cons (xm_iload) ?_
  refine x_bmn.cons (xm_iret) ?_
  exact x_bmn.nil
theorem is_D_dispense : x_Is y_D_dispense m_D_dispense := x_is_code q4_91
def Y_D_dispense : XMeth := x_do 7 b_D_dispense
theorem sn_D_dispense : x_Snd y_D_dispense m_D_dispense Y_D_dispense := x_snd_of (by decide) rfl rfl is_D_dispense k_D_dispense
theorem ym_D_dispense : x_Ymn Y_D_dispense := x_ymn_of mn_D_dispense
/- CashLink$Dispenser.cameOutFor(I)I -/
abbrev c_D_cameOutFor : ByteArray := prog_3_method_6_code
def y_D_cameOutFor : MethodName := ⟨"CashLink$Dispenser", "cameOutFor", "(I)I"⟩
theorem d_D_cameOutFor_0 : decode c_D_cameOutFor 0 = .ok (.iload_n 1, 1) := by decide +kernel
theorem d_D_cameOutFor_1 : decode c_D_cameOutFor 1 = .ok (.aload_n 0, 1) := by decide +kernel
theorem d_D_cameOutFor_2 : decode c_D_cameOutFor 2 = .ok (.getfield 29, 3) := by decide +kernel
theorem d_D_cameOutFor_5 : decode c_D_cameOutFor 5 = .ok (.if_icmp .ne 10, 3) := by decide +kernel
theorem d_D_cameOutFor_8 : decode c_D_cameOutFor 8 = .ok (.aload_n 0, 1) := by decide +kernel
theorem d_D_cameOutFor_9 : decode c_D_cameOutFor 9 = .ok (.getfield 38, 3) := by decide +kernel
theorem d_D_cameOutFor_12 : decode c_D_cameOutFor 12 = .ok (.goto 4, 3) := by decide +kernel
theorem d_D_cameOutFor_15 : decode c_D_cameOutFor 15 = .ok (.iconst 0, 1) := by decide +kernel
theorem d_D_cameOutFor_16 : decode c_D_cameOutFor 16 = .ok (.ireturn, 1) := by decide +kernel
def m_D_cameOutFor : XM := ("CashLink$Dispenser", c_D_cameOutFor, 2, (some .int), "cameOutFor", [], 0, 0)
def b_D_cameOutFor : XB := [(0, X_iload 1 1),
  (1, X_aload 0 1),
  (2, X_get 5 2),
  (5, X_icmp (fun x y => ¬ x = y) 15),
  (8, X_aload 0 1),
  (9, X_get 5 3),
  (12, X_goto 16),
  (15, X_push (xv_i 0) 1),
  (16, X_iret)]
set_option maxRecDepth 100000 in
theorem k_D_cameOutFor : x_bok m_D_cameOutFor b_D_cameOutFor := by
  unfold b_D_cameOutFor
  refine x_bok.cons (xs_iload_n d_D_cameOutFor_0 rfl) ?_
  refine x_bok.cons (xs_aload_n d_D_cameOutFor_1 rfl) ?_
  refine x_bok.cons (xs_get d_D_cameOutFor_2 xc5 xw5 (by decide) q1_147 (Or.inl rfl)) ?_
  refine x_bok.cons (xs_icmp_ne d_D_cameOutFor_5 (by decide)) ?_
  refine x_bok.cons (xs_aload_n d_D_cameOutFor_8 rfl) ?_
  refine x_bok.cons (xs_get d_D_cameOutFor_9 xc5 xw5 (by decide) q1_148 (Or.inl rfl)) ?_
  refine x_bok.cons (xs_goto d_D_cameOutFor_12 (by decide)) ?_
  refine x_bok.cons (xs_iconst d_D_cameOutFor_15 (by decide)) ?_
  refine x_bok.cons (xs_iret d_D_cameOutFor_16 rfl) ?_
  exact x_bok.nil
set_option maxRecDepth 100000 in
theorem mn_D_cameOutFor : x_bmn b_D_cameOutFor := by
  unfold b_D_cameOutFor
  refine x_bmn.cons (xm_iload) ?_
  refine x_bmn.cons (xm_aload) ?_
  refine x_bmn.cons (xm_get) ?_
  refine x_bmn.cons (xm_icmp) ?_
  refine x_bmn.cons (xm_aload) ?_
  refine x_bmn.cons (xm_get) ?_
  refine x_bmn.cons (xm_goto) ?_
  refine x_bmn.cons (xm_push) ?_
  refine x_bmn.cons (xm_iret) ?_
  exact x_bmn.nil
theorem is_D_cameOutFor : x_Is y_D_cameOutFor m_D_cameOutFor := x_is_code q4_104
def Y_D_cameOutFor : XMeth := x_do 2 b_D_cameOutFor
theorem sn_D_cameOutFor : x_Snd y_D_cameOutFor m_D_cameOutFor Y_D_cameOutFor := x_snd_of (by decide) rfl rfl is_D_cameOutFor k_D_cameOutFor
theorem ym_D_cameOutFor : x_Ymn Y_D_cameOutFor := x_ymn_of mn_D_cameOutFor
/- CashLink$Machine.endPayment()V -/
abbrev c_M_endPayment : ByteArray := prog_6_method_11_code
def y_M_endPayment : MethodName := ⟨"CashLink$Machine", "endPayment", "()V"⟩
theorem d_M_endPayment_0 : decode c_M_endPayment 0 = .ok (.aload_n 0, 1) := by decide +kernel
theorem d_M_endPayment_1 : decode c_M_endPayment 1 = .ok (.getfield 21, 3) := by decide +kernel
theorem d_M_endPayment_4 : decode c_M_endPayment 4 = .ok (.aload_n 0, 1) := by decide +kernel
theorem d_M_endPayment_5 : decode c_M_endPayment 5 = .ok (.getfield 96, 3) := by decide +kernel
theorem d_M_endPayment_8 : decode c_M_endPayment 8 = .ok (.invokevirtual 188, 3) := by decide +kernel
theorem d_M_endPayment_11 : decode c_M_endPayment 11 = .ok (.istore_n 1, 1) := by decide +kernel
theorem d_M_endPayment_12 : decode c_M_endPayment 12 = .ok (.aload_n 0, 1) := by decide +kernel
theorem d_M_endPayment_13 : decode c_M_endPayment 13 = .ok (.getfield 14, 3) := by decide +kernel
theorem d_M_endPayment_16 : decode c_M_endPayment 16 = .ok (.new 94, 3) := by decide +kernel
theorem d_M_endPayment_19 : decode c_M_endPayment 19 = .ok (.dup, 1) := by decide +kernel
theorem d_M_endPayment_20 : decode c_M_endPayment 20 = .ok (.iconst 3, 1) := by decide +kernel
theorem d_M_endPayment_21 : decode c_M_endPayment 21 = .ok (.aload_n 0, 1) := by decide +kernel
theorem d_M_endPayment_22 : decode c_M_endPayment 22 = .ok (.getfield 41, 3) := by decide +kernel
theorem d_M_endPayment_25 : decode c_M_endPayment 25 = .ok (.aload_n 0, 1) := by decide +kernel
theorem d_M_endPayment_26 : decode c_M_endPayment 26 = .ok (.getfield 96, 3) := by decide +kernel
theorem d_M_endPayment_29 : decode c_M_endPayment 29 = .ok (.iload_n 1, 1) := by decide +kernel
theorem d_M_endPayment_30 : decode c_M_endPayment 30 = .ok (.invokespecial 178, 3) := by decide +kernel
theorem d_M_endPayment_33 : decode c_M_endPayment 33 = .ok (.invokevirtual 102, 3) := by decide +kernel
theorem d_M_endPayment_36 : decode c_M_endPayment 36 = .ok (.aload_n 0, 1) := by decide +kernel
theorem d_M_endPayment_37 : decode c_M_endPayment 37 = .ok (.iload_n 1, 1) := by decide +kernel
theorem d_M_endPayment_38 : decode c_M_endPayment 38 = .ok (.invokevirtual 124, 3) := by decide +kernel
theorem d_M_endPayment_41 : decode c_M_endPayment 41 = .ok (.return_, 1) := by decide +kernel
def m_M_endPayment : XM := ("CashLink$Machine", c_M_endPayment, 2, none, "endPayment", [], 9, 206)
def b_M_endPayment : XB := [(0, X_aload 0 1),
  (1, X_get 3 4),
  (4, X_aload 0 1),
  (5, X_get 3 8),
  (8, X_invV 5 Y_D_cameOutFor 1 []),
  (11, X_istore 1 1),
  (12, X_aload 0 1),
  (13, X_get 3 3),
  (16, X_new 6 6 xD6),
  (19, X_dup),
  (20, X_push (xv_i 3) 1),
  (21, X_aload 0 1),
  (22, X_get 3 0),
  (25, X_aload 0 1),
  (26, X_get 3 8),
  (29, X_iload 1 1),
  (30, X_invI Y_E_init_2 4 []),
  (33, X_invV 4 Y_J_write 1 []),
  (36, X_aload 0 1),
  (37, X_iload 1 1),
  (38, X_invV 3 Y_M_voidRest 1 []),
  (41, X_vret)]
set_option maxRecDepth 100000 in
theorem k_M_endPayment : x_bok m_M_endPayment b_M_endPayment := by
  unfold b_M_endPayment
  refine x_bok.cons (xs_aload_n d_M_endPayment_0 rfl) ?_
  refine x_bok.cons (xs_get d_M_endPayment_1 xc3 xw3 (by decide) q1_170 (Or.inl rfl)) ?_
  refine x_bok.cons (xs_aload_n d_M_endPayment_4 rfl) ?_
  refine x_bok.cons (xs_get d_M_endPayment_5 xc3 xw3 (by decide) q1_175 (Or.inl rfl)) ?_
  refine x_bok.cons (xs_invV d_M_endPayment_8 xc5 sn_D_cameOutFor is_D_cameOutFor ⟨q4_101, q4_102, q4_103, q1_9⟩ (by decide) (by decide) rfl) ?_
  refine x_bok.cons (xs_istore_n d_M_endPayment_11 rfl (by decide)) ?_
  refine x_bok.cons (xs_aload_n d_M_endPayment_12 rfl) ?_
  refine x_bok.cons (xs_get d_M_endPayment_13 xc3 xw3 (by decide) q1_168 (Or.inl rfl)) ?_
  refine x_bok.cons (xs_new d_M_endPayment_16 xc6 xw6 xt6 q2_150 q2_151 q1_21 xd6 rfl) ?_
  refine x_bok.cons (xs_dup d_M_endPayment_19) ?_
  refine x_bok.cons (xs_iconst d_M_endPayment_20 (by decide)) ?_
  refine x_bok.cons (xs_aload_n d_M_endPayment_21 rfl) ?_
  refine x_bok.cons (xs_get d_M_endPayment_22 xc3 xw3 (by decide) q1_165 (Or.inl rfl)) ?_
  refine x_bok.cons (xs_aload_n d_M_endPayment_25 rfl) ?_
  refine x_bok.cons (xs_get d_M_endPayment_26 xc3 xw3 (by decide) q1_175 (Or.inl rfl)) ?_
  refine x_bok.cons (xs_iload_n d_M_endPayment_29 rfl) ?_
  refine x_bok.cons (xs_invI d_M_endPayment_30 sn_E_init_2 is_E_init_2 ⟨q3_71, q3_72, q3_73, q1_21⟩ (by decide) rfl (by decide) rfl) ?_
  refine x_bok.cons (xs_invV d_M_endPayment_33 xc4 sn_J_write is_J_write ⟨q2_178, q2_179, q2_180, q1_7⟩ (by decide) (by decide) rfl) ?_
  refine x_bok.cons (xs_aload_n d_M_endPayment_36 rfl) ?_
  refine x_bok.cons (xs_iload_n d_M_endPayment_37 rfl) ?_
  refine x_bok.cons (xs_invV d_M_endPayment_38 xc3 sn_M_voidRest is_M_voidRest ⟨q3_67, q3_69, (x_sel (x_p1 (List.mem_of_getElem? (i := 5) rfl))), q1_8⟩ (by decide) (by decide) rfl) ?_
  refine x_bok.cons (xs_vret d_M_endPayment_41 rfl) ?_
  exact x_bok.nil
set_option maxRecDepth 100000 in
theorem mn_M_endPayment : x_bmn b_M_endPayment := by
  unfold b_M_endPayment
  refine x_bmn.cons (xm_aload) ?_
  refine x_bmn.cons (xm_get) ?_
  refine x_bmn.cons (xm_aload) ?_
  refine x_bmn.cons (xm_get) ?_
  refine x_bmn.cons (xm_invV ym_D_cameOutFor) ?_
  refine x_bmn.cons (xm_istore) ?_
  refine x_bmn.cons (xm_aload) ?_
  refine x_bmn.cons (xm_get) ?_
  refine x_bmn.cons (xm_new) ?_
  refine x_bmn.cons (xm_dup) ?_
  refine x_bmn.cons (xm_push) ?_
  refine x_bmn.cons (xm_aload) ?_
  refine x_bmn.cons (xm_get) ?_
  refine x_bmn.cons (xm_aload) ?_
  refine x_bmn.cons (xm_get) ?_
  refine x_bmn.cons (xm_iload) ?_
  refine x_bmn.cons (xm_invI ym_E_init_2) ?_
  refine x_bmn.cons (xm_invV ym_J_write) ?_
  refine x_bmn.cons (xm_aload) ?_
  refine x_bmn.cons (xm_iload) ?_
  refine x_bmn.cons (xm_invV ym_M_voidRest) ?_
  refine x_bmn.cons (xm_vret) ?_
  exact x_bmn.nil
theorem is_M_endPayment : x_Is y_M_endPayment m_M_endPayment := x_is_code q4_100
def Y_M_endPayment : XMeth := x_do 2 b_M_endPayment
theorem sn_M_endPayment : x_Snd y_M_endPayment m_M_endPayment Y_M_endPayment := x_snd_of (by decide) rfl rfl is_M_endPayment k_M_endPayment
theorem ym_M_endPayment : x_Ymn Y_M_endPayment := x_ymn_of mn_M_endPayment
