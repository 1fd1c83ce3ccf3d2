/- java/lang/StringBuilder.append(Ljava/lang/String;)Ljava/lang/StringBuilder; -/
abbrev c_ZStringBuilder_append : ByteArray := prog_27_method_7_code
def y_ZStringBuilder_append : MethodName := ⟨"java/lang/StringBuilder", "append", "(Ljava/lang/String;)Ljava/lang/StringBuilder;"⟩
theorem d_ZStringBuilder_append_0 : decode c_ZStringBuilder_append 0 = .ok (.aload_n 0, 1) := by decide +kernel
theorem d_ZStringBuilder_append_1 : decode c_ZStringBuilder_append 1 = .ok (.aload_n 1, 1) := by decide +kernel
theorem d_ZStringBuilder_append_2 : decode c_ZStringBuilder_append 2 = .ok (.invokespecial 29, 3) := by decide +kernel
theorem d_ZStringBuilder_append_5 : decode c_ZStringBuilder_append 5 = .ok (.pop, 1) := by decide +kernel
theorem d_ZStringBuilder_append_6 : decode c_ZStringBuilder_append 6 = .ok (.aload_n 0, 1) := by decide +kernel
theorem d_ZStringBuilder_append_7 : decode c_ZStringBuilder_append 7 = .ok (.areturn, 1) := by decide +kernel
def m_ZStringBuilder_append : XM := ("java/lang/StringBuilder", c_ZStringBuilder_append, 2, (some (.object "java/lang/StringBuilder")), "append", [], 5, 113)
def b_ZStringBuilder_append : XB := [(0, X_aload 0 1),
  (1, X_aload 1 1),
  (2, X_invV 9 Y_ZAbstractStringBuilder_append 1 []),
  (5, X_pop),
  (6, X_aload 0 1),
  (7, X_aret)]
set_option maxRecDepth 100000 in
theorem k_ZStringBuilder_append : x_bok m_ZStringBuilder_append b_ZStringBuilder_append := by
  unfold b_ZStringBuilder_append
  refine x_bok.cons (xs_aload_n d_ZStringBuilder_append_0 rfl) ?_
  refine x_bok.cons (xs_aload_n d_ZStringBuilder_append_1 rfl) ?_
  refine x_bok.cons (xs_invU d_ZStringBuilder_append_2 xc9 sn_ZAbstractStringBuilder_append is_ZAbstractStringBuilder_append ⟨q5_12, q5_13, ⟨q5_7, q6_233, by decide⟩, q1_31⟩ (by decide) (by decide) rfl) ?_
  refine x_bok.cons (xs_pop d_ZStringBuilder_append_5) ?_
  refine x_bok.cons (xs_aload_n d_ZStringBuilder_append_6 rfl) ?_
  refine x_bok.cons (xs_aret d_ZStringBuilder_append_7 rfl (by first | exact Or.inl ⟨_, rfl⟩ | exact Or.inr ⟨_, rfl⟩)) ?_
  exact x_bok.nil
set_option maxRecDepth 100000 in
theorem mn_ZStringBuilder_append : x_bmn b_ZStringBuilder_append := by
  unfold b_ZStringBuilder_append
  refine x_bmn.cons (xm_aload) ?_
  refine x_bmn.cons (xm_aload) ?_
  refine x_bmn.cons (xm_invV ym_ZAbstractStringBuilder_append) ?_
  refine x_bmn.cons (xm_pop) ?_
  refine x_bmn.cons (xm_aload) ?_
  refine x_bmn.cons (xm_aret) ?_
  exact x_bmn.nil
theorem is_ZStringBuilder_append : x_Is y_ZStringBuilder_append m_ZStringBuilder_append := x_is_code q5_11
def Y_ZStringBuilder_append : XMeth := x_do 2 b_ZStringBuilder_append
theorem sn_ZStringBuilder_append : x_Snd y_ZStringBuilder_append m_ZStringBuilder_append Y_ZStringBuilder_append := x_snd_of (by decide) rfl rfl is_ZStringBuilder_append k_ZStringBuilder_append
theorem ym_ZStringBuilder_append : x_Ymn Y_ZStringBuilder_append := x_ymn_of mn_ZStringBuilder_append
/- java/lang/AbstractStringBuilder.isLatin1()Z -/
abbrev c_ZAbstractStringBuilder_isLatin1 : ByteArray := prog_14_method_68_code
def y_ZAbstractStringBuilder_isLatin1 : MethodName := ⟨"java/lang/AbstractStringBuilder", "isLatin1", "()Z"⟩
theorem d_ZAbstractStringBuilder_isLatin1_0 : decode c_ZAbstractStringBuilder_isLatin1 0 = .ok (.getstatic 18, 3) := by decide +kernel
theorem d_ZAbstractStringBuilder_isLatin1_3 : decode c_ZAbstractStringBuilder_isLatin1 3 = .ok (.ifCond .eq 14, 3) := by decide +kernel
theorem d_ZAbstractStringBuilder_isLatin1_6 : decode c_ZAbstractStringBuilder_isLatin1 6 = .ok (.aload_n 0, 1) := by decide +kernel
theorem d_ZAbstractStringBuilder_isLatin1_7 : decode c_ZAbstractStringBuilder_isLatin1 7 = .ok (.getfield 22, 3) := by decide +kernel
theorem d_ZAbstractStringBuilder_isLatin1_10 : decode c_ZAbstractStringBuilder_isLatin1 10 = .ok (.ifCond .ne 7, 3) := by decide +kernel
theorem d_ZAbstractStringBuilder_isLatin1_13 : decode c_ZAbstractStringBuilder_isLatin1 13 = .ok (.iconst 1, 1) := by decide +kernel
theorem d_ZAbstractStringBuilder_isLatin1_14 : decode c_ZAbstractStringBuilder_isLatin1 14 = .ok (.goto 4, 3) := by decide +kernel
theorem d_ZAbstractStringBuilder_isLatin1_17 : decode c_ZAbstractStringBuilder_isLatin1 17 = .ok (.iconst 0, 1) := by decide +kernel
theorem d_ZAbstractStringBuilder_isLatin1_18 : decode c_ZAbstractStringBuilder_isLatin1 18 = .ok (.ireturn, 1) := by decide +kernel
def m_ZAbstractStringBuilder_isLatin1 : XM := ("java/lang/AbstractStringBuilder", c_ZAbstractStringBuilder_isLatin1, 1, (some .boolean), "isLatin1", [], 0, 0)
def b_ZAbstractStringBuilder_isLatin1 : XB := [(0, X_push (xv_i 1) 3),
  (3, X_if (fun x => x = 0) 17),
  (6, X_aload 0 1),
  (7, X_get 9 1),
  (10, X_if (fun x => ¬ x = 0) 17),
  (13, X_push (xv_i 1) 1),
  (14, X_goto 18),
  (17, X_push (xv_i 0) 1),
  (18, X_zret)]
set_option maxRecDepth 100000 in
theorem k_ZAbstractStringBuilder_isLatin1 : x_bok m_ZAbstractStringBuilder_isLatin1 b_ZAbstractStringBuilder_isLatin1 := by
  unfold b_ZAbstractStringBuilder_isLatin1
  refine x_bok.cons (xs_gets d_ZAbstractStringBuilder_isLatin1_0 (List.mem_of_getElem? (i := 13) rfl) q4_226 (Or.inl rfl)) ?_
  refine x_bok.cons (xs_if_eq d_ZAbstractStringBuilder_isLatin1_3 (by decide)) ?_
  refine x_bok.cons (xs_aload_n d_ZAbstractStringBuilder_isLatin1_6 rfl) ?_
  refine x_bok.cons (xs_get d_ZAbstractStringBuilder_isLatin1_7 xc9 xw9 (by decide) q4_236 (Or.inl rfl)) ?_
  refine x_bok.cons (xs_if_ne d_ZAbstractStringBuilder_isLatin1_10 (by decide)) ?_
  refine x_bok.cons (xs_iconst d_ZAbstractStringBuilder_isLatin1_13 (by decide)) ?_
  refine x_bok.cons (xs_goto d_ZAbstractStringBuilder_isLatin1_14 (by decide)) ?_
  refine x_bok.cons (xs_iconst d_ZAbstractStringBuilder_isLatin1_17 (by decide)) ?_
  refine x_bok.cons (xs_zret d_ZAbstractStringBuilder_isLatin1_18 rfl) ?_
  exact x_bok.nil
set_option maxRecDepth 100000 in
theorem mn_ZAbstractStringBuilder_isLatin1 : x_bmn b_ZAbstractStringBuilder_isLatin1 := by
  unfold b_ZAbstractStringBuilder_isLatin1
  refine x_bmn.cons (xm_push) ?_
  refine x_bmn.cons (xm_if) ?_
  refine x_bmn.cons (xm_aload) ?_
  refine x_bmn.cons (xm_get) ?_
  refine x_bmn.cons (xm_if) ?_
  refine x_bmn.cons (xm_push) ?_
  refine x_bmn.cons (xm_goto) ?_
  refine x_bmn.cons (xm_push) ?_
  refine x_bmn.cons (xm_zret) ?_
  exact x_bmn.nil
theorem is_ZAbstractStringBuilder_isLatin1 : x_Is y_ZAbstractStringBuilder_isLatin1 m_ZAbstractStringBuilder_isLatin1 := x_is_code q5_43
def Y_ZAbstractStringBuilder_isLatin1 : XMeth := x_do 1 b_ZAbstractStringBuilder_isLatin1
theorem sn_ZAbstractStringBuilder_isLatin1 : x_Snd y_ZAbstractStringBuilder_isLatin1 m_ZAbstractStringBuilder_isLatin1 Y_ZAbstractStringBuilder_isLatin1 := x_snd_of (by decide) rfl rfl is_ZAbstractStringBuilder_isLatin1 k_ZAbstractStringBuilder_isLatin1
theorem ym_ZAbstractStringBuilder_isLatin1 : x_Ymn Y_ZAbstractStringBuilder_isLatin1 := x_ymn_of mn_ZAbstractStringBuilder_isLatin1
/- java/lang/StringLatin1.canEncode(C)Z -/
abbrev c_ZStringLatin1_canEncode : ByteArray := prog_28_method_3_code
def y_ZStringLatin1_canEncode : MethodName := ⟨"java/lang/StringLatin1", "canEncode", "(C)Z"⟩
theorem d_ZStringLatin1_canEncode_0 : decode c_ZStringLatin1_canEncode 0 = .ok (.iload_n 0, 1) := by decide +kernel
theorem d_ZStringLatin1_canEncode_1 : decode c_ZStringLatin1_canEncode 1 = .ok (.sipush 255, 3) := by decide +kernel
theorem d_ZStringLatin1_canEncode_4 : decode c_ZStringLatin1_canEncode 4 = .ok (.if_icmp .gt 7, 3) := by decide +kernel
theorem d_ZStringLatin1_canEncode_7 : decode c_ZStringLatin1_canEncode 7 = .ok (.iconst 1, 1) := by decide +kernel
theorem d_ZStringLatin1_canEncode_8 : decode c_ZStringLatin1_canEncode 8 = .ok (.goto 4, 3) := by decide +kernel
theorem d_ZStringLatin1_canEncode_11 : decode c_ZStringLatin1_canEncode 11 = .ok (.iconst 0, 1) := by decide +kernel
theorem d_ZStringLatin1_canEncode_12 : decode c_ZStringLatin1_canEncode 12 = .ok (.ireturn, 1) := by decide +kernel
def m_ZStringLatin1_canEncode : XM := ("java/lang/StringLatin1", c_ZStringLatin1_canEncode, 1, (some .boolean), "canEncode", [], 0, 0)
def b_ZStringLatin1_canEncode : XB := [(0, X_iload 0 1),
  (1, X_push (xv_i 255) 3),
  (4, X_icmp (fun x y => y < x) 11),
  (7, X_push (xv_i 1) 1),
  (8, X_goto 12),
  (11, X_push (xv_i 0) 1),
  (12, X_zret)]
set_option maxRecDepth 100000 in
theorem k_ZStringLatin1_canEncode : x_bok m_ZStringLatin1_canEncode b_ZStringLatin1_canEncode := by
  unfold b_ZStringLatin1_canEncode
  refine x_bok.cons (xs_iload_n d_ZStringLatin1_canEncode_0 rfl) ?_
  refine x_bok.cons (xs_sipush d_ZStringLatin1_canEncode_1 (by decide)) ?_
  refine x_bok.cons (xs_icmp_gt d_ZStringLatin1_canEncode_4 (by decide)) ?_
  refine x_bok.cons (xs_iconst d_ZStringLatin1_canEncode_7 (by decide)) ?_
  refine x_bok.cons (xs_goto d_ZStringLatin1_canEncode_8 (by decide)) ?_
  refine x_bok.cons (xs_iconst d_ZStringLatin1_canEncode_11 (by decide)) ?_
  refine x_bok.cons (xs_zret d_ZStringLatin1_canEncode_12 rfl) ?_
  exact x_bok.nil
set_option maxRecDepth 100000 in
theorem mn_ZStringLatin1_canEncode : x_bmn b_ZStringLatin1_canEncode := by
  unfold b_ZStringLatin1_canEncode
  refine x_bmn.cons (xm_iload) ?_
  refine x_bmn.cons (xm_push) ?_
  refine x_bmn.cons (xm_icmp) ?_
  refine x_bmn.cons (xm_push) ?_
  refine x_bmn.cons (xm_goto) ?_
  refine x_bmn.cons (xm_push) ?_
  refine x_bmn.cons (xm_zret) ?_
  exact x_bmn.nil
theorem is_ZStringLatin1_canEncode : x_Is y_ZStringLatin1_canEncode m_ZStringLatin1_canEncode := x_is_code q5_126
def Y_ZStringLatin1_canEncode : XMeth := x_do 1 b_ZStringLatin1_canEncode
theorem sn_ZStringLatin1_canEncode : x_Snd y_ZStringLatin1_canEncode m_ZStringLatin1_canEncode Y_ZStringLatin1_canEncode := x_snd_of (by decide) rfl rfl is_ZStringLatin1_canEncode k_ZStringLatin1_canEncode
theorem ym_ZStringLatin1_canEncode : x_Ymn Y_ZStringLatin1_canEncode := x_ymn_of mn_ZStringLatin1_canEncode
/- java/lang/AbstractStringBuilder.append(C)Ljava/lang/AbstractStringBuilder; -/
abbrev c_ZAbstractStringBuilder_append_2 : ByteArray := prog_14_method_31_code
def y_ZAbstractStringBuilder_append_2 : MethodName := ⟨"java/lang/AbstractStringBuilder", "append", "(C)Ljava/lang/AbstractStringBuilder;"⟩
theorem d_ZAbstractStringBuilder_append_2_0 : decode c_ZAbstractStringBuilder_append_2 0 = .ok (.aload_n 0, 1) := by decide +kernel
theorem d_ZAbstractStringBuilder_append_2_1 : decode c_ZAbstractStringBuilder_append_2 1 = .ok (.aload_n 0, 1) := by decide +kernel
theorem d_ZAbstractStringBuilder_append_2_2 : decode c_ZAbstractStringBuilder_append_2 2 = .ok (.getfield 79, 3) := by decide +kernel
theorem d_ZAbstractStringBuilder_append_2_5 : decode c_ZAbstractStringBuilder_append_2 5 = .ok (.iconst 1, 1) := by decide +kernel
theorem d_ZAbstractStringBuilder_append_2_6 : decode c_ZAbstractStringBuilder_append_2 6 = .ok (.iadd, 1) := by decide +kernel
theorem d_ZAbstractStringBuilder_append_2_7 : decode c_ZAbstractStringBuilder_append_2 7 = .ok (.invokevirtual 100, 3) := by decide +kernel
theorem d_ZAbstractStringBuilder_append_2_10 : decode c_ZAbstractStringBuilder_append_2 10 = .ok (.aload_n 0, 1) := by decide +kernel
theorem d_ZAbstractStringBuilder_append_2_11 : decode c_ZAbstractStringBuilder_append_2 11 = .ok (.invokevirtual 83, 3) := by decide +kernel
theorem d_ZAbstractStringBuilder_append_2_14 : decode c_ZAbstractStringBuilder_append_2 14 = .ok (.ifCond .eq 31, 3) := by decide +kernel
theorem d_ZAbstractStringBuilder_append_2_17 : decode c_ZAbstractStringBuilder_append_2 17 = .ok (.iload_n 1, 1) := by decide +kernel
theorem d_ZAbstractStringBuilder_append_2_18 : decode c_ZAbstractStringBuilder_append_2 18 = .ok (.invokestatic 191, 3) := by decide +kernel
theorem d_ZAbstractStringBuilder_append_2_21 : decode c_ZAbstractStringBuilder_append_2 21 = .ok (.ifCond .eq 24, 3) := by decide +kernel
theorem d_ZAbstractStringBuilder_append_2_24 : decode c_ZAbstractStringBuilder_append_2 24 = .ok (.aload_n 0, 1) := by decide +kernel
theorem d_ZAbstractStringBuilder_append_2_25 : decode c_ZAbstractStringBuilder_append_2 25 = .ok (.getfield 15, 3) := by decide +kernel
theorem d_ZAbstractStringBuilder_append_2_28 : decode c_ZAbstractStringBuilder_append_2 28 = .ok (.aload_n 0, 1) := by decide +kernel
theorem d_ZAbstractStringBuilder_append_2_29 : decode c_ZAbstractStringBuilder_append_2 29 = .ok (.dup, 1) := by decide +kernel
theorem d_ZAbstractStringBuilder_append_2_30 : decode c_ZAbstractStringBuilder_append_2 30 = .ok (.getfield 79, 3) := by decide +kernel
theorem d_ZAbstractStringBuilder_append_2_33 : decode c_ZAbstractStringBuilder_append_2 33 = .ok (.dup_x1, 1) := by decide +kernel
theorem d_ZAbstractStringBuilder_append_2_34 : decode c_ZAbstractStringBuilder_append_2 34 = .ok (.iconst 1, 1) := by decide +kernel
theorem d_ZAbstractStringBuilder_append_2_35 : decode c_ZAbstractStringBuilder_append_2 35 = .ok (.iadd, 1) := by decide +kernel
theorem d_ZAbstractStringBuilder_append_2_36 : decode c_ZAbstractStringBuilder_append_2 36 = .ok (.putfield 79, 3) := by decide +kernel
theorem d_ZAbstractStringBuilder_append_2_39 : decode c_ZAbstractStringBuilder_append_2 39 = .ok (.iload_n 1, 1) := by decide +kernel
theorem d_ZAbstractStringBuilder_append_2_40 : decode c_ZAbstractStringBuilder_append_2 40 = .ok (.i2b, 1) := by decide +kernel
theorem d_ZAbstractStringBuilder_append_2_41 : decode c_ZAbstractStringBuilder_append_2 41 = .ok (.bastore, 1) := by decide +kernel
theorem d_ZAbstractStringBuilder_append_2_42 : decode c_ZAbstractStringBuilder_append_2 42 = .ok (.goto 33, 3) := by decide +kernel
theorem d_ZAbstractStringBuilder_append_2_45 : decode c_ZAbstractStringBuilder_append_2 45 = .ok (.aload_n 0, 1) := by decide +kernel
theorem d_ZAbstractStringBuilder_append_2_46 : decode c_ZAbstractStringBuilder_append_2 46 = .ok (.invokevirtual 83, 3) := by decide +kernel
theorem d_ZAbstractStringBuilder_append_2_49 : decode c_ZAbstractStringBuilder_append_2 49 = .ok (.ifCond .eq 7, 3) := by decide +kernel
theorem d_ZAbstractStringBuilder_append_2_52 : decode c_ZAbstractStringBuilder_append_2 52 = .ok (.aload_n 0, 1) := by decide +kernel
theorem d_ZAbstractStringBuilder_append_2_53 : decode c_ZAbstractStringBuilder_append_2 53 = .ok (.invokevirtual 195, 3) := by decide +kernel
theorem d_ZAbstractStringBuilder_append_2_56 : decode c_ZAbstractStringBuilder_append_2 56 = .ok (.aload_n 0, 1) := by decide +kernel
theorem d_ZAbstractStringBuilder_append_2_57 : decode c_ZAbstractStringBuilder_append_2 57 = .ok (.getfield 15, 3) := by decide +kernel
theorem d_ZAbstractStringBuilder_append_2_60 : decode c_ZAbstractStringBuilder_append_2 60 = .ok (.aload_n 0, 1) := by decide +kernel
theorem d_ZAbstractStringBuilder_append_2_61 : decode c_ZAbstractStringBuilder_append_2 61 = .ok (.dup, 1) := by decide +kernel
theorem d_ZAbstractStringBuilder_append_2_62 : decode c_ZAbstractStringBuilder_append_2 62 = .ok (.getfield 79, 3) := by decide +kernel
theorem d_ZAbstractStringBuilder_append_2_65 : decode c_ZAbstractStringBuilder_append_2 65 = .ok (.dup_x1, 1) := by decide +kernel
theorem d_ZAbstractStringBuilder_append_2_66 : decode c_ZAbstractStringBuilder_append_2 66 = .ok (.iconst 1, 1) := by decide +kernel
theorem d_ZAbstractStringBuilder_append_2_67 : decode c_ZAbstractStringBuilder_append_2 67 = .ok (.iadd, 1) := by decide +kernel
theorem d_ZAbstractStringBuilder_append_2_68 : decode c_ZAbstractStringBuilder_append_2 68 = .ok (.putfield 79, 3) := by decide +kernel
theorem d_ZAbstractStringBuilder_append_2_71 : decode c_ZAbstractStringBuilder_append_2 71 = .ok (.iload_n 1, 1) := by decide +kernel
theorem d_ZAbstractStringBuilder_append_2_72 : decode c_ZAbstractStringBuilder_append_2 72 = .ok (.invokestatic 197, 3) := by decide +kernel
theorem d_ZAbstractStringBuilder_append_2_75 : decode c_ZAbstractStringBuilder_append_2 75 = .ok (.aload_n 0, 1) := by decide +kernel
theorem d_ZAbstractStringBuilder_append_2_76 : decode c_ZAbstractStringBuilder_append_2 76 = .ok (.areturn, 1) := by decide +kernel
def m_ZAbstractStringBuilder_append_2 : XM := ("java/lang/AbstractStringBuilder", c_ZAbstractStringBuilder_append_2, 2, (some (.object "java/lang/AbstractStringBuilder")), "append", [], 4, 91)
def b_ZAbstractStringBuilder_append_2 : XB := [(0, X_aload 0 1),
  (1, X_aload 0 1),
  (2, X_get 9 3),
  (5, X_push (xv_i 1) 1),
  (6, X_bin (fun x y => x + y)),
  (7, X_invV 9 Y_ZAbstractStringBuilder_ensureCapacityInternal 1 []),
  (10, X_aload 0 1),
  (11, X_invV 9 Y_ZAbstractStringBuilder_isLatin1 0 []),
  (14, X_if (fun x => x = 0) 45),
  (17, X_iload 1 1),
  (18, X_invS Y_ZStringLatin1_canEncode 1 []),
  (21, X_if (fun x => x = 0) 45),
  (24, X_aload 0 1),
  (25, X_get 9 0),
  (28, X_aload 0 1),
  (29, X_dup),
  (30, X_get 9 3),
  (33, X_dup_x1),
  (34, X_push (xv_i 1) 1),
  (35, X_bin (fun x y => x + y)),
  (36, X_put x_tI 9 3),
  (39, X_iload 1 1),
  (40, X_un (fun x => x.toInt8.toInt32)),
  (41, X_ast 2 (fun x => x.toInt8.toInt32)),
  (42, X_goto 75),
  (45, X_aload 0 1),
  (46, X_invV 9 Y_ZAbstractStringBuilder_isLatin1 0 []),
  (49, X_if (fun x => x = 0) 56),
  (52, X_aload 0 1),
  (53, X_bad),
  (56, X_aload 0 1),
  (57, X_get 9 0),
  (60, X_aload 0 1),
  (61, X_dup),
  (62, X_get 9 3),
  (65, X_dup_x1),
  (66, X_push (xv_i 1) 1),
  (67, X_bin (fun x y => x + y)),
  (68, X_put x_tI 9 3),
  (71, X_iload 1 1),
  (72, X_bad),
  (75, X_aload 0 1),
  (76, X_aret)]
set_option maxRecDepth 100000 in
theorem k_ZAbstractStringBuilder_append_2 : x_bok m_ZAbstractStringBuilder_append_2 b_ZAbstractStringBuilder_append_2 := by
  unfold b_ZAbstractStringBuilder_append_2
  refine x_bok.cons (xs_aload_n d_ZAbstractStringBuilder_append_2_0 rfl) ?_
  refine x_bok.cons (xs_aload_n d_ZAbstractStringBuilder_append_2_1 rfl) ?_
  refine x_bok.cons (xs_get d_ZAbstractStringBuilder_append_2_2 xc9 xw9 (by decide) q4_238 (Or.inl rfl)) ?_
  refine x_bok.cons (xs_iconst d_ZAbstractStringBuilder_append_2_5 (by decide)) ?_
  refine x_bok.cons (xs_iadd d_ZAbstractStringBuilder_append_2_6) ?_
  refine x_bok.cons (xs_invP d_ZAbstractStringBuilder_append_2_7 xc9 sn_ZAbstractStringBuilder_ensureCapacityInternal is_ZAbstractStringBuilder_ensureCapacityInternal ⟨q5_19, q5_21, ⟨q5_20, q6_235⟩, q1_31⟩ (by decide) (by decide) rfl) ?_
  refine x_bok.cons (xs_aload_n d_ZAbstractStringBuilder_append_2_10 rfl) ?_
  refine x_bok.cons (xs_invV d_ZAbstractStringBuilder_append_2_11 xc9 sn_ZAbstractStringBuilder_isLatin1 is_ZAbstractStringBuilder_isLatin1 ⟨q5_39, q5_40, q5_42, q1_31⟩ (by decide) (by decide) rfl) ?_
  refine x_bok.cons (xs_if_eq d_ZAbstractStringBuilder_append_2_14 (by decide)) ?_
  refine x_bok.cons (xs_iload_n d_ZAbstractStringBuilder_append_2_17 rfl) ?_
  refine x_bok.cons (xs_invS d_ZAbstractStringBuilder_append_2_18 sn_ZStringLatin1_canEncode is_ZStringLatin1_canEncode ⟨q5_124, q5_125, q1_35⟩ (by decide) (by decide) rfl) ?_
  refine x_bok.cons (xs_if_eq d_ZAbstractStringBuilder_append_2_21 (by decide)) ?_
  refine x_bok.cons (xs_aload_n d_ZAbstractStringBuilder_append_2_24 rfl) ?_
  refine x_bok.cons (xs_get d_ZAbstractStringBuilder_append_2_25 xc9 xw9 (by decide) q4_235 (Or.inl rfl)) ?_
  refine x_bok.cons (xs_aload_n d_ZAbstractStringBuilder_append_2_28 rfl) ?_
  refine x_bok.cons (xs_dup d_ZAbstractStringBuilder_append_2_29) ?_
  refine x_bok.cons (xs_get d_ZAbstractStringBuilder_append_2_30 xc9 xw9 (by decide) q4_238 (Or.inl rfl)) ?_
  refine x_bok.cons (xs_dup_x1 d_ZAbstractStringBuilder_append_2_33) ?_
  refine x_bok.cons (xs_iconst d_ZAbstractStringBuilder_append_2_34 (by decide)) ?_
  refine x_bok.cons (xs_iadd d_ZAbstractStringBuilder_append_2_35) ?_
  refine x_bok.cons (xs_put d_ZAbstractStringBuilder_append_2_36 xc9 xw9 xt9 xn9 (by decide) q4_238 (Or.inl rfl) rfl rfl x_fitI) ?_
  refine x_bok.cons (xs_iload_n d_ZAbstractStringBuilder_append_2_39 rfl) ?_
  refine x_bok.cons (xs_i2b d_ZAbstractStringBuilder_append_2_40) ?_
  refine x_bok.cons (xs_bast d_ZAbstractStringBuilder_append_2_41 rfl) ?_
  refine x_bok.cons (xs_goto d_ZAbstractStringBuilder_append_2_42 (by decide)) ?_
  refine x_bok.cons (xs_aload_n d_ZAbstractStringBuilder_append_2_45 rfl) ?_
  refine x_bok.cons (xs_invV d_ZAbstractStringBuilder_append_2_46 xc9 sn_ZAbstractStringBuilder_isLatin1 is_ZAbstractStringBuilder_isLatin1 ⟨q5_39, q5_40, q5_42, q1_31⟩ (by decide) (by decide) rfl) ?_
  refine x_bok.cons (xs_if_eq d_ZAbstractStringBuilder_append_2_49 (by decide)) ?_
  refine x_bok.cons (xs_aload_n d_ZAbstractStringBuilder_append_2_52 rfl) ?_
  refine x_bok.cons (xs_bad) ?_
  refine x_bok.cons (xs_aload_n d_ZAbstractStringBuilder_append_2_56 rfl) ?_
  refine x_bok.cons (xs_get d_ZAbstractStringBuilder_append_2_57 xc9 xw9 (by decide) q4_235 (Or.inl rfl)) ?_
  refine x_bok.cons (xs_aload_n d_ZAbstractStringBuilder_append_2_60 rfl) ?_
  refine x_bok.cons (xs_dup d_ZAbstractStringBuilder_append_2_61) ?_
  refine x_bok.cons (xs_get d_ZAbstractStringBuilder_append_2_62 xc9 xw9 (by decide) q4_238 (Or.inl rfl)) ?_
  refine x_bok.cons (xs_dup_x1 d_ZAbstractStringBuilder_append_2_65) ?_
  refine x_bok.cons (xs_iconst d_ZAbstractStringBuilder_append_2_66 (by decide)) ?_
  refine x_bok.cons (xs_iadd d_ZAbstractStringBuilder_append_2_67) ?_
  refine x_bok.cons (xs_put d_ZAbstractStringBuilder_append_2_68 xc9 xw9 xt9 xn9 (by decide) q4_238 (Or.inl rfl) rfl rfl x_fitI) ?_
  refine x_bok.cons (xs_iload_n d_ZAbstractStringBuilder_append_2_71 rfl) ?_
  refine x_bok.cons (xs_bad) ?_
  refine x_bok.cons (xs_aload_n d_ZAbstractStringBuilder_append_2_75 rfl) ?_
  refine x_bok.cons (xs_aret d_ZAbstractStringBuilder_append_2_76 rfl (by first | exact Or.inl ⟨_, rfl⟩ | exact Or.inr ⟨_, rfl⟩)) ?_
  exact x_bok.nil
set_option maxRecDepth 100000 in
theorem mn_ZAbstractStringBuilder_append_2 : x_bmn b_ZAbstractStringBuilder_append_2 := by
  unfold b_ZAbstractStringBuilder_append_2
  refine x_bmn.cons (xm_aload) ?_
  refine x_bmn.cons (xm_aload) ?_
  refine x_bmn.cons (xm_get) ?_
  refine x_bmn.cons (xm_push) ?_
  refine x_bmn.cons (xm_bin) ?_
  refine x_bmn.cons (xm_invV ym_ZAbstractStringBuilder_ensureCapacityInternal) ?_
  refine x_bmn.cons (xm_aload) ?_
  refine x_bmn.cons (xm_invV ym_ZAbstractStringBuilder_isLatin1) ?_
  refine x_bmn.cons (xm_if) ?_
  refine x_bmn.cons (xm_iload) ?_
  refine x_bmn.cons (xm_invS ym_ZStringLatin1_canEncode) ?_
  refine x_bmn.cons (xm_if) ?_
  refine x_bmn.cons (xm_aload) ?_
  refine x_bmn.cons (xm_get) ?_
  refine x_bmn.cons (xm_aload) ?_
  refine x_bmn.cons (xm_dup) ?_
  refine x_bmn.cons (xm_get) ?_
  refine x_bmn.cons (xm_dup_x1) ?_
  refine x_bmn.cons (xm_push) ?_
  refine x_bmn.cons (xm_bin) ?_
  refine x_bmn.cons (xm_put) ?_
  refine x_bmn.cons (xm_iload) ?_
  refine x_bmn.cons (xm_un) ?_
  refine x_bmn.cons (xm_ast) ?_
  refine x_bmn.cons (xm_goto) ?_
  refine x_bmn.cons (xm_aload) ?_
  refine x_bmn.cons (xm_invV ym_ZAbstractStringBuilder_isLatin1) ?_
  refine x_bmn.cons (xm_if) ?_
  refine x_bmn.cons (xm_aload) ?_
  refine x_bmn.cons (xm_bad) ?_
  refine x_bmn.cons (xm_aload) ?_
  refine x_bmn.cons (xm_get) ?_
  refine x_bmn.cons (xm_aload) ?_
  refine x_bmn.cons (xm_dup) ?_
  refine x_bmn.cons (xm_get) ?_
  refine x_bmn.cons (xm_dup_x1) ?_
  refine x_bmn.cons (xm_push) ?_
  refine x_bmn.cons (xm_bin) ?_
  refine x_bmn.cons (xm_put) ?_
  refine x_bmn.cons (xm_iload) ?_
  refine x_bmn.cons (xm_bad) ?_
  refine x_bmn.cons (xm_aload) ?_
  refine x_bmn.cons (xm_aret) ?_
  exact x_bmn.nil
theorem is_ZAbstractStringBuilder_append_2 : x_Is y_ZAbstractStringBuilder_append_2 m_ZAbstractStringBuilder_append_2 := x_is_code q5_123
def Y_ZAbstractStringBuilder_append_2 : XMeth := x_do 2 b_ZAbstractStringBuilder_append_2
theorem sn_ZAbstractStringBuilder_append_2 : x_Snd y_ZAbstractStringBuilder_append_2 m_ZAbstractStringBuilder_append_2 Y_ZAbstractStringBuilder_append_2 := x_snd_of (by decide) rfl rfl is_ZAbstractStringBuilder_append_2 k_ZAbstractStringBuilder_append_2
theorem ym_ZAbstractStringBuilder_append_2 : x_Ymn Y_ZAbstractStringBuilder_append_2 := x_ymn_of mn_ZAbstractStringBuilder_append_2
/- java/lang/StringBuilder.append(C)Ljava/lang/StringBuilder; -/
abbrev c_ZStringBuilder_append_2 : ByteArray := prog_27_method_14_code
def y_ZStringBuilder_append_2 : MethodName := ⟨"java/lang/StringBuilder", "append", "(C)Ljava/lang/StringBuilder;"⟩
theorem d_ZStringBuilder_append_2_0 : decode c_ZStringBuilder_append_2 0 = .ok (.aload_n 0, 1) := by decide +kernel
theorem d_ZStringBuilder_append_2_1 : decode c_ZStringBuilder_append_2 1 = .ok (.iload_n 1, 1) := by decide +kernel
theorem d_ZStringBuilder_append_2_2 : decode c_ZStringBuilder_append_2 2 = .ok (.invokespecial 50, 3) := by decide +kernel
theorem d_ZStringBuilder_append_2_5 : decode c_ZStringBuilder_append_2 5 = .ok (.pop, 1) := by decide +kernel
theorem d_ZStringBuilder_append_2_6 : decode c_ZStringBuilder_append_2 6 = .ok (.aload_n 0, 1) := by decide +kernel
theorem d_ZStringBuilder_append_2_7 : decode c_ZStringBuilder_append_2 7 = .ok (.areturn, 1) := by decide +kernel
def m_ZStringBuilder_append_2 : XM := ("java/lang/StringBuilder", c_ZStringBuilder_append_2, 2, (some (.object "java/lang/StringBuilder")), "append", [], 5, 112)
def b_ZStringBuilder_append_2 : XB := [(0, X_aload 0 1),
  (1, X_iload 1 1),
  (2, X_invV 9 Y_ZAbstractStringBuilder_append_2 1 []),
  (5, X_pop),
  (6, X_aload 0 1),
  (7, X_aret)]
set_option maxRecDepth 100000 in
theorem k_ZStringBuilder_append_2 : x_bok m_ZStringBuilder_append_2 b_ZStringBuilder_append_2 := by
  unfold b_ZStringBuilder_append_2
  refine x_bok.cons (xs_aload_n d_ZStringBuilder_append_2_0 rfl) ?_
  refine x_bok.cons (xs_iload_n d_ZStringBuilder_append_2_1 rfl) ?_
  refine x_bok.cons (xs_invU d_ZStringBuilder_append_2_2 xc9 sn_ZAbstractStringBuilder_append_2 is_ZAbstractStringBuilder_append_2 ⟨q5_121, q5_122, ⟨q5_7, q7_0, by decide⟩, q1_31⟩ (by decide) (by decide) rfl) ?_
  refine x_bok.cons (xs_pop d_ZStringBuilder_append_2_5) ?_
  refine x_bok.cons (xs_aload_n d_ZStringBuilder_append_2_6 rfl) ?_
  refine x_bok.cons (xs_aret d_ZStringBuilder_append_2_7 rfl (by first | exact Or.inl ⟨_, rfl⟩ | exact Or.inr ⟨_, rfl⟩)) ?_
  exact x_bok.nil
set_option maxRecDepth 100000 in
theorem mn_ZStringBuilder_append_2 : x_bmn b_ZStringBuilder_append_2 := by
  unfold b_ZStringBuilder_append_2
  refine x_bmn.cons (xm_aload) ?_
  refine x_bmn.cons (xm_iload) ?_
  refine x_bmn.cons (xm_invV ym_ZAbstractStringBuilder_append_2) ?_
  refine x_bmn.cons (xm_pop) ?_
  refine x_bmn.cons (xm_aload) ?_
  refine x_bmn.cons (xm_aret) ?_
  exact x_bmn.nil
theorem is_ZStringBuilder_append_2 : x_Is y_ZStringBuilder_append_2 m_ZStringBuilder_append_2 := x_is_code q5_120
def Y_ZStringBuilder_append_2 : XMeth := x_do 2 b_ZStringBuilder_append_2
theorem sn_ZStringBuilder_append_2 : x_Snd y_ZStringBuilder_append_2 m_ZStringBuilder_append_2 Y_ZStringBuilder_append_2 := x_snd_of (by decide) rfl rfl is_ZStringBuilder_append_2 k_ZStringBuilder_append_2
theorem ym_ZStringBuilder_append_2 : x_Ymn Y_ZStringBuilder_append_2 := x_ymn_of mn_ZStringBuilder_append_2
/- CashLink$Message.appendBitmap(Ljava/lang/StringBuilder;)V -/
abbrev c_G_appendBitmap : ByteArray := prog_7_method_3_code
def y_G_appendBitmap : MethodName := ⟨"CashLink$Message", "appendBitmap", "(Ljava/lang/StringBuilder;)V"⟩
theorem d_G_appendBitmap_0 : decode c_G_appendBitmap 0 = .ok (.aload_n 0, 1) := by decide +kernel
theorem d_G_appendBitmap_1 : decode c_G_appendBitmap 1 = .ok (.getfield 7, 3) := by decide +kernel
theorem d_G_appendBitmap_4 : decode c_G_appendBitmap 4 = .ok (.getfield 46, 3) := by decide +kernel
theorem d_G_appendBitmap_7 : decode c_G_appendBitmap 7 = .ok (.ifCond .eq 8, 3) := by decide +kernel
theorem d_G_appendBitmap_10 : decode c_G_appendBitmap 10 = .ok (.bipush 64, 2) := by decide +kernel
theorem d_G_appendBitmap_12 : decode c_G_appendBitmap 12 = .ok (.goto 4, 3) := by decide +kernel
theorem d_G_appendBitmap_15 : decode c_G_appendBitmap 15 = .ok (.iconst 0, 1) := by decide +kernel
theorem d_G_appendBitmap_16 : decode c_G_appendBitmap 16 = .ok (.istore_n 2, 1) := by decide +kernel
theorem d_G_appendBitmap_17 : decode c_G_appendBitmap 17 = .ok (.aload_n 0, 1) := by decide +kernel
theorem d_G_appendBitmap_18 : decode c_G_appendBitmap 18 = .ok (.getfield 7, 3) := by decide +kernel
theorem d_G_appendBitmap_21 : decode c_G_appendBitmap 21 = .ok (.getfield 54, 3) := by decide +kernel
theorem d_G_appendBitmap_24 : decode c_G_appendBitmap 24 = .ok (.ifCond .eq 8, 3) := by decide +kernel
theorem d_G_appendBitmap_27 : decode c_G_appendBitmap 27 = .ok (.bipush 16, 2) := by decide +kernel
theorem d_G_appendBitmap_29 : decode c_G_appendBitmap 29 = .ok (.goto 4, 3) := by decide +kernel
theorem d_G_appendBitmap_32 : decode c_G_appendBitmap 32 = .ok (.iconst 0, 1) := by decide +kernel
theorem d_G_appendBitmap_33 : decode c_G_appendBitmap 33 = .ok (.istore_n 3, 1) := by decide +kernel
theorem d_G_appendBitmap_34 : decode c_G_appendBitmap 34 = .ok (.bipush 32, 2) := by decide +kernel
theorem d_G_appendBitmap_36 : decode c_G_appendBitmap 36 = .ok (.istore 4, 2) := by decide +kernel
theorem d_G_appendBitmap_38 : decode c_G_appendBitmap 38 = .ok (.aload_n 0, 1) := by decide +kernel
theorem d_G_appendBitmap_39 : decode c_G_appendBitmap 39 = .ok (.getfield 7, 3) := by decide +kernel
theorem d_G_appendBitmap_42 : decode c_G_appendBitmap 42 = .ok (.getfield 57, 3) := by decide +kernel
theorem d_G_appendBitmap_45 : decode c_G_appendBitmap 45 = .ok (.ifCond .eq 7, 3) := by decide +kernel
theorem d_G_appendBitmap_48 : decode c_G_appendBitmap 48 = .ok (.iconst 2, 1) := by decide +kernel
theorem d_G_appendBitmap_49 : decode c_G_appendBitmap 49 = .ok (.goto 4, 3) := by decide +kernel
theorem d_G_appendBitmap_52 : decode c_G_appendBitmap 52 = .ok (.iconst 0, 1) := by decide +kernel
theorem d_G_appendBitmap_53 : decode c_G_appendBitmap 53 = .ok (.istore 5, 2) := by decide +kernel
theorem d_G_appendBitmap_55 : decode c_G_appendBitmap 55 = .ok (.sipush 128, 3) := by decide +kernel
theorem d_G_appendBitmap_58 : decode c_G_appendBitmap 58 = .ok (.istore 6, 2) := by decide +kernel
theorem d_G_appendBitmap_60 : decode c_G_appendBitmap 60 = .ok (.aload_n 1, 1) := by decide +kernel
theorem d_G_appendBitmap_61 : decode c_G_appendBitmap 61 = .ok (.iload_n 2, 1) := by decide +kernel
theorem d_G_appendBitmap_62 : decode c_G_appendBitmap 62 = .ok (.iload_n 3, 1) := by decide +kernel
theorem d_G_appendBitmap_63 : decode c_G_appendBitmap 63 = .ok (.ior, 1) := by decide +kernel
theorem d_G_appendBitmap_64 : decode c_G_appendBitmap 64 = .ok (.i2c, 1) := by decide +kernel
theorem d_G_appendBitmap_65 : decode c_G_appendBitmap 65 = .ok (.invokevirtual 60, 3) := by decide +kernel
theorem d_G_appendBitmap_68 : decode c_G_appendBitmap 68 = .ok (.pop, 1) := by decide +kernel
theorem d_G_appendBitmap_69 : decode c_G_appendBitmap 69 = .ok (.aload_n 1, 1) := by decide +kernel
theorem d_G_appendBitmap_70 : decode c_G_appendBitmap 70 = .ok (.iload 4, 2) := by decide +kernel
theorem d_G_appendBitmap_72 : decode c_G_appendBitmap 72 = .ok (.i2c, 1) := by decide +kernel
theorem d_G_appendBitmap_73 : decode c_G_appendBitmap 73 = .ok (.invokevirtual 60, 3) := by decide +kernel
theorem d_G_appendBitmap_76 : decode c_G_appendBitmap 76 = .ok (.pop, 1) := by decide +kernel
theorem d_G_appendBitmap_77 : decode c_G_appendBitmap 77 = .ok (.aload_n 1, 1) := by decide +kernel
theorem d_G_appendBitmap_78 : decode c_G_appendBitmap 78 = .ok (.iconst 0, 1) := by decide +kernel
theorem d_G_appendBitmap_79 : decode c_G_appendBitmap 79 = .ok (.invokevirtual 60, 3) := by decide +kernel
theorem d_G_appendBitmap_82 : decode c_G_appendBitmap 82 = .ok (.pop, 1) := by decide +kernel
theorem d_G_appendBitmap_83 : decode c_G_appendBitmap 83 = .ok (.aload_n 1, 1) := by decide +kernel
theorem d_G_appendBitmap_84 : decode c_G_appendBitmap 84 = .ok (.iconst 0, 1) := by decide +kernel
theorem d_G_appendBitmap_85 : decode c_G_appendBitmap 85 = .ok (.invokevirtual 60, 3) := by decide +kernel
theorem d_G_appendBitmap_88 : decode c_G_appendBitmap 88 = .ok (.pop, 1) := by decide +kernel
theorem d_G_appendBitmap_89 : decode c_G_appendBitmap 89 = .ok (.aload_n 1, 1) := by decide +kernel
theorem d_G_appendBitmap_90 : decode c_G_appendBitmap 90 = .ok (.iload 5, 2) := by decide +kernel
theorem d_G_appendBitmap_92 : decode c_G_appendBitmap 92 = .ok (.i2c, 1) := by decide +kernel
theorem d_G_appendBitmap_93 : decode c_G_appendBitmap 93 = .ok (.invokevirtual 60, 3) := by decide +kernel
theorem d_G_appendBitmap_96 : decode c_G_appendBitmap 96 = .ok (.pop, 1) := by decide +kernel
theorem d_G_appendBitmap_97 : decode c_G_appendBitmap 97 = .ok (.aload_n 1, 1) := by decide +kernel
theorem d_G_appendBitmap_98 : decode c_G_appendBitmap 98 = .ok (.iload 6, 2) := by decide +kernel
theorem d_G_appendBitmap_100 : decode c_G_appendBitmap 100 = .ok (.i2c, 1) := by decide +kernel
theorem d_G_appendBitmap_101 : decode c_G_appendBitmap 101 = .ok (.invokevirtual 60, 3) := by decide +kernel
theorem d_G_appendBitmap_104 : decode c_G_appendBitmap 104 = .ok (.pop, 1) := by decide +kernel
theorem d_G_appendBitmap_105 : decode c_G_appendBitmap 105 = .ok (.aload_n 1, 1) := by decide +kernel
theorem d_G_appendBitmap_106 : decode c_G_appendBitmap 106 = .ok (.iconst 0, 1) := by decide +kernel
theorem d_G_appendBitmap_107 : decode c_G_appendBitmap 107 = .ok (.invokevirtual 60, 3) := by decide +kernel
theorem d_G_appendBitmap_110 : decode c_G_appendBitmap 110 = .ok (.pop, 1) := by decide +kernel
theorem d_G_appendBitmap_111 : decode c_G_appendBitmap 111 = .ok (.aload_n 1, 1) := by decide +kernel
theorem d_G_appendBitmap_112 : decode c_G_appendBitmap 112 = .ok (.iconst 0, 1) := by decide +kernel
theorem d_G_appendBitmap_113 : decode c_G_appendBitmap 113 = .ok (.invokevirtual 60, 3) := by decide +kernel
theorem d_G_appendBitmap_116 : decode c_G_appendBitmap 116 = .ok (.pop, 1) := by decide +kernel
theorem d_G_appendBitmap_117 : decode c_G_appendBitmap 117 = .ok (.return_, 1) := by decide +kernel
def m_G_appendBitmap : XM := ("CashLink$Message", c_G_appendBitmap, 7, none, "appendBitmap", [], 6, 133)
def b_G_appendBitmap : XB := [(0, X_aload 0 1),
  (1, X_get 7 0),
  (4, X_getE 21 2),
  (7, X_if (fun x => x = 0) 15),
  (10, X_push (xv_i 64) 2),
  (12, X_goto 16),
  (15, X_push (xv_i 0) 1),
  (16, X_istore 2 1),
  (17, X_aload 0 1),
  (18, X_get 7 0),
  (21, X_getE 21 1),
  (24, X_if (fun x => x = 0) 32),
  (27, X_push (xv_i 16) 2),
  (29, X_goto 33),
  (32, X_push (xv_i 0) 1),
  (33, X_istore 3 1),
  (34, X_push (xv_i 32) 2),
  (36, X_istore 4 2),
  (38, X_aload 0 1),
  (39, X_get 7 0),
  (42, X_getE 21 3),
  (45, X_if (fun x => x = 0) 52),
  (48, X_push (xv_i 2) 1),
  (49, X_goto 53),
  (52, X_push (xv_i 0) 1),
  (53, X_istore 5 2),
  (55, X_push (xv_i 128) 3),
  (58, X_istore 6 2),
  (60, X_aload 1 1),
  (61, X_iload 2 1),
  (62, X_iload 3 1),
  (63, X_bin (fun x y => x ||| y)),
  (64, X_un (fun x => (x.toUInt32 % 65536).toInt32)),
  (65, X_invV 9 Y_ZStringBuilder_append_2 1 []),
  (68, X_pop),
  (69, X_aload 1 1),
  (70, X_iload 4 2),
  (72, X_un (fun x => (x.toUInt32 % 65536).toInt32)),
  (73, X_invV 9 Y_ZStringBuilder_append_2 1 []),
  (76, X_pop),
  (77, X_aload 1 1),
  (78, X_push (xv_i 0) 1),
  (79, X_invV 9 Y_ZStringBuilder_append_2 1 []),
  (82, X_pop),
  (83, X_aload 1 1),
  (84, X_push (xv_i 0) 1),
  (85, X_invV 9 Y_ZStringBuilder_append_2 1 []),
  (88, X_pop),
  (89, X_aload 1 1),
  (90, X_iload 5 2),
  (92, X_un (fun x => (x.toUInt32 % 65536).toInt32)),
  (93, X_invV 9 Y_ZStringBuilder_append_2 1 []),
  (96, X_pop),
  (97, X_aload 1 1),
  (98, X_iload 6 2),
  (100, X_un (fun x => (x.toUInt32 % 65536).toInt32)),
  (101, X_invV 9 Y_ZStringBuilder_append_2 1 []),
  (104, X_pop),
  (105, X_aload 1 1),
  (106, X_push (xv_i 0) 1),
  (107, X_invV 9 Y_ZStringBuilder_append_2 1 []),
  (110, X_pop),
  (111, X_aload 1 1),
  (112, X_push (xv_i 0) 1),
  (113, X_invV 9 Y_ZStringBuilder_append_2 1 []),
  (116, X_pop),
  (117, X_vret)]
set_option maxRecDepth 100000 in
theorem k_G_appendBitmap : x_bok m_G_appendBitmap b_G_appendBitmap := by
  unfold b_G_appendBitmap
  refine x_bok.cons (xs_aload_n d_G_appendBitmap_0 rfl) ?_
  refine x_bok.cons (xs_get d_G_appendBitmap_1 xc7 xw7 (by decide) q3_34 (Or.inl rfl)) ?_
  refine x_bok.cons (xs_getE d_G_appendBitmap_4 rfl q7_26 (Or.inl rfl)) ?_
  refine x_bok.cons (xs_if_eq d_G_appendBitmap_7 (by decide)) ?_
  refine x_bok.cons (xs_bipush d_G_appendBitmap_10 (by decide)) ?_
  refine x_bok.cons (xs_goto d_G_appendBitmap_12 (by decide)) ?_
  refine x_bok.cons (xs_iconst d_G_appendBitmap_15 (by decide)) ?_
  refine x_bok.cons (xs_istore_n d_G_appendBitmap_16 rfl (by decide)) ?_
  refine x_bok.cons (xs_aload_n d_G_appendBitmap_17 rfl) ?_
  refine x_bok.cons (xs_get d_G_appendBitmap_18 xc7 xw7 (by decide) q3_34 (Or.inl rfl)) ?_
  refine x_bok.cons (xs_getE d_G_appendBitmap_21 rfl q7_27 (Or.inl rfl)) ?_
  refine x_bok.cons (xs_if_eq d_G_appendBitmap_24 (by decide)) ?_
  refine x_bok.cons (xs_bipush d_G_appendBitmap_27 (by decide)) ?_
  refine x_bok.cons (xs_goto d_G_appendBitmap_29 (by decide)) ?_
  refine x_bok.cons (xs_iconst d_G_appendBitmap_32 (by decide)) ?_
  refine x_bok.cons (xs_istore_n d_G_appendBitmap_33 rfl (by decide)) ?_
  refine x_bok.cons (xs_bipush d_G_appendBitmap_34 (by decide)) ?_
  refine x_bok.cons (xs_istore d_G_appendBitmap_36 (by decide)) ?_
  refine x_bok.cons (xs_aload_n d_G_appendBitmap_38 rfl) ?_
  refine x_bok.cons (xs_get d_G_appendBitmap_39 xc7 xw7 (by decide) q3_34 (Or.inl rfl)) ?_
  refine x_bok.cons (xs_getE d_G_appendBitmap_42 rfl q7_28 (Or.inl rfl)) ?_
  refine x_bok.cons (xs_if_eq d_G_appendBitmap_45 (by decide)) ?_
  refine x_bok.cons (xs_iconst d_G_appendBitmap_48 (by decide)) ?_
  refine x_bok.cons (xs_goto d_G_appendBitmap_49 (by decide)) ?_
  refine x_bok.cons (xs_iconst d_G_appendBitmap_52 (by decide)) ?_
  refine x_bok.cons (xs_istore d_G_appendBitmap_53 (by decide)) ?_
  refine x_bok.cons (xs_sipush d_G_appendBitmap_55 (by decide)) ?_
  refine x_bok.cons (xs_istore d_G_appendBitmap_58 (by decide)) ?_
  refine x_bok.cons (xs_aload_n d_G_appendBitmap_60 rfl) ?_
  refine x_bok.cons (xs_iload_n d_G_appendBitmap_61 rfl) ?_
  refine x_bok.cons (xs_iload_n d_G_appendBitmap_62 rfl) ?_
  refine x_bok.cons (xs_ior d_G_appendBitmap_63) ?_
  refine x_bok.cons (xs_i2c d_G_appendBitmap_64) ?_
  refine x_bok.cons (xs_invV d_G_appendBitmap_65 xc9 sn_ZStringBuilder_append_2 is_ZStringBuilder_append_2 ⟨q5_117, q5_118, q5_119, q1_32⟩ (by decide) (by decide) rfl) ?_
  refine x_bok.cons (xs_pop d_G_appendBitmap_68) ?_
  refine x_bok.cons (xs_aload_n d_G_appendBitmap_69 rfl) ?_
  refine x_bok.cons (xs_iload d_G_appendBitmap_70) ?_
  refine x_bok.cons (xs_i2c d_G_appendBitmap_72) ?_
  refine x_bok.cons (xs_invV d_G_appendBitmap_73 xc9 sn_ZStringBuilder_append_2 is_ZStringBuilder_append_2 ⟨q5_117, q5_118, q5_119, q1_32⟩ (by decide) (by decide) rfl) ?_
  refine x_bok.cons (xs_pop d_G_appendBitmap_76) ?_
  refine x_bok.cons (xs_aload_n d_G_appendBitmap_77 rfl) ?_
  refine x_bok.cons (xs_iconst d_G_appendBitmap_78 (by decide)) ?_
  refine x_bok.cons (xs_invV d_G_appendBitmap_79 xc9 sn_ZStringBuilder_append_2 is_ZStringBuilder_append_2 ⟨q5_117, q5_118, q5_119, q1_32⟩ (by decide) (by decide) rfl) ?_
  refine x_bok.cons (xs_pop d_G_appendBitmap_82) ?_
  refine x_bok.cons (xs_aload_n d_G_appendBitmap_83 rfl) ?_
  refine x_bok.cons (xs_iconst d_G_appendBitmap_84 (by decide)) ?_
  refine x_bok.cons (xs_invV d_G_appendBitmap_85 xc9 sn_ZStringBuilder_append_2 is_ZStringBuilder_append_2 ⟨q5_117, q5_118, q5_119, q1_32⟩ (by decide) (by decide) rfl) ?_
  refine x_bok.cons (xs_pop d_G_appendBitmap_88) ?_
  refine x_bok.cons (xs_aload_n d_G_appendBitmap_89 rfl) ?_
  refine x_bok.cons (xs_iload d_G_appendBitmap_90) ?_
  refine x_bok.cons (xs_i2c d_G_appendBitmap_92) ?_
  refine x_bok.cons (xs_invV d_G_appendBitmap_93 xc9 sn_ZStringBuilder_append_2 is_ZStringBuilder_append_2 ⟨q5_117, q5_118, q5_119, q1_32⟩ (by decide) (by decide) rfl) ?_
  refine x_bok.cons (xs_pop d_G_appendBitmap_96) ?_
  refine x_bok.cons (xs_aload_n d_G_appendBitmap_97 rfl) ?_
  refine x_bok.cons (xs_iload d_G_appendBitmap_98) ?_
  refine x_bok.cons (xs_i2c d_G_appendBitmap_100) ?_
  refine x_bok.cons (xs_invV d_G_appendBitmap_101 xc9 sn_ZStringBuilder_append_2 is_ZStringBuilder_append_2 ⟨q5_117, q5_118, q5_119, q1_32⟩ (by decide) (by decide) rfl) ?_
  refine x_bok.cons (xs_pop d_G_appendBitmap_104) ?_
  refine x_bok.cons (xs_aload_n d_G_appendBitmap_105 rfl) ?_
  refine x_bok.cons (xs_iconst d_G_appendBitmap_106 (by decide)) ?_
  refine x_bok.cons (xs_invV d_G_appendBitmap_107 xc9 sn_ZStringBuilder_append_2 is_ZStringBuilder_append_2 ⟨q5_117, q5_118, q5_119, q1_32⟩ (by decide) (by decide) rfl) ?_
  refine x_bok.cons (xs_pop d_G_appendBitmap_110) ?_
  refine x_bok.cons (xs_aload_n d_G_appendBitmap_111 rfl) ?_
  refine x_bok.cons (xs_iconst d_G_appendBitmap_112 (by decide)) ?_
  refine x_bok.cons (xs_invV d_G_appendBitmap_113 xc9 sn_ZStringBuilder_append_2 is_ZStringBuilder_append_2 ⟨q5_117, q5_118, q5_119, q1_32⟩ (by decide) (by decide) rfl) ?_
  refine x_bok.cons (xs_pop d_G_appendBitmap_116) ?_
  refine x_bok.cons (xs_vret d_G_appendBitmap_117 rfl) ?_
  exact x_bok.nil
set_option maxRecDepth 100000 in
theorem mn_G_appendBitmap : x_bmn b_G_appendBitmap := by
  unfold b_G_appendBitmap
  refine x_bmn.cons (xm_aload) ?_
  refine x_bmn.cons (xm_get) ?_
  refine x_bmn.cons (xm_getE) ?_
  refine x_bmn.cons (xm_if) ?_
  refine x_bmn.cons (xm_push) ?_
  refine x_bmn.cons (xm_goto) ?_
  refine x_bmn.cons (xm_push) ?_
  refine x_bmn.cons (xm_istore) ?_
  refine x_bmn.cons (xm_aload) ?_
  refine x_bmn.cons (xm_get) ?_
  refine x_bmn.cons (xm_getE) ?_
  refine x_bmn.cons (xm_if) ?_
  refine x_bmn.cons (xm_push) ?_
  refine x_bmn.cons (xm_goto) ?_
  refine x_bmn.cons (xm_push) ?_
  refine x_bmn.cons (xm_istore) ?_
  refine x_bmn.cons (xm_push) ?_
  refine x_bmn.cons (xm_istore) ?_
  refine x_bmn.cons (xm_aload) ?_
  refine x_bmn.cons (xm_get) ?_
  refine x_bmn.cons (xm_getE) ?_
  refine x_bmn.cons (xm_if) ?_
  refine x_bmn.cons (xm_push) ?_
  refine x_bmn.cons (xm_goto) ?_
  refine x_bmn.cons (xm_push) ?_
  refine x_bmn.cons (xm_istore) ?_
  refine x_bmn.cons (xm_push) ?_
  refine x_bmn.cons (xm_istore) ?_
  refine x_bmn.cons (xm_aload) ?_
  refine x_bmn.cons (xm_iload) ?_
  refine x_bmn.cons (xm_iload) ?_
  refine x_bmn.cons (xm_bin) ?_
  refine x_bmn.cons (xm_un) ?_
  refine x_bmn.cons (xm_invV ym_ZStringBuilder_append_2) ?_
  refine x_bmn.cons (xm_pop) ?_
  refine x_bmn.cons (xm_aload) ?_
  refine x_bmn.cons (xm_iload) ?_
  refine x_bmn.cons (xm_un) ?_
  refine x_bmn.cons (xm_invV ym_ZStringBuilder_append_2) ?_
  refine x_bmn.cons (xm_pop) ?_
  refine x_bmn.cons (xm_aload) ?_
  refine x_bmn.cons (xm_push) ?_
  refine x_bmn.cons (xm_invV ym_ZStringBuilder_append_2) ?_
  refine x_bmn.cons (xm_pop) ?_
  refine x_bmn.cons (xm_aload) ?_
  refine x_bmn.cons (xm_push) ?_
  refine x_bmn.cons (xm_invV ym_ZStringBuilder_append_2) ?_
  refine x_bmn.cons (xm_pop) ?_
  refine x_bmn.cons (xm_aload) ?_
  refine x_bmn.cons (xm_iload) ?_
  refine x_bmn.cons (xm_un) ?_
  refine x_bmn.cons (xm_invV ym_ZStringBuilder_append_2) ?_
  refine x_bmn.cons (xm_pop) ?_
  refine x_bmn.cons (xm_aload) ?_
  refine x_bmn.cons (xm_iload) ?_
  refine x_bmn.cons (xm_un) ?_
  refine x_bmn.cons (xm_invV ym_ZStringBuilder_append_2) ?_
  refine x_bmn.cons (xm_pop) ?_
  refine x_bmn.cons (xm_aload) ?_
  refine x_bmn.cons (xm_push) ?_
  refine x_bmn.cons (xm_invV ym_ZStringBuilder_append_2) ?_
  refine x_bmn.cons (xm_pop) ?_
  refine x_bmn.cons (xm_aload) ?_
  refine x_bmn.cons (xm_push) ?_
  refine x_bmn.cons (xm_invV ym_ZStringBuilder_append_2) ?_
  refine x_bmn.cons (xm_pop) ?_
  refine x_bmn.cons (xm_vret) ?_
  exact x_bmn.nil
theorem is_G_appendBitmap : x_Is y_G_appendBitmap m_G_appendBitmap := x_is_code q5_116
def Y_G_appendBitmap : XMeth := x_do 7 b_G_appendBitmap
theorem sn_G_appendBitmap : x_Snd y_G_appendBitmap m_G_appendBitmap Y_G_appendBitmap := x_snd_of (by decide) rfl rfl is_G_appendBitmap k_G_appendBitmap
theorem ym_G_appendBitmap : x_Ymn Y_G_appendBitmap := x_ymn_of mn_G_appendBitmap
/- java/lang/AbstractStringBuilder.length()I -/
abbrev c_ZAbstractStringBuilder_length : ByteArray := prog_14_method_6_code
def y_ZAbstractStringBuilder_length : MethodName := ⟨"java/lang/AbstractStringBuilder", "length", "()I"⟩
theorem d_ZAbstractStringBuilder_length_0 : decode c_ZAbstractStringBuilder_length 0 = .ok (.aload_n 0, 1) := by decide +kernel
theorem d_ZAbstractStringBuilder_length_1 : decode c_ZAbstractStringBuilder_length 1 = .ok (.getfield 79, 3) := by decide +kernel
theorem d_ZAbstractStringBuilder_length_4 : decode c_ZAbstractStringBuilder_length 4 = .ok (.ireturn, 1) := by decide +kernel
def m_ZAbstractStringBuilder_length : XM := ("java/lang/AbstractStringBuilder", c_ZAbstractStringBuilder_length, 1, (some .int), "length", [], 0, 0)
def b_ZAbstractStringBuilder_length : XB := [(0, X_aload 0 1),
  (1, X_get 9 3),
  (4, X_iret)]
set_option maxRecDepth 100000 in
theorem k_ZAbstractStringBuilder_length : x_bok m_ZAbstractStringBuilder_length b_ZAbstractStringBuilder_length := by
  unfold b_ZAbstractStringBuilder_length
  refine x_bok.cons (xs_aload_n d_ZAbstractStringBuilder_length_0 rfl) ?_
  refine x_bok.cons (xs_get d_ZAbstractStringBuilder_length_1 xc9 xw9 (by decide) q4_238 (Or.inl rfl)) ?_
  refine x_bok.cons (xs_iret d_ZAbstractStringBuilder_length_4 rfl) ?_
  exact x_bok.nil
set_option maxRecDepth 100000 in
theorem mn_ZAbstractStringBuilder_length : x_bmn b_ZAbstractStringBuilder_length := by
  unfold b_ZAbstractStringBuilder_length
  refine x_bmn.cons (xm_aload) ?_
  refine x_bmn.cons (xm_get) ?_
  refine x_bmn.cons (xm_iret) ?_
  exact x_bmn.nil
theorem is_ZAbstractStringBuilder_length : x_Is y_ZAbstractStringBuilder_length m_ZAbstractStringBuilder_length := x_is_code q5_146
def Y_ZAbstractStringBuilder_length : XMeth := x_do 1 b_ZAbstractStringBuilder_length
theorem sn_ZAbstractStringBuilder_length : x_Snd y_ZAbstractStringBuilder_length m_ZAbstractStringBuilder_length Y_ZAbstractStringBuilder_length := x_snd_of (by decide) rfl rfl is_ZAbstractStringBuilder_length k_ZAbstractStringBuilder_length
theorem ym_ZAbstractStringBuilder_length : x_Ymn Y_ZAbstractStringBuilder_length := x_ymn_of mn_ZAbstractStringBuilder_length
/- java/lang/StringBuilder.length()I -/
abbrev c_ZStringBuilder_length : ByteArray := prog_27_method_93_code
def y_ZStringBuilder_length : MethodName := ⟨"java/lang/StringBuilder", "length", "()I"⟩
theorem d_ZStringBuilder_length_0 : decode c_ZStringBuilder_length 0 = .ok (.aload_n 0, 1) := by decide +kernel
theorem d_ZStringBuilder_length_1 : decode c_ZStringBuilder_length 1 = .ok (.invokespecial 343, 3) := by decide +kernel
theorem d_ZStringBuilder_length_4 : decode c_ZStringBuilder_length 4 = .ok (.ireturn, 1) := by decide +kernel
def m_ZStringBuilder_length : XM := ("java/lang/StringBuilder", c_ZStringBuilder_length, 1, (some .int), "length", [], 1, 20)
def b_ZStringBuilder_length : XB := [(0, X_aload 0 1),
  (1, X_invV 9 Y_ZAbstractStringBuilder_length 0 []),
  (4, X_iret)]
set_option maxRecDepth 100000 in
theorem k_ZStringBuilder_length : x_bok m_ZStringBuilder_length b_ZStringBuilder_length := by
  unfold b_ZStringBuilder_length
  refine x_bok.cons (xs_aload_n d_ZStringBuilder_length_0 rfl) ?_
  refine x_bok.cons (xs_invU d_ZStringBuilder_length_1 xc9 sn_ZAbstractStringBuilder_length is_ZAbstractStringBuilder_length ⟨q5_144, q5_145, ⟨q5_7, q7_1, by decide⟩, q1_31⟩ (by decide) (by decide) rfl) ?_
  refine x_bok.cons (xs_iret d_ZStringBuilder_length_4 rfl) ?_
  exact x_bok.nil
set_option maxRecDepth 100000 in
theorem mn_ZStringBuilder_length : x_bmn b_ZStringBuilder_length := by
  unfold b_ZStringBuilder_length
  refine x_bmn.cons (xm_aload) ?_
  refine x_bmn.cons (xm_invV ym_ZAbstractStringBuilder_length) ?_
  refine x_bmn.cons (xm_iret) ?_
  exact x_bmn.nil
theorem is_ZStringBuilder_length : x_Is y_ZStringBuilder_length m_ZStringBuilder_length := x_is_code q5_143
def Y_ZStringBuilder_length : XMeth := x_do 1 b_ZStringBuilder_length
theorem sn_ZStringBuilder_length : x_Snd y_ZStringBuilder_length m_ZStringBuilder_length Y_ZStringBuilder_length := x_snd_of (by decide) rfl rfl is_ZStringBuilder_length k_ZStringBuilder_length
theorem ym_ZStringBuilder_length : x_Ymn Y_ZStringBuilder_length := x_ymn_of mn_ZStringBuilder_length
/- java/lang/String.checkIndex(II)V -/
abbrev c_ZString_checkIndex : ByteArray := prog_26_method_155_code
def y_ZString_checkIndex : MethodName := ⟨"java/lang/String", "checkIndex", "(II)V"⟩
theorem d_ZString_checkIndex_0 : decode c_ZString_checkIndex 0 = .ok (.iload_n 0, 1) := by decide +kernel
theorem d_ZString_checkIndex_1 : decode c_ZString_checkIndex 1 = .ok (.iload_n 1, 1) := by decide +kernel
theorem d_ZString_checkIndex_2 : decode c_ZString_checkIndex 2 = .ok (.getstatic 1053, 3) := by decide +kernel
theorem d_ZString_checkIndex_5 : decode c_ZString_checkIndex 5 = .ok (.invokestatic 1059, 3) := by decide +kernel
theorem d_ZString_checkIndex_8 : decode c_ZString_checkIndex 8 = .ok (.pop, 1) := by decide +kernel
theorem d_ZString_checkIndex_9 : decode c_ZString_checkIndex 9 = .ok (.return_, 1) := by decide +kernel
def m_ZString_checkIndex : XM := ("java/lang/String", c_ZString_checkIndex, 2, none, "checkIndex", [], 1, 22)
def b_ZString_checkIndex : XB := [(0, X_iload 0 1),
  (1, X_iload 1 1),
  (2, X_fmt),
  (5, X_invS Y_ZPreconditions_checkIndex 3 []),
  (8, X_pop),
  (9, X_vret)]
set_option maxRecDepth 100000 in
theorem k_ZString_checkIndex : x_bok m_ZString_checkIndex b_ZString_checkIndex := by
  unfold b_ZString_checkIndex
  refine x_bok.cons (xs_iload_n d_ZString_checkIndex_0 rfl) ?_
  refine x_bok.cons (xs_iload_n d_ZString_checkIndex_1 rfl) ?_
  refine x_bok.cons (xs_fmt d_ZString_checkIndex_2 q5_56) ?_
  refine x_bok.cons (xs_invS d_ZString_checkIndex_5 sn_ZPreconditions_checkIndex is_ZPreconditions_checkIndex ⟨q5_136, q3_97, q1_29⟩ (by decide) (by decide) rfl) ?_
  refine x_bok.cons (xs_pop d_ZString_checkIndex_8) ?_
  refine x_bok.cons (xs_vret d_ZString_checkIndex_9 rfl) ?_
  exact x_bok.nil
set_option maxRecDepth 100000 in
theorem mn_ZString_checkIndex : x_bmn b_ZString_checkIndex := by
  unfold b_ZString_checkIndex
  refine x_bmn.cons (xm_iload) ?_
  refine x_bmn.cons (xm_iload) ?_
  refine x_bmn.cons (xm_fmt) ?_
  refine x_bmn.cons (xm_invS ym_ZPreconditions_checkIndex) ?_
  refine x_bmn.cons (xm_pop) ?_
  refine x_bmn.cons (xm_vret) ?_
  exact x_bmn.nil
theorem is_ZString_checkIndex : x_Is y_ZString_checkIndex m_ZString_checkIndex := x_is_code q5_135
def Y_ZString_checkIndex : XMeth := x_do 2 b_ZString_checkIndex
theorem sn_ZString_checkIndex : x_Snd y_ZString_checkIndex m_ZString_checkIndex Y_ZString_checkIndex := x_snd_of (by decide) rfl rfl is_ZString_checkIndex k_ZString_checkIndex
theorem ym_ZString_checkIndex : x_Ymn Y_ZString_checkIndex := x_ymn_of mn_ZString_checkIndex
