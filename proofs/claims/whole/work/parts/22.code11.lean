/- java/lang/String.coder()B -/
abbrev c_ZString_coder : ByteArray := prog_26_method_152_code
def y_ZString_coder : MethodName := ⟨"java/lang/String", "coder", "()B"⟩
theorem d_ZString_coder_0 : decode c_ZString_coder 0 = .ok (.getstatic 38, 3) := by decide +kernel
theorem d_ZString_coder_3 : decode c_ZString_coder 3 = .ok (.ifCond .eq 10, 3) := by decide +kernel
theorem d_ZString_coder_6 : decode c_ZString_coder 6 = .ok (.aload_n 0, 1) := by decide +kernel
theorem d_ZString_coder_7 : decode c_ZString_coder 7 = .ok (.getfield 15, 3) := by decide +kernel
theorem d_ZString_coder_10 : decode c_ZString_coder 10 = .ok (.goto 4, 3) := by decide +kernel
theorem d_ZString_coder_13 : decode c_ZString_coder 13 = .ok (.iconst 1, 1) := by decide +kernel
theorem d_ZString_coder_14 : decode c_ZString_coder 14 = .ok (.ireturn, 1) := by decide +kernel
def m_ZString_coder : XM := ("java/lang/String", c_ZString_coder, 1, (some .byte), "coder", [], 0, 0)
def b_ZString_coder : XB := [(0, X_push (xv_i 1) 3),
  (3, X_if (fun x => x = 0) 13),
  (6, X_aload 0 1),
  (7, X_getE 22 1),
  (10, X_goto 14),
  (13, X_push (xv_i 1) 1),
  (14, X_bret)]
set_option maxRecDepth 100000 in
theorem k_ZString_coder : x_bok m_ZString_coder b_ZString_coder := by
  unfold b_ZString_coder
  refine x_bok.cons (xs_gets d_ZString_coder_0 (List.mem_of_getElem? (i := 13) rfl) q5_78 (Or.inl rfl)) ?_
  refine x_bok.cons (xs_if_eq d_ZString_coder_3 (by decide)) ?_
  refine x_bok.cons (xs_aload_n d_ZString_coder_6 rfl) ?_
  refine x_bok.cons (xs_getE d_ZString_coder_7 rfl q7_25 (Or.inl rfl)) ?_
  refine x_bok.cons (xs_goto d_ZString_coder_10 (by decide)) ?_
  refine x_bok.cons (xs_iconst d_ZString_coder_13 (by decide)) ?_
  refine x_bok.cons (xs_bret d_ZString_coder_14 rfl) ?_
  exact x_bok.nil
set_option maxRecDepth 100000 in
theorem mn_ZString_coder : x_bmn b_ZString_coder := by
  unfold b_ZString_coder
  refine x_bmn.cons (xm_push) ?_
  refine x_bmn.cons (xm_if) ?_
  refine x_bmn.cons (xm_aload) ?_
  refine x_bmn.cons (xm_getE) ?_
  refine x_bmn.cons (xm_goto) ?_
  refine x_bmn.cons (xm_push) ?_
  refine x_bmn.cons (xm_bret) ?_
  exact x_bmn.nil
theorem is_ZString_coder : x_Is y_ZString_coder m_ZString_coder := x_is_code q5_77
def Y_ZString_coder : XMeth := x_do 1 b_ZString_coder
theorem sn_ZString_coder : x_Snd y_ZString_coder m_ZString_coder Y_ZString_coder := x_snd_of (by decide) rfl rfl is_ZString_coder k_ZString_coder
theorem ym_ZString_coder : x_Ymn Y_ZString_coder := x_ymn_of mn_ZString_coder
/- java/lang/String.length()I -/
abbrev c_ZString_length : ByteArray := prog_26_method_54_code
def y_ZString_length : MethodName := ⟨"java/lang/String", "length", "()I"⟩
theorem d_ZString_length_0 : decode c_ZString_length 0 = .ok (.aload_n 0, 1) := by decide +kernel
theorem d_ZString_length_1 : decode c_ZString_length 1 = .ok (.getfield 9, 3) := by decide +kernel
theorem d_ZString_length_4 : decode c_ZString_length 4 = .ok (.arraylength, 1) := by decide +kernel
theorem d_ZString_length_5 : decode c_ZString_length 5 = .ok (.aload_n 0, 1) := by decide +kernel
theorem d_ZString_length_6 : decode c_ZString_length 6 = .ok (.invokevirtual 335, 3) := by decide +kernel
theorem d_ZString_length_9 : decode c_ZString_length 9 = .ok (.ishr, 1) := by decide +kernel
theorem d_ZString_length_10 : decode c_ZString_length 10 = .ok (.ireturn, 1) := by decide +kernel
def m_ZString_length : XM := ("java/lang/String", c_ZString_length, 1, (some .int), "length", [], 1, 20)
def b_ZString_length : XB := [(0, X_aload 0 1),
  (1, X_getE 22 0),
  (4, X_alen),
  (5, X_aload 0 1),
  (6, X_invE 22 Y_ZString_coder 0 []),
  (9, X_bin (fun x y => x >>> (y &&& 31))),
  (10, X_iret)]
set_option maxRecDepth 100000 in
theorem k_ZString_length : x_bok m_ZString_length b_ZString_length := by
  unfold b_ZString_length
  refine x_bok.cons (xs_aload_n d_ZString_length_0 rfl) ?_
  refine x_bok.cons (xs_getE d_ZString_length_1 rfl q7_24 (Or.inl rfl)) ?_
  refine x_bok.cons (xs_alen d_ZString_length_4) ?_
  refine x_bok.cons (xs_aload_n d_ZString_length_5 rfl) ?_
  refine x_bok.cons (xs_invE d_ZString_length_6 (ci := 22) (C := "java/lang/String") rfl sn_ZString_coder is_ZString_coder ⟨q5_74, q5_75, q5_76, q1_33⟩ (by decide) (by decide) rfl) ?_
  refine x_bok.cons (xs_ishr d_ZString_length_9) ?_
  refine x_bok.cons (xs_iret d_ZString_length_10 rfl) ?_
  exact x_bok.nil
set_option maxRecDepth 100000 in
theorem mn_ZString_length : x_bmn b_ZString_length := by
  unfold b_ZString_length
  refine x_bmn.cons (xm_aload) ?_
  refine x_bmn.cons (xm_getE) ?_
  refine x_bmn.cons (xm_alen) ?_
  refine x_bmn.cons (xm_aload) ?_
  refine x_bmn.cons (xm_invE ym_ZString_coder) ?_
  refine x_bmn.cons (xm_bin) ?_
  refine x_bmn.cons (xm_iret) ?_
  exact x_bmn.nil
theorem is_ZString_length : x_Is y_ZString_length m_ZString_length := x_is_code q5_73
def Y_ZString_length : XMeth := x_do 1 b_ZString_length
theorem sn_ZString_length : x_Snd y_ZString_length m_ZString_length Y_ZString_length := x_snd_of (by decide) rfl rfl is_ZString_length k_ZString_length
theorem ym_ZString_length : x_Ymn Y_ZString_length := x_ymn_of mn_ZString_length
/- java/lang/AbstractStringBuilder.newCapacity(I)I -/
abbrev c_ZAbstractStringBuilder_newCapacity : ByteArray := prog_14_method_10_code
def y_ZAbstractStringBuilder_newCapacity : MethodName := ⟨"java/lang/AbstractStringBuilder", "newCapacity", "(I)I"⟩
theorem d_ZAbstractStringBuilder_newCapacity_0 : decode c_ZAbstractStringBuilder_newCapacity 0 = .ok (.aload_n 0, 1) := by decide +kernel
theorem d_ZAbstractStringBuilder_newCapacity_1 : decode c_ZAbstractStringBuilder_newCapacity 1 = .ok (.getfield 15, 3) := by decide +kernel
theorem d_ZAbstractStringBuilder_newCapacity_4 : decode c_ZAbstractStringBuilder_newCapacity 4 = .ok (.arraylength, 1) := by decide +kernel
theorem d_ZAbstractStringBuilder_newCapacity_5 : decode c_ZAbstractStringBuilder_newCapacity 5 = .ok (.istore_n 2, 1) := by decide +kernel
theorem d_ZAbstractStringBuilder_newCapacity_6 : decode c_ZAbstractStringBuilder_newCapacity 6 = .ok (.iload_n 1, 1) := by decide +kernel
theorem d_ZAbstractStringBuilder_newCapacity_7 : decode c_ZAbstractStringBuilder_newCapacity 7 = .ok (.aload_n 0, 1) := by decide +kernel
theorem d_ZAbstractStringBuilder_newCapacity_8 : decode c_ZAbstractStringBuilder_newCapacity 8 = .ok (.getfield 22, 3) := by decide +kernel
theorem d_ZAbstractStringBuilder_newCapacity_11 : decode c_ZAbstractStringBuilder_newCapacity 11 = .ok (.ishl, 1) := by decide +kernel
theorem d_ZAbstractStringBuilder_newCapacity_12 : decode c_ZAbstractStringBuilder_newCapacity 12 = .ok (.istore_n 3, 1) := by decide +kernel
theorem d_ZAbstractStringBuilder_newCapacity_13 : decode c_ZAbstractStringBuilder_newCapacity 13 = .ok (.iload_n 3, 1) := by decide +kernel
theorem d_ZAbstractStringBuilder_newCapacity_14 : decode c_ZAbstractStringBuilder_newCapacity 14 = .ok (.iload_n 2, 1) := by decide +kernel
theorem d_ZAbstractStringBuilder_newCapacity_15 : decode c_ZAbstractStringBuilder_newCapacity 15 = .ok (.isub, 1) := by decide +kernel
theorem d_ZAbstractStringBuilder_newCapacity_16 : decode c_ZAbstractStringBuilder_newCapacity 16 = .ok (.istore 4, 2) := by decide +kernel
theorem d_ZAbstractStringBuilder_newCapacity_18 : decode c_ZAbstractStringBuilder_newCapacity 18 = .ok (.iload_n 2, 1) := by decide +kernel
theorem d_ZAbstractStringBuilder_newCapacity_19 : decode c_ZAbstractStringBuilder_newCapacity 19 = .ok (.iload 4, 2) := by decide +kernel
theorem d_ZAbstractStringBuilder_newCapacity_21 : decode c_ZAbstractStringBuilder_newCapacity 21 = .ok (.iload_n 2, 1) := by decide +kernel
theorem d_ZAbstractStringBuilder_newCapacity_22 : decode c_ZAbstractStringBuilder_newCapacity 22 = .ok (.iconst 2, 1) := by decide +kernel
theorem d_ZAbstractStringBuilder_newCapacity_23 : decode c_ZAbstractStringBuilder_newCapacity 23 = .ok (.aload_n 0, 1) := by decide +kernel
theorem d_ZAbstractStringBuilder_newCapacity_24 : decode c_ZAbstractStringBuilder_newCapacity 24 = .ok (.getfield 22, 3) := by decide +kernel
theorem d_ZAbstractStringBuilder_newCapacity_27 : decode c_ZAbstractStringBuilder_newCapacity 27 = .ok (.ishl, 1) := by decide +kernel
theorem d_ZAbstractStringBuilder_newCapacity_28 : decode c_ZAbstractStringBuilder_newCapacity 28 = .ok (.iadd, 1) := by decide +kernel
theorem d_ZAbstractStringBuilder_newCapacity_29 : decode c_ZAbstractStringBuilder_newCapacity 29 = .ok (.invokestatic 114, 3) := by decide +kernel
theorem d_ZAbstractStringBuilder_newCapacity_32 : decode c_ZAbstractStringBuilder_newCapacity 32 = .ok (.istore 5, 2) := by decide +kernel
theorem d_ZAbstractStringBuilder_newCapacity_34 : decode c_ZAbstractStringBuilder_newCapacity 34 = .ok (.iload 5, 2) := by decide +kernel
theorem d_ZAbstractStringBuilder_newCapacity_36 : decode c_ZAbstractStringBuilder_newCapacity 36 = .ok (.ldc 39, 2) := by decide +kernel
theorem d_ZAbstractStringBuilder_newCapacity_38 : decode c_ZAbstractStringBuilder_newCapacity 38 = .ok (.if_icmp .ne 13, 3) := by decide +kernel
theorem d_ZAbstractStringBuilder_newCapacity_41 : decode c_ZAbstractStringBuilder_newCapacity 41 = .ok (.new 120, 3) := by decide +kernel
theorem d_ZAbstractStringBuilder_newCapacity_44 : decode c_ZAbstractStringBuilder_newCapacity 44 = .ok (.dup, 1) := by decide +kernel
theorem d_ZAbstractStringBuilder_newCapacity_45 : decode c_ZAbstractStringBuilder_newCapacity 45 = .ok (.ldc 122, 2) := by decide +kernel
theorem d_ZAbstractStringBuilder_newCapacity_47 : decode c_ZAbstractStringBuilder_newCapacity 47 = .ok (.invokespecial 124, 3) := by decide +kernel
theorem d_ZAbstractStringBuilder_newCapacity_50 : decode c_ZAbstractStringBuilder_newCapacity 50 = .ok (.athrow, 1) := by decide +kernel
theorem d_ZAbstractStringBuilder_newCapacity_51 : decode c_ZAbstractStringBuilder_newCapacity 51 = .ok (.iload 5, 2) := by decide +kernel
theorem d_ZAbstractStringBuilder_newCapacity_53 : decode c_ZAbstractStringBuilder_newCapacity 53 = .ok (.aload_n 0, 1) := by decide +kernel
theorem d_ZAbstractStringBuilder_newCapacity_54 : decode c_ZAbstractStringBuilder_newCapacity 54 = .ok (.getfield 22, 3) := by decide +kernel
theorem d_ZAbstractStringBuilder_newCapacity_57 : decode c_ZAbstractStringBuilder_newCapacity 57 = .ok (.ishr, 1) := by decide +kernel
theorem d_ZAbstractStringBuilder_newCapacity_58 : decode c_ZAbstractStringBuilder_newCapacity 58 = .ok (.ireturn, 1) := by decide +kernel
def m_ZAbstractStringBuilder_newCapacity : XM := ("java/lang/AbstractStringBuilder", c_ZAbstractStringBuilder_newCapacity, 6, (some .int), "newCapacity", [], 2, 44)
def b_ZAbstractStringBuilder_newCapacity : XB := [(0, X_aload 0 1),
  (1, X_get 9 0),
  (4, X_alen),
  (5, X_istore 2 1),
  (6, X_iload 1 1),
  (7, X_aload 0 1),
  (8, X_get 9 1),
  (11, X_bin (fun x y => x <<< (y &&& 31))),
  (12, X_istore 3 1),
  (13, X_iload 3 1),
  (14, X_iload 2 1),
  (15, X_bin (fun x y => x - y)),
  (16, X_istore 4 2),
  (18, X_iload 2 1),
  (19, X_iload 4 2),
  (21, X_iload 2 1),
  (22, X_push (xv_i 2) 1),
  (23, X_aload 0 1),
  (24, X_get 9 1),
  (27, X_bin (fun x y => x <<< (y &&& 31))),
  (28, X_bin (fun x y => x + y)),
  (29, X_invS Y_ZArraysSupport_newLength 3 []),
  (32, X_istore 5 2),
  (34, X_iload 5 2),
  (36, X_push (xv_i 2147483647) 2),
  (38, X_icmp (fun x y => ¬ x = y) 51),
  (41, X_bad),
  (44, X_dup),
  (45, X_bad),
  (47, X_bad),
  (50, X_bad),
  (51, X_iload 5 2),
  (53, X_aload 0 1),
  (54, X_get 9 1),
  (57, X_bin (fun x y => x >>> (y &&& 31))),
  (58, X_iret)]
set_option maxRecDepth 100000 in
theorem k_ZAbstractStringBuilder_newCapacity : x_bok m_ZAbstractStringBuilder_newCapacity b_ZAbstractStringBuilder_newCapacity := by
  unfold b_ZAbstractStringBuilder_newCapacity
  refine x_bok.cons (xs_aload_n d_ZAbstractStringBuilder_newCapacity_0 rfl) ?_
  refine x_bok.cons (xs_get d_ZAbstractStringBuilder_newCapacity_1 xc9 xw9 (by decide) q4_235 (Or.inl rfl)) ?_
  refine x_bok.cons (xs_alen d_ZAbstractStringBuilder_newCapacity_4) ?_
  refine x_bok.cons (xs_istore_n d_ZAbstractStringBuilder_newCapacity_5 rfl (by decide)) ?_
  refine x_bok.cons (xs_iload_n d_ZAbstractStringBuilder_newCapacity_6 rfl) ?_
  refine x_bok.cons (xs_aload_n d_ZAbstractStringBuilder_newCapacity_7 rfl) ?_
  refine x_bok.cons (xs_get d_ZAbstractStringBuilder_newCapacity_8 xc9 xw9 (by decide) q4_236 (Or.inl rfl)) ?_
  refine x_bok.cons (xs_ishl d_ZAbstractStringBuilder_newCapacity_11) ?_
  refine x_bok.cons (xs_istore_n d_ZAbstractStringBuilder_newCapacity_12 rfl (by decide)) ?_
  refine x_bok.cons (xs_iload_n d_ZAbstractStringBuilder_newCapacity_13 rfl) ?_
  refine x_bok.cons (xs_iload_n d_ZAbstractStringBuilder_newCapacity_14 rfl) ?_
  refine x_bok.cons (xs_isub d_ZAbstractStringBuilder_newCapacity_15) ?_
  refine x_bok.cons (xs_istore d_ZAbstractStringBuilder_newCapacity_16 (by decide)) ?_
  refine x_bok.cons (xs_iload_n d_ZAbstractStringBuilder_newCapacity_18 rfl) ?_
  refine x_bok.cons (xs_iload d_ZAbstractStringBuilder_newCapacity_19) ?_
  refine x_bok.cons (xs_iload_n d_ZAbstractStringBuilder_newCapacity_21 rfl) ?_
  refine x_bok.cons (xs_iconst d_ZAbstractStringBuilder_newCapacity_22 (by decide)) ?_
  refine x_bok.cons (xs_aload_n d_ZAbstractStringBuilder_newCapacity_23 rfl) ?_
  refine x_bok.cons (xs_get d_ZAbstractStringBuilder_newCapacity_24 xc9 xw9 (by decide) q4_236 (Or.inl rfl)) ?_
  refine x_bok.cons (xs_ishl d_ZAbstractStringBuilder_newCapacity_27) ?_
  refine x_bok.cons (xs_iadd d_ZAbstractStringBuilder_newCapacity_28) ?_
  refine x_bok.cons (xs_invS d_ZAbstractStringBuilder_newCapacity_29 sn_ZArraysSupport_newLength is_ZArraysSupport_newLength ⟨q5_27, q2_199, q1_22⟩ (by decide) (by decide) rfl) ?_
  refine x_bok.cons (xs_istore d_ZAbstractStringBuilder_newCapacity_32 (by decide)) ?_
  refine x_bok.cons (xs_iload d_ZAbstractStringBuilder_newCapacity_34) ?_
  refine x_bok.cons (xs_ldc d_ZAbstractStringBuilder_newCapacity_36 q5_28) ?_
  refine x_bok.cons (xs_icmp_ne d_ZAbstractStringBuilder_newCapacity_38 (by decide)) ?_
  refine x_bok.cons (xs_bad) ?_
  refine x_bok.cons (xs_dup d_ZAbstractStringBuilder_newCapacity_44) ?_
  refine x_bok.cons (xs_bad) ?_
  refine x_bok.cons (xs_bad) ?_
  refine x_bok.cons (xs_bad) ?_
  refine x_bok.cons (xs_iload d_ZAbstractStringBuilder_newCapacity_51) ?_
  refine x_bok.cons (xs_aload_n d_ZAbstractStringBuilder_newCapacity_53 rfl) ?_
  refine x_bok.cons (xs_get d_ZAbstractStringBuilder_newCapacity_54 xc9 xw9 (by decide) q4_236 (Or.inl rfl)) ?_
  refine x_bok.cons (xs_ishr d_ZAbstractStringBuilder_newCapacity_57) ?_
  refine x_bok.cons (xs_iret d_ZAbstractStringBuilder_newCapacity_58 rfl) ?_
  exact x_bok.nil
set_option maxRecDepth 100000 in
theorem mn_ZAbstractStringBuilder_newCapacity : x_bmn b_ZAbstractStringBuilder_newCapacity := by
  unfold b_ZAbstractStringBuilder_newCapacity
  refine x_bmn.cons (xm_aload) ?_
  refine x_bmn.cons (xm_get) ?_
  refine x_bmn.cons (xm_alen) ?_
  refine x_bmn.cons (xm_istore) ?_
  refine x_bmn.cons (xm_iload) ?_
  refine x_bmn.cons (xm_aload) ?_
  refine x_bmn.cons (xm_get) ?_
  refine x_bmn.cons (xm_bin) ?_
  refine x_bmn.cons (xm_istore) ?_
  refine x_bmn.cons (xm_iload) ?_
  refine x_bmn.cons (xm_iload) ?_
  refine x_bmn.cons (xm_bin) ?_
  refine x_bmn.cons (xm_istore) ?_
  refine x_bmn.cons (xm_iload) ?_
  refine x_bmn.cons (xm_iload) ?_
  refine x_bmn.cons (xm_iload) ?_
  refine x_bmn.cons (xm_push) ?_
  refine x_bmn.cons (xm_aload) ?_
  refine x_bmn.cons (xm_get) ?_
  refine x_bmn.cons (xm_bin) ?_
  refine x_bmn.cons (xm_bin) ?_
  refine x_bmn.cons (xm_invS ym_ZArraysSupport_newLength) ?_
  refine x_bmn.cons (xm_istore) ?_
  refine x_bmn.cons (xm_iload) ?_
  refine x_bmn.cons (xm_push) ?_
  refine x_bmn.cons (xm_icmp) ?_
  refine x_bmn.cons (xm_bad) ?_
  refine x_bmn.cons (xm_dup) ?_
  refine x_bmn.cons (xm_bad) ?_
  refine x_bmn.cons (xm_bad) ?_
  refine x_bmn.cons (xm_bad) ?_
  refine x_bmn.cons (xm_iload) ?_
  refine x_bmn.cons (xm_aload) ?_
  refine x_bmn.cons (xm_get) ?_
  refine x_bmn.cons (xm_bin) ?_
  refine x_bmn.cons (xm_iret) ?_
  exact x_bmn.nil
theorem is_ZAbstractStringBuilder_newCapacity : x_Is y_ZAbstractStringBuilder_newCapacity m_ZAbstractStringBuilder_newCapacity := x_is_code q5_26
def Y_ZAbstractStringBuilder_newCapacity : XMeth := x_do 6 b_ZAbstractStringBuilder_newCapacity
theorem sn_ZAbstractStringBuilder_newCapacity : x_Snd y_ZAbstractStringBuilder_newCapacity m_ZAbstractStringBuilder_newCapacity Y_ZAbstractStringBuilder_newCapacity := x_snd_of (by decide) rfl rfl is_ZAbstractStringBuilder_newCapacity k_ZAbstractStringBuilder_newCapacity
theorem ym_ZAbstractStringBuilder_newCapacity : x_Ymn Y_ZAbstractStringBuilder_newCapacity := x_ymn_of mn_ZAbstractStringBuilder_newCapacity
/- java/util/Arrays.copyOf([BI)[B -/
abbrev c_ZArrays_copyOf_3 : ByteArray := prog_36_method_121_code
def y_ZArrays_copyOf_3 : MethodName := ⟨"java/util/Arrays", "copyOf", "([BI)[B"⟩
theorem d_ZArrays_copyOf_3_0 : decode c_ZArrays_copyOf_3 0 = .ok (.iload_n 1, 1) := by decide +kernel
theorem d_ZArrays_copyOf_3_1 : decode c_ZArrays_copyOf_3 1 = .ok (.aload_n 0, 1) := by decide +kernel
theorem d_ZArrays_copyOf_3_2 : decode c_ZArrays_copyOf_3 2 = .ok (.arraylength, 1) := by decide +kernel
theorem d_ZArrays_copyOf_3_3 : decode c_ZArrays_copyOf_3 3 = .ok (.if_icmp .ne 11, 3) := by decide +kernel
theorem d_ZArrays_copyOf_3_6 : decode c_ZArrays_copyOf_3 6 = .ok (.aload_n 0, 1) := by decide +kernel
theorem d_ZArrays_copyOf_3_7 : decode c_ZArrays_copyOf_3 7 = .ok (.invokevirtual 310, 3) := by decide +kernel
theorem d_ZArrays_copyOf_3_10 : decode c_ZArrays_copyOf_3 10 = .ok (.checkcast 311, 3) := by decide +kernel
theorem d_ZArrays_copyOf_3_13 : decode c_ZArrays_copyOf_3 13 = .ok (.areturn, 1) := by decide +kernel
theorem d_ZArrays_copyOf_3_14 : decode c_ZArrays_copyOf_3 14 = .ok (.iload_n 1, 1) := by decide +kernel
theorem d_ZArrays_copyOf_3_15 : decode c_ZArrays_copyOf_3 15 = .ok (.newarray .byte, 2) := by decide +kernel
theorem d_ZArrays_copyOf_3_17 : decode c_ZArrays_copyOf_3 17 = .ok (.astore_n 2, 1) := by decide +kernel
theorem d_ZArrays_copyOf_3_18 : decode c_ZArrays_copyOf_3 18 = .ok (.aload_n 0, 1) := by decide +kernel
theorem d_ZArrays_copyOf_3_19 : decode c_ZArrays_copyOf_3 19 = .ok (.iconst 0, 1) := by decide +kernel
theorem d_ZArrays_copyOf_3_20 : decode c_ZArrays_copyOf_3 20 = .ok (.aload_n 2, 1) := by decide +kernel
theorem d_ZArrays_copyOf_3_21 : decode c_ZArrays_copyOf_3 21 = .ok (.iconst 0, 1) := by decide +kernel
theorem d_ZArrays_copyOf_3_22 : decode c_ZArrays_copyOf_3 22 = .ok (.aload_n 0, 1) := by decide +kernel
theorem d_ZArrays_copyOf_3_23 : decode c_ZArrays_copyOf_3 23 = .ok (.arraylength, 1) := by decide +kernel
theorem d_ZArrays_copyOf_3_24 : decode c_ZArrays_copyOf_3 24 = .ok (.iload_n 1, 1) := by decide +kernel
theorem d_ZArrays_copyOf_3_25 : decode c_ZArrays_copyOf_3 25 = .ok (.invokestatic 304, 3) := by decide +kernel
theorem d_ZArrays_copyOf_3_28 : decode c_ZArrays_copyOf_3 28 = .ok (.invokestatic 150, 3) := by decide +kernel
theorem d_ZArrays_copyOf_3_31 : decode c_ZArrays_copyOf_3 31 = .ok (.aload_n 2, 1) := by decide +kernel
theorem d_ZArrays_copyOf_3_32 : decode c_ZArrays_copyOf_3 32 = .ok (.areturn, 1) := by decide +kernel
def m_ZArrays_copyOf_3 : XM := ("java/util/Arrays", c_ZArrays_copyOf_3, 3, (some (.array .byte)), "copyOf", [], 1, 26)
def b_ZArrays_copyOf_3 : XB := [(0, X_iload 1 1),
  (1, X_aload 0 1),
  (2, X_alen),
  (3, X_icmp (fun x y => ¬ x = y) 14),
  (6, X_aload 0 1),
  (7, X_bad),
  (10, X_bad),
  (13, X_aret),
  (14, X_iload 1 1),
  (15, X_newa 2 1 (.inl (fun _ => 0)) 2),
  (17, X_astore 2 1),
  (18, X_aload 0 1),
  (19, X_push (xv_i 0) 1),
  (20, X_aload 2 1),
  (21, X_push (xv_i 0) 1),
  (22, X_aload 0 1),
  (23, X_alen),
  (24, X_iload 1 1),
  (25, X_mm (fun x y => if y < x then y else x)),
  (28, X_acpyB),
  (31, X_aload 2 1),
  (32, X_aret)]
set_option maxRecDepth 100000 in
theorem k_ZArrays_copyOf_3 : x_bok m_ZArrays_copyOf_3 b_ZArrays_copyOf_3 := by
  unfold b_ZArrays_copyOf_3
  refine x_bok.cons (xs_iload_n d_ZArrays_copyOf_3_0 rfl) ?_
  refine x_bok.cons (xs_aload_n d_ZArrays_copyOf_3_1 rfl) ?_
  refine x_bok.cons (xs_alen d_ZArrays_copyOf_3_2) ?_
  refine x_bok.cons (xs_icmp_ne d_ZArrays_copyOf_3_3 (by decide)) ?_
  refine x_bok.cons (xs_aload_n d_ZArrays_copyOf_3_6 rfl) ?_
  refine x_bok.cons (xs_bad) ?_
  refine x_bok.cons (xs_bad) ?_
  refine x_bok.cons (xs_aret d_ZArrays_copyOf_3_13 rfl (by first | exact Or.inl ⟨_, rfl⟩ | exact Or.inr ⟨_, rfl⟩)) ?_
  refine x_bok.cons (xs_iload_n d_ZArrays_copyOf_3_14 rfl) ?_
  refine x_bok.cons (xs_newa (ty := .byte) d_ZArrays_copyOf_3_15 rfl rfl q2_59 (fun _ _ _ => rfl) x_zbyte) ?_
  refine x_bok.cons (xs_astore_n d_ZArrays_copyOf_3_17 rfl (by decide)) ?_
  refine x_bok.cons (xs_aload_n d_ZArrays_copyOf_3_18 rfl) ?_
  refine x_bok.cons (xs_iconst d_ZArrays_copyOf_3_19 (by decide)) ?_
  refine x_bok.cons (xs_aload_n d_ZArrays_copyOf_3_20 rfl) ?_
  refine x_bok.cons (xs_iconst d_ZArrays_copyOf_3_21 (by decide)) ?_
  refine x_bok.cons (xs_aload_n d_ZArrays_copyOf_3_22 rfl) ?_
  refine x_bok.cons (xs_alen d_ZArrays_copyOf_3_23) ?_
  refine x_bok.cons (xs_iload_n d_ZArrays_copyOf_3_24 rfl) ?_
  refine x_bok.cons (xs_mmin d_ZArrays_copyOf_3_25 ⟨q2_239, q2_123, q1_18, q2_124⟩ (by decide)) ?_
  refine x_bok.cons (xs_acpyB d_ZArrays_copyOf_3_28 ⟨q3_0, q3_2, q3_1, q1_24⟩ (by decide)) ?_
  refine x_bok.cons (xs_aload_n d_ZArrays_copyOf_3_31 rfl) ?_
  refine x_bok.cons (xs_aret d_ZArrays_copyOf_3_32 rfl (by first | exact Or.inl ⟨_, rfl⟩ | exact Or.inr ⟨_, rfl⟩)) ?_
  exact x_bok.nil
set_option maxRecDepth 100000 in
theorem mn_ZArrays_copyOf_3 : x_bmn b_ZArrays_copyOf_3 := by
  unfold b_ZArrays_copyOf_3
  refine x_bmn.cons (xm_iload) ?_
  refine x_bmn.cons (xm_aload) ?_
  refine x_bmn.cons (xm_alen) ?_
  refine x_bmn.cons (xm_icmp) ?_
  refine x_bmn.cons (xm_aload) ?_
  refine x_bmn.cons (xm_bad) ?_
  refine x_bmn.cons (xm_bad) ?_
  refine x_bmn.cons (xm_aret) ?_
  refine x_bmn.cons (xm_iload) ?_
  refine x_bmn.cons (xm_newa) ?_
  refine x_bmn.cons (xm_astore) ?_
  refine x_bmn.cons (xm_aload) ?_
  refine x_bmn.cons (xm_push) ?_
  refine x_bmn.cons (xm_aload) ?_
  refine x_bmn.cons (xm_push) ?_
  refine x_bmn.cons (xm_aload) ?_
  refine x_bmn.cons (xm_alen) ?_
  refine x_bmn.cons (xm_iload) ?_
  refine x_bmn.cons (xm_mm) ?_
  refine x_bmn.cons (xm_acpyB) ?_
  refine x_bmn.cons (xm_aload) ?_
  refine x_bmn.cons (xm_aret) ?_
  exact x_bmn.nil
theorem is_ZArrays_copyOf_3 : x_Is y_ZArrays_copyOf_3 m_ZArrays_copyOf_3 := x_is_code q5_31
def Y_ZArrays_copyOf_3 : XMeth := x_do 3 b_ZArrays_copyOf_3
theorem sn_ZArrays_copyOf_3 : x_Snd y_ZArrays_copyOf_3 m_ZArrays_copyOf_3 Y_ZArrays_copyOf_3 := x_snd_of (by decide) rfl rfl is_ZArrays_copyOf_3 k_ZArrays_copyOf_3
theorem ym_ZArrays_copyOf_3 : x_Ymn Y_ZArrays_copyOf_3 := x_ymn_of mn_ZArrays_copyOf_3
/- java/lang/AbstractStringBuilder.ensureCapacityInternal(I)V -/
abbrev c_ZAbstractStringBuilder_ensureCapacityInternal : ByteArray := prog_14_method_9_code
def y_ZAbstractStringBuilder_ensureCapacityInternal : MethodName := ⟨"java/lang/AbstractStringBuilder", "ensureCapacityInternal", "(I)V"⟩
theorem d_ZAbstractStringBuilder_ensureCapacityInternal_0 : decode c_ZAbstractStringBuilder_ensureCapacityInternal 0 = .ok (.aload_n 0, 1) := by decide +kernel
theorem d_ZAbstractStringBuilder_ensureCapacityInternal_1 : decode c_ZAbstractStringBuilder_ensureCapacityInternal 1 = .ok (.getfield 15, 3) := by decide +kernel
theorem d_ZAbstractStringBuilder_ensureCapacityInternal_4 : decode c_ZAbstractStringBuilder_ensureCapacityInternal 4 = .ok (.arraylength, 1) := by decide +kernel
theorem d_ZAbstractStringBuilder_ensureCapacityInternal_5 : decode c_ZAbstractStringBuilder_ensureCapacityInternal 5 = .ok (.aload_n 0, 1) := by decide +kernel
theorem d_ZAbstractStringBuilder_ensureCapacityInternal_6 : decode c_ZAbstractStringBuilder_ensureCapacityInternal 6 = .ok (.getfield 22, 3) := by decide +kernel
theorem d_ZAbstractStringBuilder_ensureCapacityInternal_9 : decode c_ZAbstractStringBuilder_ensureCapacityInternal 9 = .ok (.ishr, 1) := by decide +kernel
theorem d_ZAbstractStringBuilder_ensureCapacityInternal_10 : decode c_ZAbstractStringBuilder_ensureCapacityInternal 10 = .ok (.istore_n 2, 1) := by decide +kernel
theorem d_ZAbstractStringBuilder_ensureCapacityInternal_11 : decode c_ZAbstractStringBuilder_ensureCapacityInternal 11 = .ok (.iload_n 1, 1) := by decide +kernel
theorem d_ZAbstractStringBuilder_ensureCapacityInternal_12 : decode c_ZAbstractStringBuilder_ensureCapacityInternal 12 = .ok (.iload_n 2, 1) := by decide +kernel
theorem d_ZAbstractStringBuilder_ensureCapacityInternal_13 : decode c_ZAbstractStringBuilder_ensureCapacityInternal 13 = .ok (.isub, 1) := by decide +kernel
theorem d_ZAbstractStringBuilder_ensureCapacityInternal_14 : decode c_ZAbstractStringBuilder_ensureCapacityInternal 14 = .ok (.ifCond .le 24, 3) := by decide +kernel
theorem d_ZAbstractStringBuilder_ensureCapacityInternal_17 : decode c_ZAbstractStringBuilder_ensureCapacityInternal 17 = .ok (.aload_n 0, 1) := by decide +kernel
theorem d_ZAbstractStringBuilder_ensureCapacityInternal_18 : decode c_ZAbstractStringBuilder_ensureCapacityInternal 18 = .ok (.aload_n 0, 1) := by decide +kernel
theorem d_ZAbstractStringBuilder_ensureCapacityInternal_19 : decode c_ZAbstractStringBuilder_ensureCapacityInternal 19 = .ok (.getfield 15, 3) := by decide +kernel
theorem d_ZAbstractStringBuilder_ensureCapacityInternal_22 : decode c_ZAbstractStringBuilder_ensureCapacityInternal 22 = .ok (.aload_n 0, 1) := by decide +kernel
theorem d_ZAbstractStringBuilder_ensureCapacityInternal_23 : decode c_ZAbstractStringBuilder_ensureCapacityInternal 23 = .ok (.iload_n 1, 1) := by decide +kernel
theorem d_ZAbstractStringBuilder_ensureCapacityInternal_24 : decode c_ZAbstractStringBuilder_ensureCapacityInternal 24 = .ok (.invokevirtual 104, 3) := by decide +kernel
theorem d_ZAbstractStringBuilder_ensureCapacityInternal_27 : decode c_ZAbstractStringBuilder_ensureCapacityInternal 27 = .ok (.aload_n 0, 1) := by decide +kernel
theorem d_ZAbstractStringBuilder_ensureCapacityInternal_28 : decode c_ZAbstractStringBuilder_ensureCapacityInternal 28 = .ok (.getfield 22, 3) := by decide +kernel
theorem d_ZAbstractStringBuilder_ensureCapacityInternal_31 : decode c_ZAbstractStringBuilder_ensureCapacityInternal 31 = .ok (.ishl, 1) := by decide +kernel
theorem d_ZAbstractStringBuilder_ensureCapacityInternal_32 : decode c_ZAbstractStringBuilder_ensureCapacityInternal 32 = .ok (.invokestatic 108, 3) := by decide +kernel
theorem d_ZAbstractStringBuilder_ensureCapacityInternal_35 : decode c_ZAbstractStringBuilder_ensureCapacityInternal 35 = .ok (.putfield 15, 3) := by decide +kernel
theorem d_ZAbstractStringBuilder_ensureCapacityInternal_38 : decode c_ZAbstractStringBuilder_ensureCapacityInternal 38 = .ok (.return_, 1) := by decide +kernel
def m_ZAbstractStringBuilder_ensureCapacityInternal : XM := ("java/lang/AbstractStringBuilder", c_ZAbstractStringBuilder_ensureCapacityInternal, 3, none, "ensureCapacityInternal", [], 3, 69)
def b_ZAbstractStringBuilder_ensureCapacityInternal : XB := [(0, X_aload 0 1),
  (1, X_get 9 0),
  (4, X_alen),
  (5, X_aload 0 1),
  (6, X_get 9 1),
  (9, X_bin (fun x y => x >>> (y &&& 31))),
  (10, X_istore 2 1),
  (11, X_iload 1 1),
  (12, X_iload 2 1),
  (13, X_bin (fun x y => x - y)),
  (14, X_if (fun x => x ≤ 0) 38),
  (17, X_aload 0 1),
  (18, X_aload 0 1),
  (19, X_get 9 0),
  (22, X_aload 0 1),
  (23, X_iload 1 1),
  (24, X_invV 9 Y_ZAbstractStringBuilder_newCapacity 1 []),
  (27, X_aload 0 1),
  (28, X_get 9 1),
  (31, X_bin (fun x y => x <<< (y &&& 31))),
  (32, X_invS Y_ZArrays_copyOf_3 2 []),
  (35, X_put x_tR 9 0),
  (38, X_vret)]
set_option maxRecDepth 100000 in
theorem k_ZAbstractStringBuilder_ensureCapacityInternal : x_bok m_ZAbstractStringBuilder_ensureCapacityInternal b_ZAbstractStringBuilder_ensureCapacityInternal := by
  unfold b_ZAbstractStringBuilder_ensureCapacityInternal
  refine x_bok.cons (xs_aload_n d_ZAbstractStringBuilder_ensureCapacityInternal_0 rfl) ?_
  refine x_bok.cons (xs_get d_ZAbstractStringBuilder_ensureCapacityInternal_1 xc9 xw9 (by decide) q4_235 (Or.inl rfl)) ?_
  refine x_bok.cons (xs_alen d_ZAbstractStringBuilder_ensureCapacityInternal_4) ?_
  refine x_bok.cons (xs_aload_n d_ZAbstractStringBuilder_ensureCapacityInternal_5 rfl) ?_
  refine x_bok.cons (xs_get d_ZAbstractStringBuilder_ensureCapacityInternal_6 xc9 xw9 (by decide) q4_236 (Or.inl rfl)) ?_
  refine x_bok.cons (xs_ishr d_ZAbstractStringBuilder_ensureCapacityInternal_9) ?_
  refine x_bok.cons (xs_istore_n d_ZAbstractStringBuilder_ensureCapacityInternal_10 rfl (by decide)) ?_
  refine x_bok.cons (xs_iload_n d_ZAbstractStringBuilder_ensureCapacityInternal_11 rfl) ?_
  refine x_bok.cons (xs_iload_n d_ZAbstractStringBuilder_ensureCapacityInternal_12 rfl) ?_
  refine x_bok.cons (xs_isub d_ZAbstractStringBuilder_ensureCapacityInternal_13) ?_
  refine x_bok.cons (xs_if_le d_ZAbstractStringBuilder_ensureCapacityInternal_14 (by decide)) ?_
  refine x_bok.cons (xs_aload_n d_ZAbstractStringBuilder_ensureCapacityInternal_17 rfl) ?_
  refine x_bok.cons (xs_aload_n d_ZAbstractStringBuilder_ensureCapacityInternal_18 rfl) ?_
  refine x_bok.cons (xs_get d_ZAbstractStringBuilder_ensureCapacityInternal_19 xc9 xw9 (by decide) q4_235 (Or.inl rfl)) ?_
  refine x_bok.cons (xs_aload_n d_ZAbstractStringBuilder_ensureCapacityInternal_22 rfl) ?_
  refine x_bok.cons (xs_iload_n d_ZAbstractStringBuilder_ensureCapacityInternal_23 rfl) ?_
  refine x_bok.cons (xs_invP d_ZAbstractStringBuilder_ensureCapacityInternal_24 xc9 sn_ZAbstractStringBuilder_newCapacity is_ZAbstractStringBuilder_newCapacity ⟨q5_23, q5_25, ⟨q5_24, q6_236⟩, q1_31⟩ (by decide) (by decide) rfl) ?_
  refine x_bok.cons (xs_aload_n d_ZAbstractStringBuilder_ensureCapacityInternal_27 rfl) ?_
  refine x_bok.cons (xs_get d_ZAbstractStringBuilder_ensureCapacityInternal_28 xc9 xw9 (by decide) q4_236 (Or.inl rfl)) ?_
  refine x_bok.cons (xs_ishl d_ZAbstractStringBuilder_ensureCapacityInternal_31) ?_
  refine x_bok.cons (xs_invS d_ZAbstractStringBuilder_ensureCapacityInternal_32 sn_ZArrays_copyOf_3 is_ZArrays_copyOf_3 ⟨q5_29, q5_30, q1_23⟩ (by decide) (by decide) rfl) ?_
  refine x_bok.cons (xs_put d_ZAbstractStringBuilder_ensureCapacityInternal_35 xc9 xw9 xt9 xn9 (by decide) q4_235 (Or.inl rfl) rfl rfl x_fitA) ?_
  refine x_bok.cons (xs_vret d_ZAbstractStringBuilder_ensureCapacityInternal_38 rfl) ?_
  exact x_bok.nil
set_option maxRecDepth 100000 in
theorem mn_ZAbstractStringBuilder_ensureCapacityInternal : x_bmn b_ZAbstractStringBuilder_ensureCapacityInternal := by
  unfold b_ZAbstractStringBuilder_ensureCapacityInternal
  refine x_bmn.cons (xm_aload) ?_
  refine x_bmn.cons (xm_get) ?_
  refine x_bmn.cons (xm_alen) ?_
  refine x_bmn.cons (xm_aload) ?_
  refine x_bmn.cons (xm_get) ?_
  refine x_bmn.cons (xm_bin) ?_
  refine x_bmn.cons (xm_istore) ?_
  refine x_bmn.cons (xm_iload) ?_
  refine x_bmn.cons (xm_iload) ?_
  refine x_bmn.cons (xm_bin) ?_
  refine x_bmn.cons (xm_if) ?_
  refine x_bmn.cons (xm_aload) ?_
  refine x_bmn.cons (xm_aload) ?_
  refine x_bmn.cons (xm_get) ?_
  refine x_bmn.cons (xm_aload) ?_
  refine x_bmn.cons (xm_iload) ?_
  refine x_bmn.cons (xm_invV ym_ZAbstractStringBuilder_newCapacity) ?_
  refine x_bmn.cons (xm_aload) ?_
  refine x_bmn.cons (xm_get) ?_
  refine x_bmn.cons (xm_bin) ?_
  refine x_bmn.cons (xm_invS ym_ZArrays_copyOf_3) ?_
  refine x_bmn.cons (xm_put) ?_
  refine x_bmn.cons (xm_vret) ?_
  exact x_bmn.nil
theorem is_ZAbstractStringBuilder_ensureCapacityInternal : x_Is y_ZAbstractStringBuilder_ensureCapacityInternal m_ZAbstractStringBuilder_ensureCapacityInternal := x_is_code q5_22
def Y_ZAbstractStringBuilder_ensureCapacityInternal : XMeth := x_do 3 b_ZAbstractStringBuilder_ensureCapacityInternal
theorem sn_ZAbstractStringBuilder_ensureCapacityInternal : x_Snd y_ZAbstractStringBuilder_ensureCapacityInternal m_ZAbstractStringBuilder_ensureCapacityInternal Y_ZAbstractStringBuilder_ensureCapacityInternal := x_snd_of (by decide) rfl rfl is_ZAbstractStringBuilder_ensureCapacityInternal k_ZAbstractStringBuilder_ensureCapacityInternal
theorem ym_ZAbstractStringBuilder_ensureCapacityInternal : x_Ymn Y_ZAbstractStringBuilder_ensureCapacityInternal := x_ymn_of mn_ZAbstractStringBuilder_ensureCapacityInternal
/- java/lang/AbstractStringBuilder.inflateIfNeededFor(Ljava/lang/String;)V -/
abbrev c_ZAbstractStringBuilder_inflateIfNeededFor : ByteArray := prog_14_method_71_code
def y_ZAbstractStringBuilder_inflateIfNeededFor : MethodName := ⟨"java/lang/AbstractStringBuilder", "inflateIfNeededFor", "(Ljava/lang/String;)V"⟩
theorem d_ZAbstractStringBuilder_inflateIfNeededFor_0 : decode c_ZAbstractStringBuilder_inflateIfNeededFor 0 = .ok (.getstatic 18, 3) := by decide +kernel
theorem d_ZAbstractStringBuilder_inflateIfNeededFor_3 : decode c_ZAbstractStringBuilder_inflateIfNeededFor 3 = .ok (.ifCond .eq 18, 3) := by decide +kernel
theorem d_ZAbstractStringBuilder_inflateIfNeededFor_6 : decode c_ZAbstractStringBuilder_inflateIfNeededFor 6 = .ok (.aload_n 0, 1) := by decide +kernel
theorem d_ZAbstractStringBuilder_inflateIfNeededFor_7 : decode c_ZAbstractStringBuilder_inflateIfNeededFor 7 = .ok (.getfield 22, 3) := by decide +kernel
theorem d_ZAbstractStringBuilder_inflateIfNeededFor_10 : decode c_ZAbstractStringBuilder_inflateIfNeededFor 10 = .ok (.aload_n 1, 1) := by decide +kernel
theorem d_ZAbstractStringBuilder_inflateIfNeededFor_11 : decode c_ZAbstractStringBuilder_inflateIfNeededFor 11 = .ok (.invokevirtual 40, 3) := by decide +kernel
theorem d_ZAbstractStringBuilder_inflateIfNeededFor_14 : decode c_ZAbstractStringBuilder_inflateIfNeededFor 14 = .ok (.if_icmp .eq 7, 3) := by decide +kernel
theorem d_ZAbstractStringBuilder_inflateIfNeededFor_17 : decode c_ZAbstractStringBuilder_inflateIfNeededFor 17 = .ok (.aload_n 0, 1) := by decide +kernel
theorem d_ZAbstractStringBuilder_inflateIfNeededFor_18 : decode c_ZAbstractStringBuilder_inflateIfNeededFor 18 = .ok (.invokevirtual 195, 3) := by decide +kernel
theorem d_ZAbstractStringBuilder_inflateIfNeededFor_21 : decode c_ZAbstractStringBuilder_inflateIfNeededFor 21 = .ok (.return_, 1) := by decide +kernel
def m_ZAbstractStringBuilder_inflateIfNeededFor : XM := ("java/lang/AbstractStringBuilder", c_ZAbstractStringBuilder_inflateIfNeededFor, 2, none, "inflateIfNeededFor", [], 1, 20)
def b_ZAbstractStringBuilder_inflateIfNeededFor : XB := [(0, X_push (xv_i 1) 3),
  (3, X_if (fun x => x = 0) 21),
  (6, X_aload 0 1),
  (7, X_get 9 1),
  (10, X_aload 1 1),
  (11, X_invE 22 Y_ZString_coder 0 []),
  (14, X_icmp (fun x y => x = y) 21),
  (17, X_aload 0 1),
  (18, X_bad),
  (21, X_vret)]
set_option maxRecDepth 100000 in
theorem k_ZAbstractStringBuilder_inflateIfNeededFor : x_bok m_ZAbstractStringBuilder_inflateIfNeededFor b_ZAbstractStringBuilder_inflateIfNeededFor := by
  unfold b_ZAbstractStringBuilder_inflateIfNeededFor
  refine x_bok.cons (xs_gets d_ZAbstractStringBuilder_inflateIfNeededFor_0 (List.mem_of_getElem? (i := 13) rfl) q4_226 (Or.inl rfl)) ?_
  refine x_bok.cons (xs_if_eq d_ZAbstractStringBuilder_inflateIfNeededFor_3 (by decide)) ?_
  refine x_bok.cons (xs_aload_n d_ZAbstractStringBuilder_inflateIfNeededFor_6 rfl) ?_
  refine x_bok.cons (xs_get d_ZAbstractStringBuilder_inflateIfNeededFor_7 xc9 xw9 (by decide) q4_236 (Or.inl rfl)) ?_
  refine x_bok.cons (xs_aload_n d_ZAbstractStringBuilder_inflateIfNeededFor_10 rfl) ?_
  refine x_bok.cons (xs_invE d_ZAbstractStringBuilder_inflateIfNeededFor_11 (ci := 22) (C := "java/lang/String") rfl sn_ZString_coder is_ZString_coder ⟨q5_87, q5_75, q5_76, q1_33⟩ (by decide) (by decide) rfl) ?_
  refine x_bok.cons (xs_icmp_eq d_ZAbstractStringBuilder_inflateIfNeededFor_14 (by decide)) ?_
  refine x_bok.cons (xs_aload_n d_ZAbstractStringBuilder_inflateIfNeededFor_17 rfl) ?_
  refine x_bok.cons (xs_bad) ?_
  refine x_bok.cons (xs_vret d_ZAbstractStringBuilder_inflateIfNeededFor_21 rfl) ?_
  exact x_bok.nil
set_option maxRecDepth 100000 in
theorem mn_ZAbstractStringBuilder_inflateIfNeededFor : x_bmn b_ZAbstractStringBuilder_inflateIfNeededFor := by
  unfold b_ZAbstractStringBuilder_inflateIfNeededFor
  refine x_bmn.cons (xm_push) ?_
  refine x_bmn.cons (xm_if) ?_
  refine x_bmn.cons (xm_aload) ?_
  refine x_bmn.cons (xm_get) ?_
  refine x_bmn.cons (xm_aload) ?_
  refine x_bmn.cons (xm_invE ym_ZString_coder) ?_
  refine x_bmn.cons (xm_icmp) ?_
  refine x_bmn.cons (xm_aload) ?_
  refine x_bmn.cons (xm_bad) ?_
  refine x_bmn.cons (xm_vret) ?_
  exact x_bmn.nil
theorem is_ZAbstractStringBuilder_inflateIfNeededFor : x_Is y_ZAbstractStringBuilder_inflateIfNeededFor m_ZAbstractStringBuilder_inflateIfNeededFor := x_is_code q5_86
def Y_ZAbstractStringBuilder_inflateIfNeededFor : XMeth := x_do 2 b_ZAbstractStringBuilder_inflateIfNeededFor
theorem sn_ZAbstractStringBuilder_inflateIfNeededFor : x_Snd y_ZAbstractStringBuilder_inflateIfNeededFor m_ZAbstractStringBuilder_inflateIfNeededFor Y_ZAbstractStringBuilder_inflateIfNeededFor := x_snd_of (by decide) rfl rfl is_ZAbstractStringBuilder_inflateIfNeededFor k_ZAbstractStringBuilder_inflateIfNeededFor
theorem ym_ZAbstractStringBuilder_inflateIfNeededFor : x_Ymn Y_ZAbstractStringBuilder_inflateIfNeededFor := x_ymn_of mn_ZAbstractStringBuilder_inflateIfNeededFor
/- java/lang/String.getBytes([BIB)V -/
abbrev c_ZString_getBytes : ByteArray := prog_26_method_147_code
def y_ZString_getBytes : MethodName := ⟨"java/lang/String", "getBytes", "([BIB)V"⟩
theorem d_ZString_getBytes_0 : decode c_ZString_getBytes 0 = .ok (.aload_n 0, 1) := by decide +kernel
theorem d_ZString_getBytes_1 : decode c_ZString_getBytes 1 = .ok (.invokevirtual 335, 3) := by decide +kernel
theorem d_ZString_getBytes_4 : decode c_ZString_getBytes 4 = .ok (.iload_n 3, 1) := by decide +kernel
theorem d_ZString_getBytes_5 : decode c_ZString_getBytes 5 = .ok (.if_icmp .ne 23, 3) := by decide +kernel
theorem d_ZString_getBytes_8 : decode c_ZString_getBytes 8 = .ok (.aload_n 0, 1) := by decide +kernel
theorem d_ZString_getBytes_9 : decode c_ZString_getBytes 9 = .ok (.getfield 9, 3) := by decide +kernel
theorem d_ZString_getBytes_12 : decode c_ZString_getBytes 12 = .ok (.iconst 0, 1) := by decide +kernel
theorem d_ZString_getBytes_13 : decode c_ZString_getBytes 13 = .ok (.aload_n 1, 1) := by decide +kernel
theorem d_ZString_getBytes_14 : decode c_ZString_getBytes 14 = .ok (.iload_n 2, 1) := by decide +kernel
theorem d_ZString_getBytes_15 : decode c_ZString_getBytes 15 = .ok (.iload_n 3, 1) := by decide +kernel
theorem d_ZString_getBytes_16 : decode c_ZString_getBytes 16 = .ok (.ishl, 1) := by decide +kernel
theorem d_ZString_getBytes_17 : decode c_ZString_getBytes 17 = .ok (.aload_n 0, 1) := by decide +kernel
theorem d_ZString_getBytes_18 : decode c_ZString_getBytes 18 = .ok (.getfield 9, 3) := by decide +kernel
theorem d_ZString_getBytes_21 : decode c_ZString_getBytes 21 = .ok (.arraylength, 1) := by decide +kernel
theorem d_ZString_getBytes_22 : decode c_ZString_getBytes 22 = .ok (.invokestatic 212, 3) := by decide +kernel
theorem d_ZString_getBytes_25 : decode c_ZString_getBytes 25 = .ok (.goto 18, 3) := by decide +kernel
theorem d_ZString_getBytes_28 : decode c_ZString_getBytes 28 = .ok (.aload_n 0, 1) := by decide +kernel
theorem d_ZString_getBytes_29 : decode c_ZString_getBytes 29 = .ok (.getfield 9, 3) := by decide +kernel
theorem d_ZString_getBytes_32 : decode c_ZString_getBytes 32 = .ok (.iconst 0, 1) := by decide +kernel
theorem d_ZString_getBytes_33 : decode c_ZString_getBytes 33 = .ok (.aload_n 1, 1) := by decide +kernel
theorem d_ZString_getBytes_34 : decode c_ZString_getBytes 34 = .ok (.iload_n 2, 1) := by decide +kernel
theorem d_ZString_getBytes_35 : decode c_ZString_getBytes 35 = .ok (.aload_n 0, 1) := by decide +kernel
theorem d_ZString_getBytes_36 : decode c_ZString_getBytes 36 = .ok (.getfield 9, 3) := by decide +kernel
theorem d_ZString_getBytes_39 : decode c_ZString_getBytes 39 = .ok (.arraylength, 1) := by decide +kernel
theorem d_ZString_getBytes_40 : decode c_ZString_getBytes 40 = .ok (.invokestatic 106, 3) := by decide +kernel
theorem d_ZString_getBytes_43 : decode c_ZString_getBytes 43 = .ok (.return_, 1) := by decide +kernel
def m_ZString_getBytes : XM := ("java/lang/String", c_ZString_getBytes, 4, none, "getBytes", [], 1, 26)
def b_ZString_getBytes : XB := [(0, X_aload 0 1),
  (1, X_invE 22 Y_ZString_coder 0 []),
  (4, X_iload 3 1),
  (5, X_icmp (fun x y => ¬ x = y) 28),
  (8, X_aload 0 1),
  (9, X_getE 22 0),
  (12, X_push (xv_i 0) 1),
  (13, X_aload 1 1),
  (14, X_iload 2 1),
  (15, X_iload 3 1),
  (16, X_bin (fun x y => x <<< (y &&& 31))),
  (17, X_aload 0 1),
  (18, X_getE 22 0),
  (21, X_alen),
  (22, X_acpyB),
  (25, X_goto 43),
  (28, X_aload 0 1),
  (29, X_getE 22 0),
  (32, X_push (xv_i 0) 1),
  (33, X_aload 1 1),
  (34, X_iload 2 1),
  (35, X_aload 0 1),
  (36, X_getE 22 0),
  (39, X_alen),
  (40, X_bad),
  (43, X_vret)]
set_option maxRecDepth 100000 in
theorem k_ZString_getBytes : x_bok m_ZString_getBytes b_ZString_getBytes := by
  unfold b_ZString_getBytes
  refine x_bok.cons (xs_aload_n d_ZString_getBytes_0 rfl) ?_
  refine x_bok.cons (xs_invE d_ZString_getBytes_1 (ci := 22) (C := "java/lang/String") rfl sn_ZString_coder is_ZString_coder ⟨q5_74, q5_75, q5_76, q1_33⟩ (by decide) (by decide) rfl) ?_
  refine x_bok.cons (xs_iload_n d_ZString_getBytes_4 rfl) ?_
  refine x_bok.cons (xs_icmp_ne d_ZString_getBytes_5 (by decide)) ?_
  refine x_bok.cons (xs_aload_n d_ZString_getBytes_8 rfl) ?_
  refine x_bok.cons (xs_getE d_ZString_getBytes_9 rfl q7_24 (Or.inl rfl)) ?_
  refine x_bok.cons (xs_iconst d_ZString_getBytes_12 (by decide)) ?_
  refine x_bok.cons (xs_aload_n d_ZString_getBytes_13 rfl) ?_
  refine x_bok.cons (xs_iload_n d_ZString_getBytes_14 rfl) ?_
  refine x_bok.cons (xs_iload_n d_ZString_getBytes_15 rfl) ?_
  refine x_bok.cons (xs_ishl d_ZString_getBytes_16) ?_
  refine x_bok.cons (xs_aload_n d_ZString_getBytes_17 rfl) ?_
  refine x_bok.cons (xs_getE d_ZString_getBytes_18 rfl q7_24 (Or.inl rfl)) ?_
  refine x_bok.cons (xs_alen d_ZString_getBytes_21) ?_
  refine x_bok.cons (xs_acpyB d_ZString_getBytes_22 ⟨q5_111, q3_2, q3_1, q1_24⟩ (by decide)) ?_
  refine x_bok.cons (xs_goto d_ZString_getBytes_25 (by decide)) ?_
  refine x_bok.cons (xs_aload_n d_ZString_getBytes_28 rfl) ?_
  refine x_bok.cons (xs_getE d_ZString_getBytes_29 rfl q7_24 (Or.inl rfl)) ?_
  refine x_bok.cons (xs_iconst d_ZString_getBytes_32 (by decide)) ?_
  refine x_bok.cons (xs_aload_n d_ZString_getBytes_33 rfl) ?_
  refine x_bok.cons (xs_iload_n d_ZString_getBytes_34 rfl) ?_
  refine x_bok.cons (xs_aload_n d_ZString_getBytes_35 rfl) ?_
  refine x_bok.cons (xs_getE d_ZString_getBytes_36 rfl q7_24 (Or.inl rfl)) ?_
  refine x_bok.cons (xs_alen d_ZString_getBytes_39) ?_
  refine x_bok.cons (xs_bad) ?_
  refine x_bok.cons (xs_vret d_ZString_getBytes_43 rfl) ?_
  exact x_bok.nil
set_option maxRecDepth 100000 in
theorem mn_ZString_getBytes : x_bmn b_ZString_getBytes := by
  unfold b_ZString_getBytes
  refine x_bmn.cons (xm_aload) ?_
  refine x_bmn.cons (xm_invE ym_ZString_coder) ?_
  refine x_bmn.cons (xm_iload) ?_
  refine x_bmn.cons (xm_icmp) ?_
  refine x_bmn.cons (xm_aload) ?_
  refine x_bmn.cons (xm_getE) ?_
  refine x_bmn.cons (xm_push) ?_
  refine x_bmn.cons (xm_aload) ?_
  refine x_bmn.cons (xm_iload) ?_
  refine x_bmn.cons (xm_iload) ?_
  refine x_bmn.cons (xm_bin) ?_
  refine x_bmn.cons (xm_aload) ?_
  refine x_bmn.cons (xm_getE) ?_
  refine x_bmn.cons (xm_alen) ?_
  refine x_bmn.cons (xm_acpyB) ?_
  refine x_bmn.cons (xm_goto) ?_
  refine x_bmn.cons (xm_aload) ?_
  refine x_bmn.cons (xm_getE) ?_
  refine x_bmn.cons (xm_push) ?_
  refine x_bmn.cons (xm_aload) ?_
  refine x_bmn.cons (xm_iload) ?_
  refine x_bmn.cons (xm_aload) ?_
  refine x_bmn.cons (xm_getE) ?_
  refine x_bmn.cons (xm_alen) ?_
  refine x_bmn.cons (xm_bad) ?_
  refine x_bmn.cons (xm_vret) ?_
  exact x_bmn.nil
theorem is_ZString_getBytes : x_Is y_ZString_getBytes m_ZString_getBytes := x_is_code q5_110
def Y_ZString_getBytes : XMeth := x_do 4 b_ZString_getBytes
theorem sn_ZString_getBytes : x_Snd y_ZString_getBytes m_ZString_getBytes Y_ZString_getBytes := x_snd_of (by decide) rfl rfl is_ZString_getBytes k_ZString_getBytes
theorem ym_ZString_getBytes : x_Ymn Y_ZString_getBytes := x_ymn_of mn_ZString_getBytes
/- java/lang/AbstractStringBuilder.putStringAt(ILjava/lang/String;)V -/
abbrev c_ZAbstractStringBuilder_putStringAt : ByteArray := prog_14_method_73_code
def y_ZAbstractStringBuilder_putStringAt : MethodName := ⟨"java/lang/AbstractStringBuilder", "putStringAt", "(ILjava/lang/String;)V"⟩
theorem d_ZAbstractStringBuilder_putStringAt_0 : decode c_ZAbstractStringBuilder_putStringAt 0 = .ok (.aload_n 0, 1) := by decide +kernel
theorem d_ZAbstractStringBuilder_putStringAt_1 : decode c_ZAbstractStringBuilder_putStringAt 1 = .ok (.aload_n 2, 1) := by decide +kernel
theorem d_ZAbstractStringBuilder_putStringAt_2 : decode c_ZAbstractStringBuilder_putStringAt 2 = .ok (.invokevirtual 397, 3) := by decide +kernel
theorem d_ZAbstractStringBuilder_putStringAt_5 : decode c_ZAbstractStringBuilder_putStringAt 5 = .ok (.aload_n 2, 1) := by decide +kernel
theorem d_ZAbstractStringBuilder_putStringAt_6 : decode c_ZAbstractStringBuilder_putStringAt 6 = .ok (.aload_n 0, 1) := by decide +kernel
theorem d_ZAbstractStringBuilder_putStringAt_7 : decode c_ZAbstractStringBuilder_putStringAt 7 = .ok (.getfield 15, 3) := by decide +kernel
theorem d_ZAbstractStringBuilder_putStringAt_10 : decode c_ZAbstractStringBuilder_putStringAt 10 = .ok (.iload_n 1, 1) := by decide +kernel
theorem d_ZAbstractStringBuilder_putStringAt_11 : decode c_ZAbstractStringBuilder_putStringAt 11 = .ok (.aload_n 0, 1) := by decide +kernel
theorem d_ZAbstractStringBuilder_putStringAt_12 : decode c_ZAbstractStringBuilder_putStringAt 12 = .ok (.getfield 22, 3) := by decide +kernel
theorem d_ZAbstractStringBuilder_putStringAt_15 : decode c_ZAbstractStringBuilder_putStringAt 15 = .ok (.invokevirtual 399, 3) := by decide +kernel
theorem d_ZAbstractStringBuilder_putStringAt_18 : decode c_ZAbstractStringBuilder_putStringAt 18 = .ok (.return_, 1) := by decide +kernel
def m_ZAbstractStringBuilder_putStringAt : XM := ("java/lang/AbstractStringBuilder", c_ZAbstractStringBuilder_putStringAt, 3, none, "putStringAt", [], 2, 49)
def b_ZAbstractStringBuilder_putStringAt : XB := [(0, X_aload 0 1),
  (1, X_aload 2 1),
  (2, X_invV 9 Y_ZAbstractStringBuilder_inflateIfNeededFor 1 []),
  (5, X_aload 2 1),
  (6, X_aload 0 1),
  (7, X_get 9 0),
  (10, X_iload 1 1),
  (11, X_aload 0 1),
  (12, X_get 9 1),
  (15, X_invE 22 Y_ZString_getBytes 3 []),
  (18, X_vret)]
set_option maxRecDepth 100000 in
theorem k_ZAbstractStringBuilder_putStringAt : x_bok m_ZAbstractStringBuilder_putStringAt b_ZAbstractStringBuilder_putStringAt := by
  unfold b_ZAbstractStringBuilder_putStringAt
  refine x_bok.cons (xs_aload_n d_ZAbstractStringBuilder_putStringAt_0 rfl) ?_
  refine x_bok.cons (xs_aload_n d_ZAbstractStringBuilder_putStringAt_1 rfl) ?_
  refine x_bok.cons (xs_invP d_ZAbstractStringBuilder_putStringAt_2 xc9 sn_ZAbstractStringBuilder_inflateIfNeededFor is_ZAbstractStringBuilder_inflateIfNeededFor ⟨q5_83, q5_85, ⟨q5_84, q6_238⟩, q1_31⟩ (by decide) (by decide) rfl) ?_
  refine x_bok.cons (xs_aload_n d_ZAbstractStringBuilder_putStringAt_5 rfl) ?_
  refine x_bok.cons (xs_aload_n d_ZAbstractStringBuilder_putStringAt_6 rfl) ?_
  refine x_bok.cons (xs_get d_ZAbstractStringBuilder_putStringAt_7 xc9 xw9 (by decide) q4_235 (Or.inl rfl)) ?_
  refine x_bok.cons (xs_iload_n d_ZAbstractStringBuilder_putStringAt_10 rfl) ?_
  refine x_bok.cons (xs_aload_n d_ZAbstractStringBuilder_putStringAt_11 rfl) ?_
  refine x_bok.cons (xs_get d_ZAbstractStringBuilder_putStringAt_12 xc9 xw9 (by decide) q4_236 (Or.inl rfl)) ?_
  refine x_bok.cons (xs_invE d_ZAbstractStringBuilder_putStringAt_15 (ci := 22) (C := "java/lang/String") rfl sn_ZString_getBytes is_ZString_getBytes ⟨q5_107, q5_108, q5_109, q1_33⟩ (by decide) (by decide) rfl) ?_
  refine x_bok.cons (xs_vret d_ZAbstractStringBuilder_putStringAt_18 rfl) ?_
  exact x_bok.nil
set_option maxRecDepth 100000 in
theorem mn_ZAbstractStringBuilder_putStringAt : x_bmn b_ZAbstractStringBuilder_putStringAt := by
  unfold b_ZAbstractStringBuilder_putStringAt
  refine x_bmn.cons (xm_aload) ?_
  refine x_bmn.cons (xm_aload) ?_
  refine x_bmn.cons (xm_invV ym_ZAbstractStringBuilder_inflateIfNeededFor) ?_
  refine x_bmn.cons (xm_aload) ?_
  refine x_bmn.cons (xm_aload) ?_
  refine x_bmn.cons (xm_get) ?_
  refine x_bmn.cons (xm_iload) ?_
  refine x_bmn.cons (xm_aload) ?_
  refine x_bmn.cons (xm_get) ?_
  refine x_bmn.cons (xm_invE ym_ZString_getBytes) ?_
  refine x_bmn.cons (xm_vret) ?_
  exact x_bmn.nil
theorem is_ZAbstractStringBuilder_putStringAt : x_Is y_ZAbstractStringBuilder_putStringAt m_ZAbstractStringBuilder_putStringAt := x_is_code q5_82
def Y_ZAbstractStringBuilder_putStringAt : XMeth := x_do 3 b_ZAbstractStringBuilder_putStringAt
theorem sn_ZAbstractStringBuilder_putStringAt : x_Snd y_ZAbstractStringBuilder_putStringAt m_ZAbstractStringBuilder_putStringAt Y_ZAbstractStringBuilder_putStringAt := x_snd_of (by decide) rfl rfl is_ZAbstractStringBuilder_putStringAt k_ZAbstractStringBuilder_putStringAt
theorem ym_ZAbstractStringBuilder_putStringAt : x_Ymn Y_ZAbstractStringBuilder_putStringAt := x_ymn_of mn_ZAbstractStringBuilder_putStringAt
/- java/lang/AbstractStringBuilder.append(Ljava/lang/String;)Ljava/lang/AbstractStringBuilder; -/
abbrev c_ZAbstractStringBuilder_append : ByteArray := prog_14_method_22_code
def y_ZAbstractStringBuilder_append : MethodName := ⟨"java/lang/AbstractStringBuilder", "append", "(Ljava/lang/String;)Ljava/lang/AbstractStringBuilder;"⟩
theorem d_ZAbstractStringBuilder_append_0 : decode c_ZAbstractStringBuilder_append 0 = .ok (.aload_n 1, 1) := by decide +kernel
theorem d_ZAbstractStringBuilder_append_1 : decode c_ZAbstractStringBuilder_append 1 = .ok (.ifnonnull 8, 3) := by decide +kernel
theorem d_ZAbstractStringBuilder_append_4 : decode c_ZAbstractStringBuilder_append 4 = .ok (.aload_n 0, 1) := by decide +kernel
theorem d_ZAbstractStringBuilder_append_5 : decode c_ZAbstractStringBuilder_append 5 = .ok (.invokevirtual 204, 3) := by decide +kernel
theorem d_ZAbstractStringBuilder_append_8 : decode c_ZAbstractStringBuilder_append 8 = .ok (.areturn, 1) := by decide +kernel
theorem d_ZAbstractStringBuilder_append_9 : decode c_ZAbstractStringBuilder_append 9 = .ok (.aload_n 1, 1) := by decide +kernel
theorem d_ZAbstractStringBuilder_append_10 : decode c_ZAbstractStringBuilder_append 10 = .ok (.invokevirtual 32, 3) := by decide +kernel
theorem d_ZAbstractStringBuilder_append_13 : decode c_ZAbstractStringBuilder_append 13 = .ok (.istore_n 2, 1) := by decide +kernel
theorem d_ZAbstractStringBuilder_append_14 : decode c_ZAbstractStringBuilder_append 14 = .ok (.aload_n 0, 1) := by decide +kernel
theorem d_ZAbstractStringBuilder_append_15 : decode c_ZAbstractStringBuilder_append 15 = .ok (.aload_n 0, 1) := by decide +kernel
theorem d_ZAbstractStringBuilder_append_16 : decode c_ZAbstractStringBuilder_append 16 = .ok (.getfield 79, 3) := by decide +kernel
theorem d_ZAbstractStringBuilder_append_19 : decode c_ZAbstractStringBuilder_append 19 = .ok (.iload_n 2, 1) := by decide +kernel
theorem d_ZAbstractStringBuilder_append_20 : decode c_ZAbstractStringBuilder_append 20 = .ok (.iadd, 1) := by decide +kernel
theorem d_ZAbstractStringBuilder_append_21 : decode c_ZAbstractStringBuilder_append 21 = .ok (.invokevirtual 100, 3) := by decide +kernel
theorem d_ZAbstractStringBuilder_append_24 : decode c_ZAbstractStringBuilder_append 24 = .ok (.aload_n 0, 1) := by decide +kernel
theorem d_ZAbstractStringBuilder_append_25 : decode c_ZAbstractStringBuilder_append 25 = .ok (.aload_n 0, 1) := by decide +kernel
theorem d_ZAbstractStringBuilder_append_26 : decode c_ZAbstractStringBuilder_append 26 = .ok (.getfield 79, 3) := by decide +kernel
theorem d_ZAbstractStringBuilder_append_29 : decode c_ZAbstractStringBuilder_append 29 = .ok (.aload_n 1, 1) := by decide +kernel
theorem d_ZAbstractStringBuilder_append_30 : decode c_ZAbstractStringBuilder_append 30 = .ok (.invokevirtual 208, 3) := by decide +kernel
theorem d_ZAbstractStringBuilder_append_33 : decode c_ZAbstractStringBuilder_append 33 = .ok (.aload_n 0, 1) := by decide +kernel
theorem d_ZAbstractStringBuilder_append_34 : decode c_ZAbstractStringBuilder_append 34 = .ok (.dup, 1) := by decide +kernel
theorem d_ZAbstractStringBuilder_append_35 : decode c_ZAbstractStringBuilder_append 35 = .ok (.getfield 79, 3) := by decide +kernel
theorem d_ZAbstractStringBuilder_append_38 : decode c_ZAbstractStringBuilder_append 38 = .ok (.iload_n 2, 1) := by decide +kernel
theorem d_ZAbstractStringBuilder_append_39 : decode c_ZAbstractStringBuilder_append 39 = .ok (.iadd, 1) := by decide +kernel
theorem d_ZAbstractStringBuilder_append_40 : decode c_ZAbstractStringBuilder_append 40 = .ok (.putfield 79, 3) := by decide +kernel
theorem d_ZAbstractStringBuilder_append_43 : decode c_ZAbstractStringBuilder_append 43 = .ok (.aload_n 0, 1) := by decide +kernel
theorem d_ZAbstractStringBuilder_append_44 : decode c_ZAbstractStringBuilder_append 44 = .ok (.areturn, 1) := by decide +kernel
def m_ZAbstractStringBuilder_append : XM := ("java/lang/AbstractStringBuilder", c_ZAbstractStringBuilder_append, 3, (some (.object "java/lang/AbstractStringBuilder")), "append", [], 4, 91)
def b_ZAbstractStringBuilder_append : XB := [(0, X_aload 1 1),
  (1, X_ifnonnull 9),
  (4, X_aload 0 1),
  (5, X_bad),
  (8, X_aret),
  (9, X_aload 1 1),
  (10, X_invE 22 Y_ZString_length 0 []),
  (13, X_istore 2 1),
  (14, X_aload 0 1),
  (15, X_aload 0 1),
  (16, X_get 9 3),
  (19, X_iload 2 1),
  (20, X_bin (fun x y => x + y)),
  (21, X_invV 9 Y_ZAbstractStringBuilder_ensureCapacityInternal 1 []),
  (24, X_aload 0 1),
  (25, X_aload 0 1),
  (26, X_get 9 3),
  (29, X_aload 1 1),
  (30, X_invV 9 Y_ZAbstractStringBuilder_putStringAt 2 []),
  (33, X_aload 0 1),
  (34, X_dup),
  (35, X_get 9 3),
  (38, X_iload 2 1),
  (39, X_bin (fun x y => x + y)),
  (40, X_put x_tI 9 3),
  (43, X_aload 0 1),
  (44, X_aret)]
set_option maxRecDepth 100000 in
theorem k_ZAbstractStringBuilder_append : x_bok m_ZAbstractStringBuilder_append b_ZAbstractStringBuilder_append := by
  unfold b_ZAbstractStringBuilder_append
  refine x_bok.cons (xs_aload_n d_ZAbstractStringBuilder_append_0 rfl) ?_
  refine x_bok.cons (xs_ifnonnull d_ZAbstractStringBuilder_append_1 (by decide)) ?_
  refine x_bok.cons (xs_aload_n d_ZAbstractStringBuilder_append_4 rfl) ?_
  refine x_bok.cons (xs_bad) ?_
  refine x_bok.cons (xs_aret d_ZAbstractStringBuilder_append_8 rfl (by first | exact Or.inl ⟨_, rfl⟩ | exact Or.inr ⟨_, rfl⟩)) ?_
  refine x_bok.cons (xs_aload_n d_ZAbstractStringBuilder_append_9 rfl) ?_
  refine x_bok.cons (xs_invE d_ZAbstractStringBuilder_append_10 (ci := 22) (C := "java/lang/String") rfl sn_ZString_length is_ZString_length ⟨q5_70, q5_71, q5_72, q1_33⟩ (by decide) (by decide) rfl) ?_
  refine x_bok.cons (xs_istore_n d_ZAbstractStringBuilder_append_13 rfl (by decide)) ?_
  refine x_bok.cons (xs_aload_n d_ZAbstractStringBuilder_append_14 rfl) ?_
  refine x_bok.cons (xs_aload_n d_ZAbstractStringBuilder_append_15 rfl) ?_
  refine x_bok.cons (xs_get d_ZAbstractStringBuilder_append_16 xc9 xw9 (by decide) q4_238 (Or.inl rfl)) ?_
  refine x_bok.cons (xs_iload_n d_ZAbstractStringBuilder_append_19 rfl) ?_
  refine x_bok.cons (xs_iadd d_ZAbstractStringBuilder_append_20) ?_
  refine x_bok.cons (xs_invP d_ZAbstractStringBuilder_append_21 xc9 sn_ZAbstractStringBuilder_ensureCapacityInternal is_ZAbstractStringBuilder_ensureCapacityInternal ⟨q5_19, q5_21, ⟨q5_20, q6_235⟩, q1_31⟩ (by decide) (by decide) rfl) ?_
  refine x_bok.cons (xs_aload_n d_ZAbstractStringBuilder_append_24 rfl) ?_
  refine x_bok.cons (xs_aload_n d_ZAbstractStringBuilder_append_25 rfl) ?_
  refine x_bok.cons (xs_get d_ZAbstractStringBuilder_append_26 xc9 xw9 (by decide) q4_238 (Or.inl rfl)) ?_
  refine x_bok.cons (xs_aload_n d_ZAbstractStringBuilder_append_29 rfl) ?_
  refine x_bok.cons (xs_invP d_ZAbstractStringBuilder_append_30 xc9 sn_ZAbstractStringBuilder_putStringAt is_ZAbstractStringBuilder_putStringAt ⟨q5_79, q5_81, ⟨q5_80, q6_237⟩, q1_31⟩ (by decide) (by decide) rfl) ?_
  refine x_bok.cons (xs_aload_n d_ZAbstractStringBuilder_append_33 rfl) ?_
  refine x_bok.cons (xs_dup d_ZAbstractStringBuilder_append_34) ?_
  refine x_bok.cons (xs_get d_ZAbstractStringBuilder_append_35 xc9 xw9 (by decide) q4_238 (Or.inl rfl)) ?_
  refine x_bok.cons (xs_iload_n d_ZAbstractStringBuilder_append_38 rfl) ?_
  refine x_bok.cons (xs_iadd d_ZAbstractStringBuilder_append_39) ?_
  refine x_bok.cons (xs_put d_ZAbstractStringBuilder_append_40 xc9 xw9 xt9 xn9 (by decide) q4_238 (Or.inl rfl) rfl rfl x_fitI) ?_
  refine x_bok.cons (xs_aload_n d_ZAbstractStringBuilder_append_43 rfl) ?_
  refine x_bok.cons (xs_aret d_ZAbstractStringBuilder_append_44 rfl (by first | exact Or.inl ⟨_, rfl⟩ | exact Or.inr ⟨_, rfl⟩)) ?_
  exact x_bok.nil
set_option maxRecDepth 100000 in
theorem mn_ZAbstractStringBuilder_append : x_bmn b_ZAbstractStringBuilder_append := by
  unfold b_ZAbstractStringBuilder_append
  refine x_bmn.cons (xm_aload) ?_
  refine x_bmn.cons (xm_ifnonnull) ?_
  refine x_bmn.cons (xm_aload) ?_
  refine x_bmn.cons (xm_bad) ?_
  refine x_bmn.cons (xm_aret) ?_
  refine x_bmn.cons (xm_aload) ?_
  refine x_bmn.cons (xm_invE ym_ZString_length) ?_
  refine x_bmn.cons (xm_istore) ?_
  refine x_bmn.cons (xm_aload) ?_
  refine x_bmn.cons (xm_aload) ?_
  refine x_bmn.cons (xm_get) ?_
  refine x_bmn.cons (xm_iload) ?_
  refine x_bmn.cons (xm_bin) ?_
  refine x_bmn.cons (xm_invV ym_ZAbstractStringBuilder_ensureCapacityInternal) ?_
  refine x_bmn.cons (xm_aload) ?_
  refine x_bmn.cons (xm_aload) ?_
  refine x_bmn.cons (xm_get) ?_
  refine x_bmn.cons (xm_aload) ?_
  refine x_bmn.cons (xm_invV ym_ZAbstractStringBuilder_putStringAt) ?_
  refine x_bmn.cons (xm_aload) ?_
  refine x_bmn.cons (xm_dup) ?_
  refine x_bmn.cons (xm_get) ?_
  refine x_bmn.cons (xm_iload) ?_
  refine x_bmn.cons (xm_bin) ?_
  refine x_bmn.cons (xm_put) ?_
  refine x_bmn.cons (xm_aload) ?_
  refine x_bmn.cons (xm_aret) ?_
  exact x_bmn.nil
theorem is_ZAbstractStringBuilder_append : x_Is y_ZAbstractStringBuilder_append m_ZAbstractStringBuilder_append := x_is_code q5_14
def Y_ZAbstractStringBuilder_append : XMeth := x_do 3 b_ZAbstractStringBuilder_append
theorem sn_ZAbstractStringBuilder_append : x_Snd y_ZAbstractStringBuilder_append m_ZAbstractStringBuilder_append Y_ZAbstractStringBuilder_append := x_snd_of (by decide) rfl rfl is_ZAbstractStringBuilder_append k_ZAbstractStringBuilder_append
theorem ym_ZAbstractStringBuilder_append : x_Ymn Y_ZAbstractStringBuilder_append := x_ymn_of mn_ZAbstractStringBuilder_append
