/- CashLink$Entry.<init>(IIIIII)V -/
abbrev c_E_init : ByteArray := prog_4_method_2_code
def y_E_init : MethodName := ⟨"CashLink$Entry", "<init>", "(IIIIII)V"⟩
theorem d_E_init_0 : decode c_E_init 0 = .ok (.aload_n 0, 1) := by decide +kernel
theorem d_E_init_1 : decode c_E_init 1 = .ok (.invokespecial 1, 3) := by decide +kernel
theorem d_E_init_4 : decode c_E_init 4 = .ok (.aload_n 0, 1) := by decide +kernel
theorem d_E_init_5 : decode c_E_init 5 = .ok (.iload_n 1, 1) := by decide +kernel
theorem d_E_init_6 : decode c_E_init 6 = .ok (.putfield 7, 3) := by decide +kernel
theorem d_E_init_9 : decode c_E_init 9 = .ok (.aload_n 0, 1) := by decide +kernel
theorem d_E_init_10 : decode c_E_init 10 = .ok (.iload_n 2, 1) := by decide +kernel
theorem d_E_init_11 : decode c_E_init 11 = .ok (.putfield 13, 3) := by decide +kernel
theorem d_E_init_14 : decode c_E_init 14 = .ok (.aload_n 0, 1) := by decide +kernel
theorem d_E_init_15 : decode c_E_init 15 = .ok (.iload_n 3, 1) := by decide +kernel
theorem d_E_init_16 : decode c_E_init 16 = .ok (.putfield 16, 3) := by decide +kernel
theorem d_E_init_19 : decode c_E_init 19 = .ok (.aload_n 0, 1) := by decide +kernel
theorem d_E_init_20 : decode c_E_init 20 = .ok (.iload 4, 2) := by decide +kernel
theorem d_E_init_22 : decode c_E_init 22 = .ok (.putfield 19, 3) := by decide +kernel
theorem d_E_init_25 : decode c_E_init 25 = .ok (.aload_n 0, 1) := by decide +kernel
theorem d_E_init_26 : decode c_E_init 26 = .ok (.iload 5, 2) := by decide +kernel
theorem d_E_init_28 : decode c_E_init 28 = .ok (.putfield 22, 3) := by decide +kernel
theorem d_E_init_31 : decode c_E_init 31 = .ok (.aload_n 0, 1) := by decide +kernel
theorem d_E_init_32 : decode c_E_init 32 = .ok (.iload 6, 2) := by decide +kernel
theorem d_E_init_34 : decode c_E_init 34 = .ok (.putfield 25, 3) := by decide +kernel
theorem d_E_init_37 : decode c_E_init 37 = .ok (.return_, 1) := by decide +kernel
def m_E_init : XM := ("CashLink$Entry", c_E_init, 7, none, "<init>", [], 2, 40)
def b_E_init : XB := [(0, X_aload 0 1),
  (1, X_invI Y_ZRecord_init 0 []),
  (4, X_aload 0 1),
  (5, X_iload 1 1),
  (6, X_put x_tI 6 0),
  (9, X_aload 0 1),
  (10, X_iload 2 1),
  (11, X_put x_tI 6 1),
  (14, X_aload 0 1),
  (15, X_iload 3 1),
  (16, X_put x_tI 6 2),
  (19, X_aload 0 1),
  (20, X_iload 4 2),
  (22, X_put x_tI 6 3),
  (25, X_aload 0 1),
  (26, X_iload 5 2),
  (28, X_put x_tI 6 4),
  (31, X_aload 0 1),
  (32, X_iload 6 2),
  (34, X_put x_tI 6 5),
  (37, X_vret)]
set_option maxRecDepth 100000 in
theorem k_E_init : x_bok m_E_init b_E_init := by
  unfold b_E_init
  refine x_bok.cons (xs_aload_n d_E_init_0 rfl) ?_
  refine x_bok.cons (xs_invI d_E_init_1 sn_ZRecord_init is_ZRecord_init ⟨q2_155, q2_156, q2_157, q1_20⟩ (by decide) rfl (by decide) rfl) ?_
  refine x_bok.cons (xs_aload_n d_E_init_4 rfl) ?_
  refine x_bok.cons (xs_iload_n d_E_init_5 rfl) ?_
  refine x_bok.cons (xs_putF d_E_init_6 xc6 xw6 xt6 xn6 (by decide) q2_159 (Or.inl rfl) rfl rfl rfl rfl x_fitI) ?_
  refine x_bok.cons (xs_aload_n d_E_init_9 rfl) ?_
  refine x_bok.cons (xs_iload_n d_E_init_10 rfl) ?_
  refine x_bok.cons (xs_putF d_E_init_11 xc6 xw6 xt6 xn6 (by decide) q2_160 (Or.inl rfl) rfl rfl rfl rfl x_fitI) ?_
  refine x_bok.cons (xs_aload_n d_E_init_14 rfl) ?_
  refine x_bok.cons (xs_iload_n d_E_init_15 rfl) ?_
  refine x_bok.cons (xs_putF d_E_init_16 xc6 xw6 xt6 xn6 (by decide) q2_161 (Or.inl rfl) rfl rfl rfl rfl x_fitI) ?_
  refine x_bok.cons (xs_aload_n d_E_init_19 rfl) ?_
  refine x_bok.cons (xs_iload d_E_init_20) ?_
  refine x_bok.cons (xs_putF d_E_init_22 xc6 xw6 xt6 xn6 (by decide) q2_162 (Or.inl rfl) rfl rfl rfl rfl x_fitI) ?_
  refine x_bok.cons (xs_aload_n d_E_init_25 rfl) ?_
  refine x_bok.cons (xs_iload d_E_init_26) ?_
  refine x_bok.cons (xs_putF d_E_init_28 xc6 xw6 xt6 xn6 (by decide) q2_163 (Or.inl rfl) rfl rfl rfl rfl x_fitI) ?_
  refine x_bok.cons (xs_aload_n d_E_init_31 rfl) ?_
  refine x_bok.cons (xs_iload d_E_init_32) ?_
  refine x_bok.cons (xs_putF d_E_init_34 xc6 xw6 xt6 xn6 (by decide) q2_164 (Or.inl rfl) rfl rfl rfl rfl x_fitI) ?_
  refine x_bok.cons (xs_vret d_E_init_37 rfl) ?_
  exact x_bok.nil
set_option maxRecDepth 100000 in
theorem mn_E_init : x_bmn b_E_init := by
  unfold b_E_init
  refine x_bmn.cons (xm_aload) ?_
  refine x_bmn.cons (xm_invI ym_ZRecord_init) ?_
  refine x_bmn.cons (xm_aload) ?_
  refine x_bmn.cons (xm_iload) ?_
  refine x_bmn.cons (xm_put) ?_
  refine x_bmn.cons (xm_aload) ?_
  refine x_bmn.cons (xm_iload) ?_
  refine x_bmn.cons (xm_put) ?_
  refine x_bmn.cons (xm_aload) ?_
  refine x_bmn.cons (xm_iload) ?_
  refine x_bmn.cons (xm_put) ?_
  refine x_bmn.cons (xm_aload) ?_
  refine x_bmn.cons (xm_iload) ?_
  refine x_bmn.cons (xm_put) ?_
  refine x_bmn.cons (xm_aload) ?_
  refine x_bmn.cons (xm_iload) ?_
  refine x_bmn.cons (xm_put) ?_
  refine x_bmn.cons (xm_aload) ?_
  refine x_bmn.cons (xm_iload) ?_
  refine x_bmn.cons (xm_put) ?_
  refine x_bmn.cons (xm_vret) ?_
  exact x_bmn.nil
theorem is_E_init : x_Is y_E_init m_E_init := x_is_code q2_154
def Y_E_init : XMeth := x_do 7 b_E_init
theorem sn_E_init : x_Snd y_E_init m_E_init Y_E_init := x_snd_of (by decide) rfl rfl is_E_init k_E_init
theorem ym_E_init : x_Ymn Y_E_init := x_ymn_of mn_E_init
/- jdk/internal/util/ArraysSupport.newLength(III)I -/
abbrev c_ZArraysSupport_newLength : ByteArray := prog_42_method_27_code
def y_ZArraysSupport_newLength : MethodName := ⟨"jdk/internal/util/ArraysSupport", "newLength", "(III)I"⟩
theorem d_ZArraysSupport_newLength_0 : decode c_ZArraysSupport_newLength 0 = .ok (.iload_n 0, 1) := by decide +kernel
theorem d_ZArraysSupport_newLength_1 : decode c_ZArraysSupport_newLength 1 = .ok (.iload_n 1, 1) := by decide +kernel
theorem d_ZArraysSupport_newLength_2 : decode c_ZArraysSupport_newLength 2 = .ok (.iload_n 2, 1) := by decide +kernel
theorem d_ZArraysSupport_newLength_3 : decode c_ZArraysSupport_newLength 3 = .ok (.invokestatic 194, 3) := by decide +kernel
theorem d_ZArraysSupport_newLength_6 : decode c_ZArraysSupport_newLength 6 = .ok (.iadd, 1) := by decide +kernel
theorem d_ZArraysSupport_newLength_7 : decode c_ZArraysSupport_newLength 7 = .ok (.istore_n 3, 1) := by decide +kernel
theorem d_ZArraysSupport_newLength_8 : decode c_ZArraysSupport_newLength 8 = .ok (.iconst 0, 1) := by decide +kernel
theorem d_ZArraysSupport_newLength_9 : decode c_ZArraysSupport_newLength 9 = .ok (.iload_n 3, 1) := by decide +kernel
theorem d_ZArraysSupport_newLength_10 : decode c_ZArraysSupport_newLength 10 = .ok (.if_icmp .ge 11, 3) := by decide +kernel
theorem d_ZArraysSupport_newLength_13 : decode c_ZArraysSupport_newLength 13 = .ok (.iload_n 3, 1) := by decide +kernel
theorem d_ZArraysSupport_newLength_14 : decode c_ZArraysSupport_newLength 14 = .ok (.ldc 200, 2) := by decide +kernel
theorem d_ZArraysSupport_newLength_16 : decode c_ZArraysSupport_newLength 16 = .ok (.if_icmp .gt 5, 3) := by decide +kernel
theorem d_ZArraysSupport_newLength_19 : decode c_ZArraysSupport_newLength 19 = .ok (.iload_n 3, 1) := by decide +kernel
theorem d_ZArraysSupport_newLength_20 : decode c_ZArraysSupport_newLength 20 = .ok (.ireturn, 1) := by decide +kernel
theorem d_ZArraysSupport_newLength_21 : decode c_ZArraysSupport_newLength 21 = .ok (.iload_n 0, 1) := by decide +kernel
theorem d_ZArraysSupport_newLength_22 : decode c_ZArraysSupport_newLength 22 = .ok (.iload_n 1, 1) := by decide +kernel
theorem d_ZArraysSupport_newLength_23 : decode c_ZArraysSupport_newLength 23 = .ok (.invokestatic 201, 3) := by decide +kernel
theorem d_ZArraysSupport_newLength_26 : decode c_ZArraysSupport_newLength 26 = .ok (.ireturn, 1) := by decide +kernel
def m_ZArraysSupport_newLength : XM := ("jdk/internal/util/ArraysSupport", c_ZArraysSupport_newLength, 4, (some .int), "newLength", [], 1, 21)
def b_ZArraysSupport_newLength : XB := [(0, X_iload 0 1),
  (1, X_iload 1 1),
  (2, X_iload 2 1),
  (3, X_mm (fun x y => if x < y then y else x)),
  (6, X_bin (fun x y => x + y)),
  (7, X_istore 3 1),
  (8, X_push (xv_i 0) 1),
  (9, X_iload 3 1),
  (10, X_icmp (fun x y => y ≤ x) 21),
  (13, X_iload 3 1),
  (14, X_push (xv_i 2147483639) 2),
  (16, X_icmp (fun x y => y < x) 21),
  (19, X_iload 3 1),
  (20, X_iret),
  (21, X_iload 0 1),
  (22, X_iload 1 1),
  (23, X_bad),
  (26, X_iret)]
set_option maxRecDepth 100000 in
theorem k_ZArraysSupport_newLength : x_bok m_ZArraysSupport_newLength b_ZArraysSupport_newLength := by
  unfold b_ZArraysSupport_newLength
  refine x_bok.cons (xs_iload_n d_ZArraysSupport_newLength_0 rfl) ?_
  refine x_bok.cons (xs_iload_n d_ZArraysSupport_newLength_1 rfl) ?_
  refine x_bok.cons (xs_iload_n d_ZArraysSupport_newLength_2 rfl) ?_
  refine x_bok.cons (xs_mmax d_ZArraysSupport_newLength_3 ⟨q2_201, q2_202, q1_18, q2_203⟩ (by decide)) ?_
  refine x_bok.cons (xs_iadd d_ZArraysSupport_newLength_6) ?_
  refine x_bok.cons (xs_istore_n d_ZArraysSupport_newLength_7 rfl (by decide)) ?_
  refine x_bok.cons (xs_iconst d_ZArraysSupport_newLength_8 (by decide)) ?_
  refine x_bok.cons (xs_iload_n d_ZArraysSupport_newLength_9 rfl) ?_
  refine x_bok.cons (xs_icmp_ge d_ZArraysSupport_newLength_10 (by decide)) ?_
  refine x_bok.cons (xs_iload_n d_ZArraysSupport_newLength_13 rfl) ?_
  refine x_bok.cons (xs_ldc d_ZArraysSupport_newLength_14 q2_204) ?_
  refine x_bok.cons (xs_icmp_gt d_ZArraysSupport_newLength_16 (by decide)) ?_
  refine x_bok.cons (xs_iload_n d_ZArraysSupport_newLength_19 rfl) ?_
  refine x_bok.cons (xs_iret d_ZArraysSupport_newLength_20 rfl) ?_
  refine x_bok.cons (xs_iload_n d_ZArraysSupport_newLength_21 rfl) ?_
  refine x_bok.cons (xs_iload_n d_ZArraysSupport_newLength_22 rfl) ?_
  refine x_bok.cons (xs_bad) ?_
  refine x_bok.cons (xs_iret d_ZArraysSupport_newLength_26 rfl) ?_
  exact x_bok.nil
set_option maxRecDepth 100000 in
theorem mn_ZArraysSupport_newLength : x_bmn b_ZArraysSupport_newLength := by
  unfold b_ZArraysSupport_newLength
  refine x_bmn.cons (xm_iload) ?_
  refine x_bmn.cons (xm_iload) ?_
  refine x_bmn.cons (xm_iload) ?_
  refine x_bmn.cons (xm_mm) ?_
  refine x_bmn.cons (xm_bin) ?_
  refine x_bmn.cons (xm_istore) ?_
  refine x_bmn.cons (xm_push) ?_
  refine x_bmn.cons (xm_iload) ?_
  refine x_bmn.cons (xm_icmp) ?_
  refine x_bmn.cons (xm_iload) ?_
  refine x_bmn.cons (xm_push) ?_
  refine x_bmn.cons (xm_icmp) ?_
  refine x_bmn.cons (xm_iload) ?_
  refine x_bmn.cons (xm_iret) ?_
  refine x_bmn.cons (xm_iload) ?_
  refine x_bmn.cons (xm_iload) ?_
  refine x_bmn.cons (xm_bad) ?_
  refine x_bmn.cons (xm_iret) ?_
  exact x_bmn.nil
theorem is_ZArraysSupport_newLength : x_Is y_ZArraysSupport_newLength m_ZArraysSupport_newLength := x_is_code q2_200
def Y_ZArraysSupport_newLength : XMeth := x_do 4 b_ZArraysSupport_newLength
theorem sn_ZArraysSupport_newLength : x_Snd y_ZArraysSupport_newLength m_ZArraysSupport_newLength Y_ZArraysSupport_newLength := x_snd_of (by decide) rfl rfl is_ZArraysSupport_newLength k_ZArraysSupport_newLength
theorem ym_ZArraysSupport_newLength : x_Ymn Y_ZArraysSupport_newLength := x_ymn_of mn_ZArraysSupport_newLength
/- java/util/Arrays.copyOf([Ljava/lang/Object;ILjava/lang/Class;)[Ljava/lang/Object; -/
abbrev c_ZArrays_copyOf_2 : ByteArray := prog_36_method_120_code
def y_ZArrays_copyOf_2 : MethodName := ⟨"java/util/Arrays", "copyOf", "([Ljava/lang/Object;ILjava/lang/Class;)[Ljava/lang/Object;"⟩
theorem d_ZArrays_copyOf_2_0 : decode c_ZArrays_copyOf_2 0 = .ok (.aload_n 2, 1) := by decide +kernel
theorem d_ZArrays_copyOf_2_1 : decode c_ZArrays_copyOf_2 1 = .ok (.ldc 110, 2) := by decide +kernel
theorem d_ZArrays_copyOf_2_3 : decode c_ZArrays_copyOf_2 3 = .ok (.if_acmp .ne 10, 3) := by decide +kernel
theorem d_ZArrays_copyOf_2_6 : decode c_ZArrays_copyOf_2 6 = .ok (.iload_n 1, 1) := by decide +kernel
theorem d_ZArrays_copyOf_2_7 : decode c_ZArrays_copyOf_2 7 = .ok (.anewarray 2, 3) := by decide +kernel
theorem d_ZArrays_copyOf_2_10 : decode c_ZArrays_copyOf_2 10 = .ok (.goto 14, 3) := by decide +kernel
theorem d_ZArrays_copyOf_2_13 : decode c_ZArrays_copyOf_2 13 = .ok (.aload_n 2, 1) := by decide +kernel
theorem d_ZArrays_copyOf_2_14 : decode c_ZArrays_copyOf_2 14 = .ok (.invokevirtual 90, 3) := by decide +kernel
theorem d_ZArrays_copyOf_2_17 : decode c_ZArrays_copyOf_2 17 = .ok (.iload_n 1, 1) := by decide +kernel
theorem d_ZArrays_copyOf_2_18 : decode c_ZArrays_copyOf_2 18 = .ok (.invokestatic 95, 3) := by decide +kernel
theorem d_ZArrays_copyOf_2_21 : decode c_ZArrays_copyOf_2 21 = .ok (.checkcast 110, 3) := by decide +kernel
theorem d_ZArrays_copyOf_2_24 : decode c_ZArrays_copyOf_2 24 = .ok (.astore_n 3, 1) := by decide +kernel
theorem d_ZArrays_copyOf_2_25 : decode c_ZArrays_copyOf_2 25 = .ok (.aload_n 0, 1) := by decide +kernel
theorem d_ZArrays_copyOf_2_26 : decode c_ZArrays_copyOf_2 26 = .ok (.iconst 0, 1) := by decide +kernel
theorem d_ZArrays_copyOf_2_27 : decode c_ZArrays_copyOf_2 27 = .ok (.aload_n 3, 1) := by decide +kernel
theorem d_ZArrays_copyOf_2_28 : decode c_ZArrays_copyOf_2 28 = .ok (.iconst 0, 1) := by decide +kernel
theorem d_ZArrays_copyOf_2_29 : decode c_ZArrays_copyOf_2 29 = .ok (.aload_n 0, 1) := by decide +kernel
theorem d_ZArrays_copyOf_2_30 : decode c_ZArrays_copyOf_2 30 = .ok (.arraylength, 1) := by decide +kernel
theorem d_ZArrays_copyOf_2_31 : decode c_ZArrays_copyOf_2 31 = .ok (.iload_n 1, 1) := by decide +kernel
theorem d_ZArrays_copyOf_2_32 : decode c_ZArrays_copyOf_2 32 = .ok (.invokestatic 304, 3) := by decide +kernel
theorem d_ZArrays_copyOf_2_35 : decode c_ZArrays_copyOf_2 35 = .ok (.invokestatic 150, 3) := by decide +kernel
theorem d_ZArrays_copyOf_2_38 : decode c_ZArrays_copyOf_2 38 = .ok (.aload_n 3, 1) := by decide +kernel
theorem d_ZArrays_copyOf_2_39 : decode c_ZArrays_copyOf_2 39 = .ok (.areturn, 1) := by decide +kernel
def m_ZArrays_copyOf_2 : XM := ("java/util/Arrays", c_ZArrays_copyOf_2, 4, (some (.array (.object "java/lang/Object"))), "copyOf", [], 1, 26)
def b_ZArrays_copyOf_2 : XB := [(0, X_aload 2 1),
  (1, X_ldcC 2),
  (3, X_acmp (fun q => ¬ q) 13),
  (6, X_iload 1 1),
  (7, X_newa 3 4 (.inr (.inr (fun _ => none))) 3),
  (10, X_goto 24),
  (13, X_aload 2 1),
  (14, X_bad),
  (17, X_iload 1 1),
  (18, X_bad),
  (21, X_bad),
  (24, X_astore 3 1),
  (25, X_aload 0 1),
  (26, X_push (xv_i 0) 1),
  (27, X_aload 3 1),
  (28, X_push (xv_i 0) 1),
  (29, X_aload 0 1),
  (30, X_alen),
  (31, X_iload 1 1),
  (32, X_mm (fun x y => if y < x then y else x)),
  (35, X_acpy),
  (38, X_aload 3 1),
  (39, X_aret)]
set_option maxRecDepth 100000 in
theorem k_ZArrays_copyOf_2 : x_bok m_ZArrays_copyOf_2 b_ZArrays_copyOf_2 := by
  unfold b_ZArrays_copyOf_2
  refine x_bok.cons (xs_aload_n d_ZArrays_copyOf_2_0 rfl) ?_
  refine x_bok.cons (xs_ldcC d_ZArrays_copyOf_2_1 q2_236) ?_
  refine x_bok.cons (xs_acmp_ne d_ZArrays_copyOf_2_3 (by decide)) ?_
  refine x_bok.cons (xs_iload_n d_ZArrays_copyOf_2_6 rfl) ?_
  refine x_bok.cons (xs_anew d_ZArrays_copyOf_2_7 rfl q2_238 q2_237) ?_
  refine x_bok.cons (xs_goto d_ZArrays_copyOf_2_10 (by decide)) ?_
  refine x_bok.cons (xs_aload_n d_ZArrays_copyOf_2_13 rfl) ?_
  refine x_bok.cons (xs_bad) ?_
  refine x_bok.cons (xs_iload_n d_ZArrays_copyOf_2_17 rfl) ?_
  refine x_bok.cons (xs_bad) ?_
  refine x_bok.cons (xs_bad) ?_
  refine x_bok.cons (xs_astore_n d_ZArrays_copyOf_2_24 rfl (by decide)) ?_
  refine x_bok.cons (xs_aload_n d_ZArrays_copyOf_2_25 rfl) ?_
  refine x_bok.cons (xs_iconst d_ZArrays_copyOf_2_26 (by decide)) ?_
  refine x_bok.cons (xs_aload_n d_ZArrays_copyOf_2_27 rfl) ?_
  refine x_bok.cons (xs_iconst d_ZArrays_copyOf_2_28 (by decide)) ?_
  refine x_bok.cons (xs_aload_n d_ZArrays_copyOf_2_29 rfl) ?_
  refine x_bok.cons (xs_alen d_ZArrays_copyOf_2_30) ?_
  refine x_bok.cons (xs_iload_n d_ZArrays_copyOf_2_31 rfl) ?_
  refine x_bok.cons (xs_mmin d_ZArrays_copyOf_2_32 ⟨q2_239, q2_123, q1_18, q2_124⟩ (by decide)) ?_
  refine x_bok.cons (xs_acpy d_ZArrays_copyOf_2_35 ⟨q3_0, q3_2, q3_1, q1_24⟩ (by decide)) ?_
  refine x_bok.cons (xs_aload_n d_ZArrays_copyOf_2_38 rfl) ?_
  refine x_bok.cons (xs_aret d_ZArrays_copyOf_2_39 rfl (by first | exact Or.inl ⟨_, rfl⟩ | exact Or.inr ⟨_, rfl⟩)) ?_
  exact x_bok.nil
set_option maxRecDepth 100000 in
theorem mn_ZArrays_copyOf_2 : x_bmn b_ZArrays_copyOf_2 := by
  unfold b_ZArrays_copyOf_2
  refine x_bmn.cons (xm_aload) ?_
  refine x_bmn.cons (xm_ldcC) ?_
  refine x_bmn.cons (xm_acmp) ?_
  refine x_bmn.cons (xm_iload) ?_
  refine x_bmn.cons (xm_newa) ?_
  refine x_bmn.cons (xm_goto) ?_
  refine x_bmn.cons (xm_aload) ?_
  refine x_bmn.cons (xm_bad) ?_
  refine x_bmn.cons (xm_iload) ?_
  refine x_bmn.cons (xm_bad) ?_
  refine x_bmn.cons (xm_bad) ?_
  refine x_bmn.cons (xm_astore) ?_
  refine x_bmn.cons (xm_aload) ?_
  refine x_bmn.cons (xm_push) ?_
  refine x_bmn.cons (xm_aload) ?_
  refine x_bmn.cons (xm_push) ?_
  refine x_bmn.cons (xm_aload) ?_
  refine x_bmn.cons (xm_alen) ?_
  refine x_bmn.cons (xm_iload) ?_
  refine x_bmn.cons (xm_mm) ?_
  refine x_bmn.cons (xm_acpy) ?_
  refine x_bmn.cons (xm_aload) ?_
  refine x_bmn.cons (xm_aret) ?_
  exact x_bmn.nil
theorem is_ZArrays_copyOf_2 : x_Is y_ZArrays_copyOf_2 m_ZArrays_copyOf_2 := x_is_code q2_235
def Y_ZArrays_copyOf_2 : XMeth := x_do 4 b_ZArrays_copyOf_2
theorem sn_ZArrays_copyOf_2 : x_Snd y_ZArrays_copyOf_2 m_ZArrays_copyOf_2 Y_ZArrays_copyOf_2 := x_snd_of (by decide) rfl rfl is_ZArrays_copyOf_2 k_ZArrays_copyOf_2
theorem ym_ZArrays_copyOf_2 : x_Ymn Y_ZArrays_copyOf_2 := x_ymn_of mn_ZArrays_copyOf_2
/- java/util/Arrays.copyOf([Ljava/lang/Object;I)[Ljava/lang/Object; -/
abbrev c_ZArrays_copyOf : ByteArray := prog_36_method_119_code
def y_ZArrays_copyOf : MethodName := ⟨"java/util/Arrays", "copyOf", "([Ljava/lang/Object;I)[Ljava/lang/Object;"⟩
theorem d_ZArrays_copyOf_0 : decode c_ZArrays_copyOf 0 = .ok (.aload_n 0, 1) := by decide +kernel
theorem d_ZArrays_copyOf_1 : decode c_ZArrays_copyOf 1 = .ok (.iload_n 1, 1) := by decide +kernel
theorem d_ZArrays_copyOf_2 : decode c_ZArrays_copyOf 2 = .ok (.aload_n 0, 1) := by decide +kernel
theorem d_ZArrays_copyOf_3 : decode c_ZArrays_copyOf 3 = .ok (.invokevirtual 86, 3) := by decide +kernel
theorem d_ZArrays_copyOf_6 : decode c_ZArrays_copyOf 6 = .ok (.invokestatic 300, 3) := by decide +kernel
theorem d_ZArrays_copyOf_9 : decode c_ZArrays_copyOf 9 = .ok (.areturn, 1) := by decide +kernel
def m_ZArrays_copyOf : XM := ("java/util/Arrays", c_ZArrays_copyOf, 2, (some (.array (.object "java/lang/Object"))), "copyOf", [], 2, 49)
def b_ZArrays_copyOf : XB := [(0, X_aload 0 1),
  (1, X_iload 1 1),
  (2, X_aload 0 1),
  (3, X_getC),
  (6, X_invS Y_ZArrays_copyOf_2 3 []),
  (9, X_aret)]
set_option maxRecDepth 100000 in
theorem k_ZArrays_copyOf : x_bok m_ZArrays_copyOf b_ZArrays_copyOf := by
  unfold b_ZArrays_copyOf
  refine x_bok.cons (xs_aload_n d_ZArrays_copyOf_0 rfl) ?_
  refine x_bok.cons (xs_iload_n d_ZArrays_copyOf_1 rfl) ?_
  refine x_bok.cons (xs_aload_n d_ZArrays_copyOf_2 rfl) ?_
  refine x_bok.cons (xs_getC d_ZArrays_copyOf_3 ⟨q2_211, q7_8, q7_7, q2_212, q2_232⟩ (by decide)) ?_
  refine x_bok.cons (xs_invS d_ZArrays_copyOf_6 sn_ZArrays_copyOf_2 is_ZArrays_copyOf_2 ⟨q2_233, q2_234, q1_23⟩ (by decide) (by decide) rfl) ?_
  refine x_bok.cons (xs_aret d_ZArrays_copyOf_9 rfl (by first | exact Or.inl ⟨_, rfl⟩ | exact Or.inr ⟨_, rfl⟩)) ?_
  exact x_bok.nil
set_option maxRecDepth 100000 in
theorem mn_ZArrays_copyOf : x_bmn b_ZArrays_copyOf := by
  unfold b_ZArrays_copyOf
  refine x_bmn.cons (xm_aload) ?_
  refine x_bmn.cons (xm_iload) ?_
  refine x_bmn.cons (xm_aload) ?_
  refine x_bmn.cons (xm_getC) ?_
  refine x_bmn.cons (xm_invS ym_ZArrays_copyOf_2) ?_
  refine x_bmn.cons (xm_aret) ?_
  exact x_bmn.nil
theorem is_ZArrays_copyOf : x_Is y_ZArrays_copyOf m_ZArrays_copyOf := x_is_code q2_210
def Y_ZArrays_copyOf : XMeth := x_do 2 b_ZArrays_copyOf
theorem sn_ZArrays_copyOf : x_Snd y_ZArrays_copyOf m_ZArrays_copyOf Y_ZArrays_copyOf := x_snd_of (by decide) rfl rfl is_ZArrays_copyOf k_ZArrays_copyOf
theorem ym_ZArrays_copyOf : x_Ymn Y_ZArrays_copyOf := x_ymn_of mn_ZArrays_copyOf
/- java/util/ArrayList.grow(I)[Ljava/lang/Object; -/
abbrev c_A_grow_2 : ByteArray := prog_35_method_6_code
def y_A_grow_2 : MethodName := ⟨"java/util/ArrayList", "grow", "(I)[Ljava/lang/Object;"⟩
theorem d_A_grow_2_0 : decode c_A_grow_2 0 = .ok (.aload_n 0, 1) := by decide +kernel
theorem d_A_grow_2_1 : decode c_A_grow_2 1 = .ok (.getfield 9, 3) := by decide +kernel
theorem d_A_grow_2_4 : decode c_A_grow_2 4 = .ok (.arraylength, 1) := by decide +kernel
theorem d_A_grow_2_5 : decode c_A_grow_2 5 = .ok (.istore_n 2, 1) := by decide +kernel
theorem d_A_grow_2_6 : decode c_A_grow_2 6 = .ok (.iload_n 2, 1) := by decide +kernel
theorem d_A_grow_2_7 : decode c_A_grow_2 7 = .ok (.ifCond .gt 13, 3) := by decide +kernel
theorem d_A_grow_2_10 : decode c_A_grow_2 10 = .ok (.aload_n 0, 1) := by decide +kernel
theorem d_A_grow_2_11 : decode c_A_grow_2 11 = .ok (.getfield 9, 3) := by decide +kernel
theorem d_A_grow_2_14 : decode c_A_grow_2 14 = .ok (.getstatic 39, 3) := by decide +kernel
theorem d_A_grow_2_17 : decode c_A_grow_2 17 = .ok (.if_acmp .eq 28, 3) := by decide +kernel
theorem d_A_grow_2_20 : decode c_A_grow_2 20 = .ok (.iload_n 2, 1) := by decide +kernel
theorem d_A_grow_2_21 : decode c_A_grow_2 21 = .ok (.iload_n 1, 1) := by decide +kernel
theorem d_A_grow_2_22 : decode c_A_grow_2 22 = .ok (.iload_n 2, 1) := by decide +kernel
theorem d_A_grow_2_23 : decode c_A_grow_2 23 = .ok (.isub, 1) := by decide +kernel
theorem d_A_grow_2_24 : decode c_A_grow_2 24 = .ok (.iload_n 2, 1) := by decide +kernel
theorem d_A_grow_2_25 : decode c_A_grow_2 25 = .ok (.iconst 1, 1) := by decide +kernel
theorem d_A_grow_2_26 : decode c_A_grow_2 26 = .ok (.ishr, 1) := by decide +kernel
theorem d_A_grow_2_27 : decode c_A_grow_2 27 = .ok (.invokestatic 73, 3) := by decide +kernel
theorem d_A_grow_2_30 : decode c_A_grow_2 30 = .ok (.istore_n 3, 1) := by decide +kernel
theorem d_A_grow_2_31 : decode c_A_grow_2 31 = .ok (.aload_n 0, 1) := by decide +kernel
theorem d_A_grow_2_32 : decode c_A_grow_2 32 = .ok (.aload_n 0, 1) := by decide +kernel
theorem d_A_grow_2_33 : decode c_A_grow_2 33 = .ok (.getfield 9, 3) := by decide +kernel
theorem d_A_grow_2_36 : decode c_A_grow_2 36 = .ok (.iload_n 3, 1) := by decide +kernel
theorem d_A_grow_2_37 : decode c_A_grow_2 37 = .ok (.invokestatic 66, 3) := by decide +kernel
theorem d_A_grow_2_40 : decode c_A_grow_2 40 = .ok (.dup_x1, 1) := by decide +kernel
theorem d_A_grow_2_41 : decode c_A_grow_2 41 = .ok (.putfield 9, 3) := by decide +kernel
theorem d_A_grow_2_44 : decode c_A_grow_2 44 = .ok (.areturn, 1) := by decide +kernel
theorem d_A_grow_2_45 : decode c_A_grow_2 45 = .ok (.aload_n 0, 1) := by decide +kernel
theorem d_A_grow_2_46 : decode c_A_grow_2 46 = .ok (.bipush 10, 2) := by decide +kernel
theorem d_A_grow_2_48 : decode c_A_grow_2 48 = .ok (.iload_n 1, 1) := by decide +kernel
theorem d_A_grow_2_49 : decode c_A_grow_2 49 = .ok (.invokestatic 79, 3) := by decide +kernel
theorem d_A_grow_2_52 : decode c_A_grow_2 52 = .ok (.anewarray 7, 3) := by decide +kernel
theorem d_A_grow_2_55 : decode c_A_grow_2 55 = .ok (.dup_x1, 1) := by decide +kernel
theorem d_A_grow_2_56 : decode c_A_grow_2 56 = .ok (.putfield 9, 3) := by decide +kernel
theorem d_A_grow_2_59 : decode c_A_grow_2 59 = .ok (.areturn, 1) := by decide +kernel
def m_A_grow_2 : XM := ("java/util/ArrayList", c_A_grow_2, 4, (some (.array (.object "java/lang/Object"))), "grow", [], 3, 70)
def b_A_grow_2 : XB := [(0, X_aload 0 1),
  (1, X_get 8 0),
  (4, X_alen),
  (5, X_istore 2 1),
  (6, X_iload 2 1),
  (7, X_if (fun x => 0 < x) 20),
  (10, X_aload 0 1),
  (11, X_get 8 0),
  (14, X_push (xv_r 54 0) 3),
  (17, X_acmp (fun q => q) 45),
  (20, X_iload 2 1),
  (21, X_iload 1 1),
  (22, X_iload 2 1),
  (23, X_bin (fun x y => x - y)),
  (24, X_iload 2 1),
  (25, X_push (xv_i 1) 1),
  (26, X_bin (fun x y => x >>> (y &&& 31))),
  (27, X_invS Y_ZArraysSupport_newLength 3 []),
  (30, X_istore 3 1),
  (31, X_aload 0 1),
  (32, X_aload 0 1),
  (33, X_get 8 0),
  (36, X_iload 3 1),
  (37, X_invS Y_ZArrays_copyOf 2 []),
  (40, X_dup_x1),
  (41, X_put x_tR 8 0),
  (44, X_aret),
  (45, X_aload 0 1),
  (46, X_push (xv_i 10) 2),
  (48, X_iload 1 1),
  (49, X_mm (fun x y => if x < y then y else x)),
  (52, X_newa 3 4 (.inr (.inr (fun _ => none))) 3),
  (55, X_dup_x1),
  (56, X_put x_tR 8 0),
  (59, X_aret)]
set_option maxRecDepth 100000 in
theorem k_A_grow_2 : x_bok m_A_grow_2 b_A_grow_2 := by
  unfold b_A_grow_2
  refine x_bok.cons (xs_aload_n d_A_grow_2_0 rfl) ?_
  refine x_bok.cons (xs_get d_A_grow_2_1 xc8 xw8 (by decide) q1_66 (Or.inl rfl)) ?_
  refine x_bok.cons (xs_alen d_A_grow_2_4) ?_
  refine x_bok.cons (xs_istore_n d_A_grow_2_5 rfl (by decide)) ?_
  refine x_bok.cons (xs_iload_n d_A_grow_2_6 rfl) ?_
  refine x_bok.cons (xs_if_gt d_A_grow_2_7 (by decide)) ?_
  refine x_bok.cons (xs_aload_n d_A_grow_2_10 rfl) ?_
  refine x_bok.cons (xs_get d_A_grow_2_11 xc8 xw8 (by decide) q1_66 (Or.inl rfl)) ?_
  refine x_bok.cons (xs_gets d_A_grow_2_14 (List.mem_of_getElem? (i := 12) rfl) q1_64 (Or.inl rfl)) ?_
  refine x_bok.cons (xs_acmp_eq d_A_grow_2_17 (by decide)) ?_
  refine x_bok.cons (xs_iload_n d_A_grow_2_20 rfl) ?_
  refine x_bok.cons (xs_iload_n d_A_grow_2_21 rfl) ?_
  refine x_bok.cons (xs_iload_n d_A_grow_2_22 rfl) ?_
  refine x_bok.cons (xs_isub d_A_grow_2_23) ?_
  refine x_bok.cons (xs_iload_n d_A_grow_2_24 rfl) ?_
  refine x_bok.cons (xs_iconst d_A_grow_2_25 (by decide)) ?_
  refine x_bok.cons (xs_ishr d_A_grow_2_26) ?_
  refine x_bok.cons (xs_invS d_A_grow_2_27 sn_ZArraysSupport_newLength is_ZArraysSupport_newLength ⟨q2_198, q2_199, q1_22⟩ (by decide) (by decide) rfl) ?_
  refine x_bok.cons (xs_istore_n d_A_grow_2_30 rfl (by decide)) ?_
  refine x_bok.cons (xs_aload_n d_A_grow_2_31 rfl) ?_
  refine x_bok.cons (xs_aload_n d_A_grow_2_32 rfl) ?_
  refine x_bok.cons (xs_get d_A_grow_2_33 xc8 xw8 (by decide) q1_66 (Or.inl rfl)) ?_
  refine x_bok.cons (xs_iload_n d_A_grow_2_36 rfl) ?_
  refine x_bok.cons (xs_invS d_A_grow_2_37 sn_ZArrays_copyOf is_ZArrays_copyOf ⟨q2_208, q2_209, q1_23⟩ (by decide) (by decide) rfl) ?_
  refine x_bok.cons (xs_dup_x1 d_A_grow_2_40) ?_
  refine x_bok.cons (xs_put d_A_grow_2_41 xc8 xw8 xt8 xn8 (by decide) q1_66 (Or.inl rfl) rfl rfl x_fitA) ?_
  refine x_bok.cons (xs_aret d_A_grow_2_44 rfl (by first | exact Or.inl ⟨_, rfl⟩ | exact Or.inr ⟨_, rfl⟩)) ?_
  refine x_bok.cons (xs_aload_n d_A_grow_2_45 rfl) ?_
  refine x_bok.cons (xs_bipush d_A_grow_2_46 (by decide)) ?_
  refine x_bok.cons (xs_iload_n d_A_grow_2_48 rfl) ?_
  refine x_bok.cons (xs_mmax d_A_grow_2_49 ⟨q3_3, q2_202, q1_18, q2_203⟩ (by decide)) ?_
  refine x_bok.cons (xs_anew d_A_grow_2_52 rfl q3_4 q2_237) ?_
  refine x_bok.cons (xs_dup_x1 d_A_grow_2_55) ?_
  refine x_bok.cons (xs_put d_A_grow_2_56 xc8 xw8 xt8 xn8 (by decide) q1_66 (Or.inl rfl) rfl rfl x_fitA) ?_
  refine x_bok.cons (xs_aret d_A_grow_2_59 rfl (by first | exact Or.inl ⟨_, rfl⟩ | exact Or.inr ⟨_, rfl⟩)) ?_
  exact x_bok.nil
set_option maxRecDepth 100000 in
theorem mn_A_grow_2 : x_bmn b_A_grow_2 := by
  unfold b_A_grow_2
  refine x_bmn.cons (xm_aload) ?_
  refine x_bmn.cons (xm_get) ?_
  refine x_bmn.cons (xm_alen) ?_
  refine x_bmn.cons (xm_istore) ?_
  refine x_bmn.cons (xm_iload) ?_
  refine x_bmn.cons (xm_if) ?_
  refine x_bmn.cons (xm_aload) ?_
  refine x_bmn.cons (xm_get) ?_
  refine x_bmn.cons (xm_push) ?_
  refine x_bmn.cons (xm_acmp) ?_
  refine x_bmn.cons (xm_iload) ?_
  refine x_bmn.cons (xm_iload) ?_
  refine x_bmn.cons (xm_iload) ?_
  refine x_bmn.cons (xm_bin) ?_
  refine x_bmn.cons (xm_iload) ?_
  refine x_bmn.cons (xm_push) ?_
  refine x_bmn.cons (xm_bin) ?_
  refine x_bmn.cons (xm_invS ym_ZArraysSupport_newLength) ?_
  refine x_bmn.cons (xm_istore) ?_
  refine x_bmn.cons (xm_aload) ?_
  refine x_bmn.cons (xm_aload) ?_
  refine x_bmn.cons (xm_get) ?_
  refine x_bmn.cons (xm_iload) ?_
  refine x_bmn.cons (xm_invS ym_ZArrays_copyOf) ?_
  refine x_bmn.cons (xm_dup_x1) ?_
  refine x_bmn.cons (xm_put) ?_
  refine x_bmn.cons (xm_aret) ?_
  refine x_bmn.cons (xm_aload) ?_
  refine x_bmn.cons (xm_push) ?_
  refine x_bmn.cons (xm_iload) ?_
  refine x_bmn.cons (xm_mm) ?_
  refine x_bmn.cons (xm_newa) ?_
  refine x_bmn.cons (xm_dup_x1) ?_
  refine x_bmn.cons (xm_put) ?_
  refine x_bmn.cons (xm_aret) ?_
  exact x_bmn.nil
theorem is_A_grow_2 : x_Is y_A_grow_2 m_A_grow_2 := x_is_code q2_197
def Y_A_grow_2 : XMeth := x_do 4 b_A_grow_2
theorem sn_A_grow_2 : x_Snd y_A_grow_2 m_A_grow_2 Y_A_grow_2 := x_snd_of (by decide) rfl rfl is_A_grow_2 k_A_grow_2
theorem ym_A_grow_2 : x_Ymn Y_A_grow_2 := x_ymn_of mn_A_grow_2
/- java/util/ArrayList.grow()[Ljava/lang/Object; -/
abbrev c_A_grow : ByteArray := prog_35_method_7_code
def y_A_grow : MethodName := ⟨"java/util/ArrayList", "grow", "()[Ljava/lang/Object;"⟩
theorem d_A_grow_0 : decode c_A_grow 0 = .ok (.aload_n 0, 1) := by decide +kernel
theorem d_A_grow_1 : decode c_A_grow 1 = .ok (.aload_n 0, 1) := by decide +kernel
theorem d_A_grow_2 : decode c_A_grow 2 = .ok (.getfield 48, 3) := by decide +kernel
theorem d_A_grow_5 : decode c_A_grow 5 = .ok (.iconst 1, 1) := by decide +kernel
theorem d_A_grow_6 : decode c_A_grow 6 = .ok (.iadd, 1) := by decide +kernel
theorem d_A_grow_7 : decode c_A_grow 7 = .ok (.invokevirtual 69, 3) := by decide +kernel
theorem d_A_grow_10 : decode c_A_grow 10 = .ok (.areturn, 1) := by decide +kernel
def m_A_grow : XM := ("java/util/ArrayList", c_A_grow, 1, (some (.array (.object "java/lang/Object"))), "grow", [], 4, 93)
def b_A_grow : XB := [(0, X_aload 0 1),
  (1, X_aload 0 1),
  (2, X_get 8 1),
  (5, X_push (xv_i 1) 1),
  (6, X_bin (fun x y => x + y)),
  (7, X_invV 8 Y_A_grow_2 1 []),
  (10, X_aret)]
set_option maxRecDepth 100000 in
theorem k_A_grow : x_bok m_A_grow b_A_grow := by
  unfold b_A_grow
  refine x_bok.cons (xs_aload_n d_A_grow_0 rfl) ?_
  refine x_bok.cons (xs_aload_n d_A_grow_1 rfl) ?_
  refine x_bok.cons (xs_get d_A_grow_2 xc8 xw8 (by decide) q1_67 (Or.inl rfl)) ?_
  refine x_bok.cons (xs_iconst d_A_grow_5 (by decide)) ?_
  refine x_bok.cons (xs_iadd d_A_grow_6) ?_
  refine x_bok.cons (xs_invV d_A_grow_7 xc8 sn_A_grow_2 is_A_grow_2 ⟨q2_194, q2_196, (x_sel (x_p1 (List.mem_of_getElem? (i := 4) rfl))), q1_5⟩ (by decide) (by decide) rfl) ?_
  refine x_bok.cons (xs_aret d_A_grow_10 rfl (by first | exact Or.inl ⟨_, rfl⟩ | exact Or.inr ⟨_, rfl⟩)) ?_
  exact x_bok.nil
set_option maxRecDepth 100000 in
theorem mn_A_grow : x_bmn b_A_grow := by
  unfold b_A_grow
  refine x_bmn.cons (xm_aload) ?_
  refine x_bmn.cons (xm_aload) ?_
  refine x_bmn.cons (xm_get) ?_
  refine x_bmn.cons (xm_push) ?_
  refine x_bmn.cons (xm_bin) ?_
  refine x_bmn.cons (xm_invV ym_A_grow_2) ?_
  refine x_bmn.cons (xm_aret) ?_
  exact x_bmn.nil
theorem is_A_grow : x_Is y_A_grow m_A_grow := x_is_code q2_193
def Y_A_grow : XMeth := x_do 1 b_A_grow
theorem sn_A_grow : x_Snd y_A_grow m_A_grow Y_A_grow := x_snd_of (by decide) rfl rfl is_A_grow k_A_grow
theorem ym_A_grow : x_Ymn Y_A_grow := x_ymn_of mn_A_grow
/- java/util/ArrayList.add(Ljava/lang/Object;[Ljava/lang/Object;I)V -/
abbrev c_A_add_2 : ByteArray := prog_35_method_24_code
def y_A_add_2 : MethodName := ⟨"java/util/ArrayList", "add", "(Ljava/lang/Object;[Ljava/lang/Object;I)V"⟩
theorem d_A_add_2_0 : decode c_A_add_2 0 = .ok (.iload_n 3, 1) := by decide +kernel
theorem d_A_add_2_1 : decode c_A_add_2 1 = .ok (.aload_n 2, 1) := by decide +kernel
theorem d_A_add_2_2 : decode c_A_add_2 2 = .ok (.arraylength, 1) := by decide +kernel
theorem d_A_add_2_3 : decode c_A_add_2 3 = .ok (.if_icmp .ne 8, 3) := by decide +kernel
theorem d_A_add_2_6 : decode c_A_add_2 6 = .ok (.aload_n 0, 1) := by decide +kernel
theorem d_A_add_2_7 : decode c_A_add_2 7 = .ok (.invokevirtual 129, 3) := by decide +kernel
theorem d_A_add_2_10 : decode c_A_add_2 10 = .ok (.astore_n 2, 1) := by decide +kernel
theorem d_A_add_2_11 : decode c_A_add_2 11 = .ok (.aload_n 2, 1) := by decide +kernel
theorem d_A_add_2_12 : decode c_A_add_2 12 = .ok (.iload_n 3, 1) := by decide +kernel
theorem d_A_add_2_13 : decode c_A_add_2 13 = .ok (.aload_n 1, 1) := by decide +kernel
theorem d_A_add_2_14 : decode c_A_add_2 14 = .ok (.aastore, 1) := by decide +kernel
theorem d_A_add_2_15 : decode c_A_add_2 15 = .ok (.aload_n 0, 1) := by decide +kernel
theorem d_A_add_2_16 : decode c_A_add_2 16 = .ok (.iload_n 3, 1) := by decide +kernel
theorem d_A_add_2_17 : decode c_A_add_2 17 = .ok (.iconst 1, 1) := by decide +kernel
theorem d_A_add_2_18 : decode c_A_add_2 18 = .ok (.iadd, 1) := by decide +kernel
theorem d_A_add_2_19 : decode c_A_add_2 19 = .ok (.putfield 48, 3) := by decide +kernel
theorem d_A_add_2_22 : decode c_A_add_2 22 = .ok (.return_, 1) := by decide +kernel
def m_A_add_2 : XM := ("java/util/ArrayList", c_A_add_2, 4, none, "add", [], 5, 113)
def b_A_add_2 : XB := [(0, X_iload 3 1),
  (1, X_aload 2 1),
  (2, X_alen),
  (3, X_icmp (fun x y => ¬ x = y) 11),
  (6, X_aload 0 1),
  (7, X_invV 8 Y_A_grow 0 []),
  (10, X_astore 2 1),
  (11, X_aload 2 1),
  (12, X_iload 3 1),
  (13, X_aload 1 1),
  (14, X_aastD),
  (15, X_aload 0 1),
  (16, X_iload 3 1),
  (17, X_push (xv_i 1) 1),
  (18, X_bin (fun x y => x + y)),
  (19, X_put x_tI 8 1),
  (22, X_vret)]
set_option maxRecDepth 100000 in
theorem k_A_add_2 : x_bok m_A_add_2 b_A_add_2 := by
  unfold b_A_add_2
  refine x_bok.cons (xs_iload_n d_A_add_2_0 rfl) ?_
  refine x_bok.cons (xs_aload_n d_A_add_2_1 rfl) ?_
  refine x_bok.cons (xs_alen d_A_add_2_2) ?_
  refine x_bok.cons (xs_icmp_ne d_A_add_2_3 (by decide)) ?_
  refine x_bok.cons (xs_aload_n d_A_add_2_6 rfl) ?_
  refine x_bok.cons (xs_invV d_A_add_2_7 xc8 sn_A_grow is_A_grow ⟨q2_190, q2_192, (x_sel (x_p1 (List.mem_of_getElem? (i := 3) rfl))), q1_5⟩ (by decide) (by decide) rfl) ?_
  refine x_bok.cons (xs_astore_n d_A_add_2_10 rfl (by decide)) ?_
  refine x_bok.cons (xs_aload_n d_A_add_2_11 rfl) ?_
  refine x_bok.cons (xs_iload_n d_A_add_2_12 rfl) ?_
  refine x_bok.cons (xs_aload_n d_A_add_2_13 rfl) ?_
  refine x_bok.cons (xs_aastD d_A_add_2_14) ?_
  refine x_bok.cons (xs_aload_n d_A_add_2_15 rfl) ?_
  refine x_bok.cons (xs_iload_n d_A_add_2_16 rfl) ?_
  refine x_bok.cons (xs_iconst d_A_add_2_17 (by decide)) ?_
  refine x_bok.cons (xs_iadd d_A_add_2_18) ?_
  refine x_bok.cons (xs_put d_A_add_2_19 xc8 xw8 xt8 xn8 (by decide) q1_67 (Or.inl rfl) rfl rfl x_fitI) ?_
  refine x_bok.cons (xs_vret d_A_add_2_22 rfl) ?_
  exact x_bok.nil
set_option maxRecDepth 100000 in
theorem mn_A_add_2 : x_bmn b_A_add_2 := by
  unfold b_A_add_2
  refine x_bmn.cons (xm_iload) ?_
  refine x_bmn.cons (xm_aload) ?_
  refine x_bmn.cons (xm_alen) ?_
  refine x_bmn.cons (xm_icmp) ?_
  refine x_bmn.cons (xm_aload) ?_
  refine x_bmn.cons (xm_invV ym_A_grow) ?_
  refine x_bmn.cons (xm_astore) ?_
  refine x_bmn.cons (xm_aload) ?_
  refine x_bmn.cons (xm_iload) ?_
  refine x_bmn.cons (xm_aload) ?_
  refine x_bmn.cons (xm_aastD) ?_
  refine x_bmn.cons (xm_aload) ?_
  refine x_bmn.cons (xm_iload) ?_
  refine x_bmn.cons (xm_push) ?_
  refine x_bmn.cons (xm_bin) ?_
  refine x_bmn.cons (xm_put) ?_
  refine x_bmn.cons (xm_vret) ?_
  exact x_bmn.nil
theorem is_A_add_2 : x_Is y_A_add_2 m_A_add_2 := x_is_code q2_189
def Y_A_add_2 : XMeth := x_do 4 b_A_add_2
theorem sn_A_add_2 : x_Snd y_A_add_2 m_A_add_2 Y_A_add_2 := x_snd_of (by decide) rfl rfl is_A_add_2 k_A_add_2
theorem ym_A_add_2 : x_Ymn Y_A_add_2 := x_ymn_of mn_A_add_2
/- java/util/ArrayList.add(Ljava/lang/Object;)Z -/
abbrev c_A_add : ByteArray := prog_35_method_25_code
def y_A_add : MethodName := ⟨"java/util/ArrayList", "add", "(Ljava/lang/Object;)Z"⟩
theorem d_A_add_0 : decode c_A_add 0 = .ok (.aload_n 0, 1) := by decide +kernel
theorem d_A_add_1 : decode c_A_add 1 = .ok (.dup, 1) := by decide +kernel
theorem d_A_add_2 : decode c_A_add 2 = .ok (.getfield 63, 3) := by decide +kernel
theorem d_A_add_5 : decode c_A_add 5 = .ok (.iconst 1, 1) := by decide +kernel
theorem d_A_add_6 : decode c_A_add 6 = .ok (.iadd, 1) := by decide +kernel
theorem d_A_add_7 : decode c_A_add 7 = .ok (.putfield 63, 3) := by decide +kernel
theorem d_A_add_10 : decode c_A_add 10 = .ok (.aload_n 0, 1) := by decide +kernel
theorem d_A_add_11 : decode c_A_add 11 = .ok (.aload_n 1, 1) := by decide +kernel
theorem d_A_add_12 : decode c_A_add 12 = .ok (.aload_n 0, 1) := by decide +kernel
theorem d_A_add_13 : decode c_A_add 13 = .ok (.getfield 9, 3) := by decide +kernel
theorem d_A_add_16 : decode c_A_add 16 = .ok (.aload_n 0, 1) := by decide +kernel
theorem d_A_add_17 : decode c_A_add 17 = .ok (.getfield 48, 3) := by decide +kernel
theorem d_A_add_20 : decode c_A_add 20 = .ok (.invokevirtual 131, 3) := by decide +kernel
theorem d_A_add_23 : decode c_A_add 23 = .ok (.iconst 1, 1) := by decide +kernel
theorem d_A_add_24 : decode c_A_add 24 = .ok (.ireturn, 1) := by decide +kernel
def m_A_add : XM := ("java/util/ArrayList", c_A_add, 2, (some .boolean), "add", [], 6, 136)
def b_A_add : XB := [(0, X_aload 0 1),
  (1, X_dup),
  (2, X_get 8 2),
  (5, X_push (xv_i 1) 1),
  (6, X_bin (fun x y => x + y)),
  (7, X_put x_tI 8 2),
  (10, X_aload 0 1),
  (11, X_aload 1 1),
  (12, X_aload 0 1),
  (13, X_get 8 0),
  (16, X_aload 0 1),
  (17, X_get 8 1),
  (20, X_invV 8 Y_A_add_2 3 []),
  (23, X_push (xv_i 1) 1),
  (24, X_zret)]
set_option maxRecDepth 100000 in
theorem k_A_add : x_bok m_A_add b_A_add := by
  unfold b_A_add
  refine x_bok.cons (xs_aload_n d_A_add_0 rfl) ?_
  refine x_bok.cons (xs_dup d_A_add_1) ?_
  refine x_bok.cons (xs_get d_A_add_2 xc8 xw8 (by decide) q1_69 (Or.inr q1_70)) ?_
  refine x_bok.cons (xs_iconst d_A_add_5 (by decide)) ?_
  refine x_bok.cons (xs_iadd d_A_add_6) ?_
  refine x_bok.cons (xs_put d_A_add_7 xc8 xw8 xt8 xn8 (by decide) q1_69 (Or.inr q1_70) rfl rfl x_fitI) ?_
  refine x_bok.cons (xs_aload_n d_A_add_10 rfl) ?_
  refine x_bok.cons (xs_aload_n d_A_add_11 rfl) ?_
  refine x_bok.cons (xs_aload_n d_A_add_12 rfl) ?_
  refine x_bok.cons (xs_get d_A_add_13 xc8 xw8 (by decide) q1_66 (Or.inl rfl)) ?_
  refine x_bok.cons (xs_aload_n d_A_add_16 rfl) ?_
  refine x_bok.cons (xs_get d_A_add_17 xc8 xw8 (by decide) q1_67 (Or.inl rfl)) ?_
  refine x_bok.cons (xs_invV d_A_add_20 xc8 sn_A_add_2 is_A_add_2 ⟨q2_186, q2_188, (x_sel (x_p1 (List.mem_of_getElem? (i := 2) rfl))), q1_5⟩ (by decide) (by decide) rfl) ?_
  refine x_bok.cons (xs_iconst d_A_add_23 (by decide)) ?_
  refine x_bok.cons (xs_zret d_A_add_24 rfl) ?_
  exact x_bok.nil
set_option maxRecDepth 100000 in
theorem mn_A_add : x_bmn b_A_add := by
  unfold b_A_add
  refine x_bmn.cons (xm_aload) ?_
  refine x_bmn.cons (xm_dup) ?_
  refine x_bmn.cons (xm_get) ?_
  refine x_bmn.cons (xm_push) ?_
  refine x_bmn.cons (xm_bin) ?_
  refine x_bmn.cons (xm_put) ?_
  refine x_bmn.cons (xm_aload) ?_
  refine x_bmn.cons (xm_aload) ?_
  refine x_bmn.cons (xm_aload) ?_
  refine x_bmn.cons (xm_get) ?_
  refine x_bmn.cons (xm_aload) ?_
  refine x_bmn.cons (xm_get) ?_
  refine x_bmn.cons (xm_invV ym_A_add_2) ?_
  refine x_bmn.cons (xm_push) ?_
  refine x_bmn.cons (xm_zret) ?_
  exact x_bmn.nil
theorem is_A_add : x_Is y_A_add m_A_add := x_is_code q2_185
def Y_A_add : XMeth := x_do 2 b_A_add
theorem sn_A_add : x_Snd y_A_add m_A_add Y_A_add := x_snd_of (by decide) rfl rfl is_A_add k_A_add
theorem ym_A_add : x_Ymn Y_A_add := x_ymn_of mn_A_add
/- CashLink$Journal.write(LCashLink$Entry;)V -/
abbrev c_J_write : ByteArray := prog_5_method_8_code
def y_J_write : MethodName := ⟨"CashLink$Journal", "write", "(LCashLink$Entry;)V"⟩
theorem d_J_write_0 : decode c_J_write 0 = .ok (.aload_n 0, 1) := by decide +kernel
theorem d_J_write_1 : decode c_J_write 1 = .ok (.getfield 20, 3) := by decide +kernel
theorem d_J_write_4 : decode c_J_write 4 = .ok (.bipush 17, 2) := by decide +kernel
theorem d_J_write_6 : decode c_J_write 6 = .ok (.if_icmp .eq 14, 3) := by decide +kernel
theorem d_J_write_9 : decode c_J_write 9 = .ok (.aload_n 0, 1) := by decide +kernel
theorem d_J_write_10 : decode c_J_write 10 = .ok (.getfield 37, 3) := by decide +kernel
theorem d_J_write_13 : decode c_J_write 13 = .ok (.ifCond .ne 7, 3) := by decide +kernel
theorem d_J_write_16 : decode c_J_write 16 = .ok (.iconst 1, 1) := by decide +kernel
theorem d_J_write_17 : decode c_J_write 17 = .ok (.goto 4, 3) := by decide +kernel
theorem d_J_write_20 : decode c_J_write 20 = .ok (.iconst 0, 1) := by decide +kernel
theorem d_J_write_21 : decode c_J_write 21 = .ok (.istore_n 2, 1) := by decide +kernel
theorem d_J_write_22 : decode c_J_write 22 = .ok (.iload_n 2, 1) := by decide +kernel
theorem d_J_write_23 : decode c_J_write 23 = .ok (.ifCond .eq 12, 3) := by decide +kernel
theorem d_J_write_26 : decode c_J_write 26 = .ok (.aload_n 0, 1) := by decide +kernel
theorem d_J_write_27 : decode c_J_write 27 = .ok (.getfield 20, 3) := by decide +kernel
theorem d_J_write_30 : decode c_J_write 30 = .ok (.bipush 16, 2) := by decide +kernel
theorem d_J_write_32 : decode c_J_write 32 = .ok (.if_icmp .ne 12, 3) := by decide +kernel
theorem d_J_write_35 : decode c_J_write 35 = .ok (.aload_n 0, 1) := by decide +kernel
theorem d_J_write_36 : decode c_J_write 36 = .ok (.getfield 10, 3) := by decide +kernel
theorem d_J_write_39 : decode c_J_write 39 = .ok (.aload_n 1, 1) := by decide +kernel
theorem d_J_write_40 : decode c_J_write 40 = .ok (.invokevirtual 40, 3) := by decide +kernel
theorem d_J_write_43 : decode c_J_write 43 = .ok (.pop, 1) := by decide +kernel
theorem d_J_write_44 : decode c_J_write 44 = .ok (.iload_n 2, 1) := by decide +kernel
theorem d_J_write_45 : decode c_J_write 45 = .ok (.ifCond .eq 24, 3) := by decide +kernel
theorem d_J_write_48 : decode c_J_write 48 = .ok (.aload_n 0, 1) := by decide +kernel
theorem d_J_write_49 : decode c_J_write 49 = .ok (.bipush 17, 2) := by decide +kernel
theorem d_J_write_51 : decode c_J_write 51 = .ok (.putfield 20, 3) := by decide +kernel
theorem d_J_write_54 : decode c_J_write 54 = .ok (.aload_n 0, 1) := by decide +kernel
theorem d_J_write_55 : decode c_J_write 55 = .ok (.iconst 0, 1) := by decide +kernel
theorem d_J_write_56 : decode c_J_write 56 = .ok (.putfield 16, 3) := by decide +kernel
theorem d_J_write_59 : decode c_J_write 59 = .ok (.new 44, 3) := by decide +kernel
theorem d_J_write_62 : decode c_J_write 62 = .ok (.dup, 1) := by decide +kernel
theorem d_J_write_63 : decode c_J_write 63 = .ok (.ldc 46, 2) := by decide +kernel
theorem d_J_write_65 : decode c_J_write 65 = .ok (.invokespecial 48, 3) := by decide +kernel
theorem d_J_write_68 : decode c_J_write 68 = .ok (.athrow, 1) := by decide +kernel
theorem d_J_write_69 : decode c_J_write 69 = .ok (.aload_n 0, 1) := by decide +kernel
theorem d_J_write_70 : decode c_J_write 70 = .ok (.getfield 20, 3) := by decide +kernel
theorem d_J_write_73 : decode c_J_write 73 = .ok (.bipush 17, 2) := by decide +kernel
theorem d_J_write_75 : decode c_J_write 75 = .ok (.if_icmp .eq 13, 3) := by decide +kernel
theorem d_J_write_78 : decode c_J_write 78 = .ok (.aload_n 0, 1) := by decide +kernel
theorem d_J_write_79 : decode c_J_write 79 = .ok (.dup, 1) := by decide +kernel
theorem d_J_write_80 : decode c_J_write 80 = .ok (.getfield 37, 3) := by decide +kernel
theorem d_J_write_83 : decode c_J_write 83 = .ok (.iconst 1, 1) := by decide +kernel
theorem d_J_write_84 : decode c_J_write 84 = .ok (.isub, 1) := by decide +kernel
theorem d_J_write_85 : decode c_J_write 85 = .ok (.putfield 37, 3) := by decide +kernel
theorem d_J_write_88 : decode c_J_write 88 = .ok (.return_, 1) := by decide +kernel
def m_J_write : XM := ("CashLink$Journal", c_J_write, 3, none, "write", [], 7, 157)
def b_J_write : XB := [(0, X_aload 0 1),
  (1, X_get 4 4),
  (4, X_push (xv_i 17) 2),
  (6, X_icmp (fun x y => x = y) 20),
  (9, X_aload 0 1),
  (10, X_get 4 3),
  (13, X_if (fun x => ¬ x = 0) 20),
  (16, X_push (xv_i 1) 1),
  (17, X_goto 21),
  (20, X_push (xv_i 0) 1),
  (21, X_istore 2 1),
  (22, X_iload 2 1),
  (23, X_if (fun x => x = 0) 35),
  (26, X_aload 0 1),
  (27, X_get 4 4),
  (30, X_push (xv_i 16) 2),
  (32, X_icmp (fun x y => ¬ x = y) 44),
  (35, X_aload 0 1),
  (36, X_get 4 0),
  (39, X_aload 1 1),
  (40, X_invV 8 Y_A_add 1 []),
  (43, X_pop),
  (44, X_iload 2 1),
  (45, X_if (fun x => x = 0) 69),
  (48, X_aload 0 1),
  (49, X_push (xv_i 17) 2),
  (51, X_put x_tI 4 4),
  (54, X_aload 0 1),
  (55, X_push (xv_i 0) 1),
  (56, X_put x_tZ 4 2),
  (59, X_tn 14),
  (69, X_aload 0 1),
  (70, X_get 4 4),
  (73, X_push (xv_i 17) 2),
  (75, X_icmp (fun x y => x = y) 88),
  (78, X_aload 0 1),
  (79, X_dup),
  (80, X_get 4 3),
  (83, X_push (xv_i 1) 1),
  (84, X_bin (fun x y => x - y)),
  (85, X_put x_tI 4 3),
  (88, X_vret)]
set_option maxRecDepth 100000 in
theorem k_J_write : x_bok m_J_write b_J_write := by
  unfold b_J_write
  refine x_bok.cons (xs_aload_n d_J_write_0 rfl) ?_
  refine x_bok.cons (xs_get d_J_write_1 xc4 xw4 (by decide) q1_100 (Or.inl rfl)) ?_
  refine x_bok.cons (xs_bipush d_J_write_4 (by decide)) ?_
  refine x_bok.cons (xs_icmp_eq d_J_write_6 (by decide)) ?_
  refine x_bok.cons (xs_aload_n d_J_write_9 rfl) ?_
  refine x_bok.cons (xs_get d_J_write_10 xc4 xw4 (by decide) q1_99 (Or.inl rfl)) ?_
  refine x_bok.cons (xs_if_ne d_J_write_13 (by decide)) ?_
  refine x_bok.cons (xs_iconst d_J_write_16 (by decide)) ?_
  refine x_bok.cons (xs_goto d_J_write_17 (by decide)) ?_
  refine x_bok.cons (xs_iconst d_J_write_20 (by decide)) ?_
  refine x_bok.cons (xs_istore_n d_J_write_21 rfl (by decide)) ?_
  refine x_bok.cons (xs_iload_n d_J_write_22 rfl) ?_
  refine x_bok.cons (xs_if_eq d_J_write_23 (by decide)) ?_
  refine x_bok.cons (xs_aload_n d_J_write_26 rfl) ?_
  refine x_bok.cons (xs_get d_J_write_27 xc4 xw4 (by decide) q1_100 (Or.inl rfl)) ?_
  refine x_bok.cons (xs_bipush d_J_write_30 (by decide)) ?_
  refine x_bok.cons (xs_icmp_ne d_J_write_32 (by decide)) ?_
  refine x_bok.cons (xs_aload_n d_J_write_35 rfl) ?_
  refine x_bok.cons (xs_get d_J_write_36 xc4 xw4 (by decide) q1_96 (Or.inl rfl)) ?_
  refine x_bok.cons (xs_aload_n d_J_write_39 rfl) ?_
  refine x_bok.cons (xs_invV d_J_write_40 xc8 sn_A_add is_A_add ⟨q2_182, q2_183, q2_184, q1_5⟩ (by decide) (by decide) rfl) ?_
  refine x_bok.cons (xs_pop d_J_write_43) ?_
  refine x_bok.cons (xs_iload_n d_J_write_44 rfl) ?_
  refine x_bok.cons (xs_if_eq d_J_write_45 (by decide)) ?_
  refine x_bok.cons (xs_aload_n d_J_write_48 rfl) ?_
  refine x_bok.cons (xs_bipush d_J_write_49 (by decide)) ?_
  refine x_bok.cons (xs_put d_J_write_51 xc4 xw4 xt4 xn4 (by decide) q1_100 (Or.inl rfl) rfl rfl x_fitI) ?_
  refine x_bok.cons (xs_aload_n d_J_write_54 rfl) ?_
  refine x_bok.cons (xs_iconst d_J_write_55 (by decide)) ?_
  refine x_bok.cons (xs_put d_J_write_56 xc4 xw4 xt4 xn4 (by decide) q1_98 (Or.inl rfl) rfl rfl x_fitZ) ?_
  refine x_bok.cons (xs_tnS (names := ["java/lang/RuntimeException", "java/lang/Exception"]) d_J_write_59 d_J_write_62 d_J_write_63 d_J_write_65 d_J_write_68 xc14 rfl (by decide +kernel) (by decide +kernel) (List.mem_of_getElem? (i := 3) rfl) x_exin (by decide +kernel) rfl (by decide)) ?_
  refine x_bok.cons (xs_aload_n d_J_write_69 rfl) ?_
  refine x_bok.cons (xs_get d_J_write_70 xc4 xw4 (by decide) q1_100 (Or.inl rfl)) ?_
  refine x_bok.cons (xs_bipush d_J_write_73 (by decide)) ?_
  refine x_bok.cons (xs_icmp_eq d_J_write_75 (by decide)) ?_
  refine x_bok.cons (xs_aload_n d_J_write_78 rfl) ?_
  refine x_bok.cons (xs_dup d_J_write_79) ?_
  refine x_bok.cons (xs_get d_J_write_80 xc4 xw4 (by decide) q1_99 (Or.inl rfl)) ?_
  refine x_bok.cons (xs_iconst d_J_write_83 (by decide)) ?_
  refine x_bok.cons (xs_isub d_J_write_84) ?_
  refine x_bok.cons (xs_put d_J_write_85 xc4 xw4 xt4 xn4 (by decide) q1_99 (Or.inl rfl) rfl rfl x_fitI) ?_
  refine x_bok.cons (xs_vret d_J_write_88 rfl) ?_
  exact x_bok.nil
set_option maxRecDepth 100000 in
theorem mn_J_write : x_bmn b_J_write := by
  unfold b_J_write
  refine x_bmn.cons (xm_aload) ?_
  refine x_bmn.cons (xm_get) ?_
  refine x_bmn.cons (xm_push) ?_
  refine x_bmn.cons (xm_icmp) ?_
  refine x_bmn.cons (xm_aload) ?_
  refine x_bmn.cons (xm_get) ?_
  refine x_bmn.cons (xm_if) ?_
  refine x_bmn.cons (xm_push) ?_
  refine x_bmn.cons (xm_goto) ?_
  refine x_bmn.cons (xm_push) ?_
  refine x_bmn.cons (xm_istore) ?_
  refine x_bmn.cons (xm_iload) ?_
  refine x_bmn.cons (xm_if) ?_
  refine x_bmn.cons (xm_aload) ?_
  refine x_bmn.cons (xm_get) ?_
  refine x_bmn.cons (xm_push) ?_
  refine x_bmn.cons (xm_icmp) ?_
  refine x_bmn.cons (xm_aload) ?_
  refine x_bmn.cons (xm_get) ?_
  refine x_bmn.cons (xm_aload) ?_
  refine x_bmn.cons (xm_invV ym_A_add) ?_
  refine x_bmn.cons (xm_pop) ?_
  refine x_bmn.cons (xm_iload) ?_
  refine x_bmn.cons (xm_if) ?_
  refine x_bmn.cons (xm_aload) ?_
  refine x_bmn.cons (xm_push) ?_
  refine x_bmn.cons (xm_put) ?_
  refine x_bmn.cons (xm_aload) ?_
  refine x_bmn.cons (xm_push) ?_
  refine x_bmn.cons (xm_put) ?_
  refine x_bmn.cons (xm_tn) ?_
  refine x_bmn.cons (xm_aload) ?_
  refine x_bmn.cons (xm_get) ?_
  refine x_bmn.cons (xm_push) ?_
  refine x_bmn.cons (xm_icmp) ?_
  refine x_bmn.cons (xm_aload) ?_
  refine x_bmn.cons (xm_dup) ?_
  refine x_bmn.cons (xm_get) ?_
  refine x_bmn.cons (xm_push) ?_
  refine x_bmn.cons (xm_bin) ?_
  refine x_bmn.cons (xm_put) ?_
  refine x_bmn.cons (xm_vret) ?_
  exact x_bmn.nil
theorem is_J_write : x_Is y_J_write m_J_write := x_is_code q2_181
def Y_J_write : XMeth := x_do 3 b_J_write
theorem sn_J_write : x_Snd y_J_write m_J_write Y_J_write := x_snd_of (by decide) rfl rfl is_J_write k_J_write
theorem ym_J_write : x_Ymn Y_J_write := x_ymn_of mn_J_write
/- CashLink$Message.<init>(LCashLink$Type;IIIII)V -/
abbrev c_G_init : ByteArray := prog_7_method_1_code
def y_G_init : MethodName := ⟨"CashLink$Message", "<init>", "(LCashLink$Type;IIIII)V"⟩
theorem d_G_init_0 : decode c_G_init 0 = .ok (.aload_n 0, 1) := by decide +kernel
theorem d_G_init_1 : decode c_G_init 1 = .ok (.invokespecial 1, 3) := by decide +kernel
theorem d_G_init_4 : decode c_G_init 4 = .ok (.aload_n 0, 1) := by decide +kernel
theorem d_G_init_5 : decode c_G_init 5 = .ok (.aload_n 1, 1) := by decide +kernel
theorem d_G_init_6 : decode c_G_init 6 = .ok (.putfield 7, 3) := by decide +kernel
theorem d_G_init_9 : decode c_G_init 9 = .ok (.aload_n 0, 1) := by decide +kernel
theorem d_G_init_10 : decode c_G_init 10 = .ok (.iload_n 2, 1) := by decide +kernel
theorem d_G_init_11 : decode c_G_init 11 = .ok (.putfield 13, 3) := by decide +kernel
theorem d_G_init_14 : decode c_G_init 14 = .ok (.aload_n 0, 1) := by decide +kernel
theorem d_G_init_15 : decode c_G_init 15 = .ok (.iload_n 3, 1) := by decide +kernel
theorem d_G_init_16 : decode c_G_init 16 = .ok (.putfield 17, 3) := by decide +kernel
theorem d_G_init_19 : decode c_G_init 19 = .ok (.aload_n 0, 1) := by decide +kernel
theorem d_G_init_20 : decode c_G_init 20 = .ok (.iload 4, 2) := by decide +kernel
theorem d_G_init_22 : decode c_G_init 22 = .ok (.putfield 20, 3) := by decide +kernel
theorem d_G_init_25 : decode c_G_init 25 = .ok (.aload_n 0, 1) := by decide +kernel
theorem d_G_init_26 : decode c_G_init 26 = .ok (.iload 5, 2) := by decide +kernel
theorem d_G_init_28 : decode c_G_init 28 = .ok (.putfield 23, 3) := by decide +kernel
theorem d_G_init_31 : decode c_G_init 31 = .ok (.aload_n 0, 1) := by decide +kernel
theorem d_G_init_32 : decode c_G_init 32 = .ok (.iload 6, 2) := by decide +kernel
theorem d_G_init_34 : decode c_G_init 34 = .ok (.putfield 26, 3) := by decide +kernel
theorem d_G_init_37 : decode c_G_init 37 = .ok (.return_, 1) := by decide +kernel
def m_G_init : XM := ("CashLink$Message", c_G_init, 7, none, "<init>", [], 2, 40)
def b_G_init : XB := [(0, X_aload 0 1),
  (1, X_invI Y_ZRecord_init 0 []),
  (4, X_aload 0 1),
  (5, X_aload 1 1),
  (6, X_put x_tR 7 0),
  (9, X_aload 0 1),
  (10, X_iload 2 1),
  (11, X_put x_tI 7 1),
  (14, X_aload 0 1),
  (15, X_iload 3 1),
  (16, X_put x_tI 7 2),
  (19, X_aload 0 1),
  (20, X_iload 4 2),
  (22, X_put x_tI 7 3),
  (25, X_aload 0 1),
  (26, X_iload 5 2),
  (28, X_put x_tI 7 4),
  (31, X_aload 0 1),
  (32, X_iload 6 2),
  (34, X_put x_tI 7 5),
  (37, X_vret)]
set_option maxRecDepth 100000 in
theorem k_G_init : x_bok m_G_init b_G_init := by
  unfold b_G_init
  refine x_bok.cons (xs_aload_n d_G_init_0 rfl) ?_
  refine x_bok.cons (xs_invI d_G_init_1 sn_ZRecord_init is_ZRecord_init ⟨q3_33, q2_156, q2_157, q1_20⟩ (by decide) rfl (by decide) rfl) ?_
  refine x_bok.cons (xs_aload_n d_G_init_4 rfl) ?_
  refine x_bok.cons (xs_aload_n d_G_init_5 rfl) ?_
  refine x_bok.cons (xs_putF d_G_init_6 xc7 xw7 xt7 xn7 (by decide) q3_34 (Or.inl rfl) rfl rfl rfl rfl x_fitO) ?_
  refine x_bok.cons (xs_aload_n d_G_init_9 rfl) ?_
  refine x_bok.cons (xs_iload_n d_G_init_10 rfl) ?_
  refine x_bok.cons (xs_putF d_G_init_11 xc7 xw7 xt7 xn7 (by decide) q3_35 (Or.inl rfl) rfl rfl rfl rfl x_fitI) ?_
  refine x_bok.cons (xs_aload_n d_G_init_14 rfl) ?_
  refine x_bok.cons (xs_iload_n d_G_init_15 rfl) ?_
  refine x_bok.cons (xs_putF d_G_init_16 xc7 xw7 xt7 xn7 (by decide) q3_36 (Or.inl rfl) rfl rfl rfl rfl x_fitI) ?_
  refine x_bok.cons (xs_aload_n d_G_init_19 rfl) ?_
  refine x_bok.cons (xs_iload d_G_init_20) ?_
  refine x_bok.cons (xs_putF d_G_init_22 xc7 xw7 xt7 xn7 (by decide) q3_37 (Or.inl rfl) rfl rfl rfl rfl x_fitI) ?_
  refine x_bok.cons (xs_aload_n d_G_init_25 rfl) ?_
  refine x_bok.cons (xs_iload d_G_init_26) ?_
  refine x_bok.cons (xs_putF d_G_init_28 xc7 xw7 xt7 xn7 (by decide) q3_38 (Or.inl rfl) rfl rfl rfl rfl x_fitI) ?_
  refine x_bok.cons (xs_aload_n d_G_init_31 rfl) ?_
  refine x_bok.cons (xs_iload d_G_init_32) ?_
  refine x_bok.cons (xs_putF d_G_init_34 xc7 xw7 xt7 xn7 (by decide) q3_39 (Or.inl rfl) rfl rfl rfl rfl x_fitI) ?_
  refine x_bok.cons (xs_vret d_G_init_37 rfl) ?_
  exact x_bok.nil
set_option maxRecDepth 100000 in
theorem mn_G_init : x_bmn b_G_init := by
  unfold b_G_init
  refine x_bmn.cons (xm_aload) ?_
  refine x_bmn.cons (xm_invI ym_ZRecord_init) ?_
  refine x_bmn.cons (xm_aload) ?_
  refine x_bmn.cons (xm_aload) ?_
  refine x_bmn.cons (xm_put) ?_
  refine x_bmn.cons (xm_aload) ?_
  refine x_bmn.cons (xm_iload) ?_
  refine x_bmn.cons (xm_put) ?_
  refine x_bmn.cons (xm_aload) ?_
  refine x_bmn.cons (xm_iload) ?_
  refine x_bmn.cons (xm_put) ?_
  refine x_bmn.cons (xm_aload) ?_
  refine x_bmn.cons (xm_iload) ?_
  refine x_bmn.cons (xm_put) ?_
  refine x_bmn.cons (xm_aload) ?_
  refine x_bmn.cons (xm_iload) ?_
  refine x_bmn.cons (xm_put) ?_
  refine x_bmn.cons (xm_aload) ?_
  refine x_bmn.cons (xm_iload) ?_
  refine x_bmn.cons (xm_put) ?_
  refine x_bmn.cons (xm_vret) ?_
  exact x_bmn.nil
theorem is_G_init : x_Is y_G_init m_G_init := x_is_code q3_32
def Y_G_init : XMeth := x_do 7 b_G_init
theorem sn_G_init : x_Snd y_G_init m_G_init Y_G_init := x_snd_of (by decide) rfl rfl is_G_init k_G_init
theorem ym_G_init : x_Ymn Y_G_init := x_ymn_of mn_G_init
/- CashLink$Network.send(LCashLink$Type;IIIII)Z -/
abbrev c_N_send : ByteArray := prog_8_method_4_code
def y_N_send : MethodName := ⟨"CashLink$Network", "send", "(LCashLink$Type;IIIII)Z"⟩
theorem d_N_send_0 : decode c_N_send 0 = .ok (.aload_n 0, 1) := by decide +kernel
theorem d_N_send_1 : decode c_N_send 1 = .ok (.getfield 10, 3) := by decide +kernel
theorem d_N_send_4 : decode c_N_send 4 = .ok (.invokevirtual 16, 3) := by decide +kernel
theorem d_N_send_7 : decode c_N_send 7 = .ok (.sipush 3000, 3) := by decide +kernel
theorem d_N_send_10 : decode c_N_send 10 = .ok (.if_icmp .lt 5, 3) := by decide +kernel
theorem d_N_send_13 : decode c_N_send 13 = .ok (.iconst 0, 1) := by decide +kernel
theorem d_N_send_14 : decode c_N_send 14 = .ok (.ireturn, 1) := by decide +kernel
theorem d_N_send_15 : decode c_N_send 15 = .ok (.aload_n 0, 1) := by decide +kernel
theorem d_N_send_16 : decode c_N_send 16 = .ok (.getfield 10, 3) := by decide +kernel
theorem d_N_send_19 : decode c_N_send 19 = .ok (.new 24, 3) := by decide +kernel
theorem d_N_send_22 : decode c_N_send 22 = .ok (.dup, 1) := by decide +kernel
theorem d_N_send_23 : decode c_N_send 23 = .ok (.aload_n 1, 1) := by decide +kernel
theorem d_N_send_24 : decode c_N_send 24 = .ok (.iload_n 2, 1) := by decide +kernel
theorem d_N_send_25 : decode c_N_send 25 = .ok (.iload_n 3, 1) := by decide +kernel
theorem d_N_send_26 : decode c_N_send 26 = .ok (.iload 4, 2) := by decide +kernel
theorem d_N_send_28 : decode c_N_send 28 = .ok (.iload 5, 2) := by decide +kernel
theorem d_N_send_30 : decode c_N_send 30 = .ok (.iload 6, 2) := by decide +kernel
theorem d_N_send_32 : decode c_N_send 32 = .ok (.invokespecial 26, 3) := by decide +kernel
theorem d_N_send_35 : decode c_N_send 35 = .ok (.invokevirtual 29, 3) := by decide +kernel
theorem d_N_send_38 : decode c_N_send 38 = .ok (.pop, 1) := by decide +kernel
theorem d_N_send_39 : decode c_N_send 39 = .ok (.iconst 1, 1) := by decide +kernel
theorem d_N_send_40 : decode c_N_send 40 = .ok (.ireturn, 1) := by decide +kernel
def m_N_send : XM := ("CashLink$Network", c_N_send, 7, (some .boolean), "send", [], 7, 157)
def b_N_send : XB := [(0, X_aload 0 1),
  (1, X_get 1 0),
  (4, X_invV 8 Y_A_size 0 []),
  (7, X_push (xv_i 3000) 3),
  (10, X_icmp (fun x y => x < y) 15),
  (13, X_push (xv_i 0) 1),
  (14, X_zret),
  (15, X_aload 0 1),
  (16, X_get 1 0),
  (19, X_new 7 6 xD7),
  (22, X_dup),
  (23, X_aload 1 1),
  (24, X_iload 2 1),
  (25, X_iload 3 1),
  (26, X_iload 4 2),
  (28, X_iload 5 2),
  (30, X_iload 6 2),
  (32, X_invI Y_G_init 6 []),
  (35, X_invV 8 Y_A_add 1 []),
  (38, X_pop),
  (39, X_push (xv_i 1) 1),
  (40, X_zret)]
set_option maxRecDepth 100000 in
theorem k_N_send : x_bok m_N_send b_N_send := by
  unfold b_N_send
  refine x_bok.cons (xs_aload_n d_N_send_0 rfl) ?_
  refine x_bok.cons (xs_get d_N_send_1 xc1 xw1 (by decide) q1_78 (Or.inl rfl)) ?_
  refine x_bok.cons (xs_invV d_N_send_4 xc8 sn_A_size is_A_size ⟨q3_27, q2_126, q2_127, q1_5⟩ (by decide) (by decide) rfl) ?_
  refine x_bok.cons (xs_sipush d_N_send_7 (by decide)) ?_
  refine x_bok.cons (xs_icmp_lt d_N_send_10 (by decide)) ?_
  refine x_bok.cons (xs_iconst d_N_send_13 (by decide)) ?_
  refine x_bok.cons (xs_zret d_N_send_14 rfl) ?_
  refine x_bok.cons (xs_aload_n d_N_send_15 rfl) ?_
  refine x_bok.cons (xs_get d_N_send_16 xc1 xw1 (by decide) q1_78 (Or.inl rfl)) ?_
  refine x_bok.cons (xs_new d_N_send_19 xc7 xw7 xt7 q3_28 q3_29 q1_27 xd7 rfl) ?_
  refine x_bok.cons (xs_dup d_N_send_22) ?_
  refine x_bok.cons (xs_aload_n d_N_send_23 rfl) ?_
  refine x_bok.cons (xs_iload_n d_N_send_24 rfl) ?_
  refine x_bok.cons (xs_iload_n d_N_send_25 rfl) ?_
  refine x_bok.cons (xs_iload d_N_send_26) ?_
  refine x_bok.cons (xs_iload d_N_send_28) ?_
  refine x_bok.cons (xs_iload d_N_send_30) ?_
  refine x_bok.cons (xs_invIN d_N_send_32 sn_G_init is_G_init ⟨q3_30, q3_31, q3_32, q1_27⟩ (by decide) rfl (by decide) rfl) ?_
  refine x_bok.cons (xs_invV d_N_send_35 xc8 sn_A_add is_A_add ⟨q3_53, q2_183, q2_184, q1_5⟩ (by decide) (by decide) rfl) ?_
  refine x_bok.cons (xs_pop d_N_send_38) ?_
  refine x_bok.cons (xs_iconst d_N_send_39 (by decide)) ?_
  refine x_bok.cons (xs_zret d_N_send_40 rfl) ?_
  exact x_bok.nil
set_option maxRecDepth 100000 in
theorem mn_N_send : x_bmn b_N_send := by
  unfold b_N_send
  refine x_bmn.cons (xm_aload) ?_
  refine x_bmn.cons (xm_get) ?_
  refine x_bmn.cons (xm_invV ym_A_size) ?_
  refine x_bmn.cons (xm_push) ?_
  refine x_bmn.cons (xm_icmp) ?_
  refine x_bmn.cons (xm_push) ?_
  refine x_bmn.cons (xm_zret) ?_
  refine x_bmn.cons (xm_aload) ?_
  refine x_bmn.cons (xm_get) ?_
  refine x_bmn.cons (xm_new) ?_
  refine x_bmn.cons (xm_dup) ?_
  refine x_bmn.cons (xm_aload) ?_
  refine x_bmn.cons (xm_iload) ?_
  refine x_bmn.cons (xm_iload) ?_
  refine x_bmn.cons (xm_iload) ?_
  refine x_bmn.cons (xm_iload) ?_
  refine x_bmn.cons (xm_iload) ?_
  refine x_bmn.cons (xm_invI ym_G_init) ?_
  refine x_bmn.cons (xm_invV ym_A_add) ?_
  refine x_bmn.cons (xm_pop) ?_
  refine x_bmn.cons (xm_push) ?_
  refine x_bmn.cons (xm_zret) ?_
  exact x_bmn.nil
theorem is_N_send : x_Is y_N_send m_N_send := x_is_code q3_26
def Y_N_send : XMeth := x_do 7 b_N_send
theorem sn_N_send : x_Snd y_N_send m_N_send Y_N_send := x_snd_of (by decide) rfl rfl is_N_send k_N_send
theorem ym_N_send : x_Ymn Y_N_send := x_ymn_of mn_N_send
