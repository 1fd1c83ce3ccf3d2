/- java/util/AbstractCollection.<init>()V -/
abbrev c_ZAbstractCollection_init : ByteArray := prog_33_method_1_code
def y_ZAbstractCollection_init : MethodName := ⟨"java/util/AbstractCollection", "<init>", "()V"⟩
theorem d_ZAbstractCollection_init_0 : decode c_ZAbstractCollection_init 0 = .ok (.aload_n 0, 1) := by decide +kernel
theorem d_ZAbstractCollection_init_1 : decode c_ZAbstractCollection_init 1 = .ok (.invokespecial 1, 3) := by decide +kernel
theorem d_ZAbstractCollection_init_4 : decode c_ZAbstractCollection_init 4 = .ok (.return_, 1) := by decide +kernel
def m_ZAbstractCollection_init : XM := ("java/util/AbstractCollection", c_ZAbstractCollection_init, 1, none, "<init>", [], 1, 20)
def b_ZAbstractCollection_init : XB := [(0, X_aload 0 1),
  (1, X_obj),
  (4, X_vret)]
set_option maxRecDepth 100000 in
theorem k_ZAbstractCollection_init : x_bok m_ZAbstractCollection_init b_ZAbstractCollection_init := by
  unfold b_ZAbstractCollection_init
  refine x_bok.cons (xs_aload_n d_ZAbstractCollection_init_0 rfl) ?_
  refine x_bok.cons (xs_obj d_ZAbstractCollection_init_1 ⟨q1_63, q1_42, q1_43⟩ (by decide)) ?_
  refine x_bok.cons (xs_vret d_ZAbstractCollection_init_4 rfl) ?_
  exact x_bok.nil
set_option maxRecDepth 100000 in
theorem mn_ZAbstractCollection_init : x_bmn b_ZAbstractCollection_init := by
  unfold b_ZAbstractCollection_init
  refine x_bmn.cons (xm_aload) ?_
  refine x_bmn.cons (xm_obj) ?_
  refine x_bmn.cons (xm_vret) ?_
  exact x_bmn.nil
theorem is_ZAbstractCollection_init : x_Is y_ZAbstractCollection_init m_ZAbstractCollection_init := x_is_code q1_62
def Y_ZAbstractCollection_init : XMeth := x_do 1 b_ZAbstractCollection_init
theorem sn_ZAbstractCollection_init : x_Snd y_ZAbstractCollection_init m_ZAbstractCollection_init Y_ZAbstractCollection_init := x_snd_of (by decide) rfl rfl is_ZAbstractCollection_init k_ZAbstractCollection_init
theorem ym_ZAbstractCollection_init : x_Ymn Y_ZAbstractCollection_init := x_ymn_of mn_ZAbstractCollection_init
/- java/util/AbstractList.<init>()V -/
abbrev c_ZAbstractList_init : ByteArray := prog_34_method_1_code
def y_ZAbstractList_init : MethodName := ⟨"java/util/AbstractList", "<init>", "()V"⟩
theorem d_ZAbstractList_init_0 : decode c_ZAbstractList_init 0 = .ok (.aload_n 0, 1) := by decide +kernel
theorem d_ZAbstractList_init_1 : decode c_ZAbstractList_init 1 = .ok (.invokespecial 1, 3) := by decide +kernel
theorem d_ZAbstractList_init_4 : decode c_ZAbstractList_init 4 = .ok (.aload_n 0, 1) := by decide +kernel
theorem d_ZAbstractList_init_5 : decode c_ZAbstractList_init 5 = .ok (.iconst 0, 1) := by decide +kernel
theorem d_ZAbstractList_init_6 : decode c_ZAbstractList_init 6 = .ok (.putfield 7, 3) := by decide +kernel
theorem d_ZAbstractList_init_9 : decode c_ZAbstractList_init 9 = .ok (.return_, 1) := by decide +kernel
def m_ZAbstractList_init : XM := ("java/util/AbstractList", c_ZAbstractList_init, 1, none, "<init>", [], 2, 40)
def b_ZAbstractList_init : XB := [(0, X_aload 0 1),
  (1, X_invI Y_ZAbstractCollection_init 0 []),
  (4, X_aload 0 1),
  (5, X_push (xv_i 0) 1),
  (6, X_put x_tI 8 2),
  (9, X_vret)]
set_option maxRecDepth 100000 in
theorem k_ZAbstractList_init : x_bok m_ZAbstractList_init b_ZAbstractList_init := by
  unfold b_ZAbstractList_init
  refine x_bok.cons (xs_aload_n d_ZAbstractList_init_0 rfl) ?_
  refine x_bok.cons (xs_invI d_ZAbstractList_init_1 sn_ZAbstractCollection_init is_ZAbstractCollection_init ⟨q1_60, q1_61, q1_62, q1_3⟩ (by decide) rfl (by decide) rfl) ?_
  refine x_bok.cons (xs_aload_n d_ZAbstractList_init_4 rfl) ?_
  refine x_bok.cons (xs_iconst d_ZAbstractList_init_5 (by decide)) ?_
  refine x_bok.cons (xs_put d_ZAbstractList_init_6 xc8 xw8 xt8 xn8 (by decide) q1_68 (Or.inl rfl) rfl rfl x_fitI) ?_
  refine x_bok.cons (xs_vret d_ZAbstractList_init_9 rfl) ?_
  exact x_bok.nil
set_option maxRecDepth 100000 in
theorem mn_ZAbstractList_init : x_bmn b_ZAbstractList_init := by
  unfold b_ZAbstractList_init
  refine x_bmn.cons (xm_aload) ?_
  refine x_bmn.cons (xm_invI ym_ZAbstractCollection_init) ?_
  refine x_bmn.cons (xm_aload) ?_
  refine x_bmn.cons (xm_push) ?_
  refine x_bmn.cons (xm_put) ?_
  refine x_bmn.cons (xm_vret) ?_
  exact x_bmn.nil
theorem is_ZAbstractList_init : x_Is y_ZAbstractList_init m_ZAbstractList_init := x_is_code q1_59
def Y_ZAbstractList_init : XMeth := x_do 1 b_ZAbstractList_init
theorem sn_ZAbstractList_init : x_Snd y_ZAbstractList_init m_ZAbstractList_init Y_ZAbstractList_init := x_snd_of (by decide) rfl rfl is_ZAbstractList_init k_ZAbstractList_init
theorem ym_ZAbstractList_init : x_Ymn Y_ZAbstractList_init := x_ymn_of mn_ZAbstractList_init
/- java/util/ArrayList.<init>()V -/
abbrev c_A_init : ByteArray := prog_35_method_2_code
def y_A_init : MethodName := ⟨"java/util/ArrayList", "<init>", "()V"⟩
theorem d_A_init_0 : decode c_A_init 0 = .ok (.aload_n 0, 1) := by decide +kernel
theorem d_A_init_1 : decode c_A_init 1 = .ok (.invokespecial 1, 3) := by decide +kernel
theorem d_A_init_4 : decode c_A_init 4 = .ok (.aload_n 0, 1) := by decide +kernel
theorem d_A_init_5 : decode c_A_init 5 = .ok (.getstatic 39, 3) := by decide +kernel
theorem d_A_init_8 : decode c_A_init 8 = .ok (.putfield 9, 3) := by decide +kernel
theorem d_A_init_11 : decode c_A_init 11 = .ok (.return_, 1) := by decide +kernel
def m_A_init : XM := ("java/util/ArrayList", c_A_init, 1, none, "<init>", [], 3, 60)
def b_A_init : XB := [(0, X_aload 0 1),
  (1, X_invI Y_ZAbstractList_init 0 []),
  (4, X_aload 0 1),
  (5, X_push (xv_r 54 0) 3),
  (8, X_put x_tR 8 0),
  (11, X_vret)]
set_option maxRecDepth 100000 in
theorem k_A_init : x_bok m_A_init b_A_init := by
  unfold b_A_init
  refine x_bok.cons (xs_aload_n d_A_init_0 rfl) ?_
  refine x_bok.cons (xs_invI d_A_init_1 sn_ZAbstractList_init is_ZAbstractList_init ⟨q1_57, q1_58, q1_59, q1_4⟩ (by decide) rfl (by decide) rfl) ?_
  refine x_bok.cons (xs_aload_n d_A_init_4 rfl) ?_
  refine x_bok.cons (xs_gets d_A_init_5 (List.mem_of_getElem? (i := 12) rfl) q1_64 (Or.inl rfl)) ?_
  refine x_bok.cons (xs_put d_A_init_8 xc8 xw8 xt8 xn8 (by decide) q1_66 (Or.inl rfl) rfl rfl x_fitA) ?_
  refine x_bok.cons (xs_vret d_A_init_11 rfl) ?_
  exact x_bok.nil
set_option maxRecDepth 100000 in
theorem mn_A_init : x_bmn b_A_init := by
  unfold b_A_init
  refine x_bmn.cons (xm_aload) ?_
  refine x_bmn.cons (xm_invI ym_ZAbstractList_init) ?_
  refine x_bmn.cons (xm_aload) ?_
  refine x_bmn.cons (xm_push) ?_
  refine x_bmn.cons (xm_put) ?_
  refine x_bmn.cons (xm_vret) ?_
  exact x_bmn.nil
theorem is_A_init : x_Is y_A_init m_A_init := x_is_code q1_56
def Y_A_init : XMeth := x_do 1 b_A_init
theorem sn_A_init : x_Snd y_A_init m_A_init Y_A_init := x_snd_of (by decide) rfl rfl is_A_init k_A_init
theorem ym_A_init : x_Ymn Y_A_init := x_ymn_of mn_A_init
/- CashLink$Network.<init>()V -/
abbrev c_N_init : ByteArray := prog_8_method_1_code
def y_N_init : MethodName := ⟨"CashLink$Network", "<init>", "()V"⟩
theorem d_N_init_0 : decode c_N_init 0 = .ok (.aload_n 0, 1) := by decide +kernel
theorem d_N_init_1 : decode c_N_init 1 = .ok (.invokespecial 1, 3) := by decide +kernel
theorem d_N_init_4 : decode c_N_init 4 = .ok (.aload_n 0, 1) := by decide +kernel
theorem d_N_init_5 : decode c_N_init 5 = .ok (.new 7, 3) := by decide +kernel
theorem d_N_init_8 : decode c_N_init 8 = .ok (.dup, 1) := by decide +kernel
theorem d_N_init_9 : decode c_N_init 9 = .ok (.invokespecial 9, 3) := by decide +kernel
theorem d_N_init_12 : decode c_N_init 12 = .ok (.putfield 10, 3) := by decide +kernel
theorem d_N_init_15 : decode c_N_init 15 = .ok (.return_, 1) := by decide +kernel
def m_N_init : XM := ("CashLink$Network", c_N_init, 1, none, "<init>", [], 4, 80)
def b_N_init : XB := [(0, X_aload 0 1),
  (1, X_obj),
  (4, X_aload 0 1),
  (5, X_new 8 3 xD8),
  (8, X_dup),
  (9, X_invI Y_A_init 0 []),
  (12, X_put x_tR 1 0),
  (15, X_vret)]
set_option maxRecDepth 100000 in
theorem k_N_init : x_bok m_N_init b_N_init := by
  unfold b_N_init
  refine x_bok.cons (xs_aload_n d_N_init_0 rfl) ?_
  refine x_bok.cons (xs_obj d_N_init_1 ⟨q1_51, q1_42, q1_43⟩ (by decide)) ?_
  refine x_bok.cons (xs_aload_n d_N_init_4 rfl) ?_
  refine x_bok.cons (xs_new d_N_init_5 xc8 xw8 xt8 q1_52 q1_53 q1_5 xd8 rfl) ?_
  refine x_bok.cons (xs_dup d_N_init_8) ?_
  refine x_bok.cons (xs_invI d_N_init_9 sn_A_init is_A_init ⟨q1_54, q1_55, q1_56, q1_5⟩ (by decide) rfl (by decide) rfl) ?_
  refine x_bok.cons (xs_putF d_N_init_12 xc1 xw1 xt1 xn1 (by decide) q1_78 (Or.inl rfl) rfl rfl rfl rfl x_fitO) ?_
  refine x_bok.cons (xs_vret d_N_init_15 rfl) ?_
  exact x_bok.nil
set_option maxRecDepth 100000 in
theorem mn_N_init : x_bmn b_N_init := by
  unfold b_N_init
  refine x_bmn.cons (xm_aload) ?_
  refine x_bmn.cons (xm_obj) ?_
  refine x_bmn.cons (xm_aload) ?_
  refine x_bmn.cons (xm_new) ?_
  refine x_bmn.cons (xm_dup) ?_
  refine x_bmn.cons (xm_invI ym_A_init) ?_
  refine x_bmn.cons (xm_put) ?_
  refine x_bmn.cons (xm_vret) ?_
  exact x_bmn.nil
theorem is_N_init : x_Is y_N_init m_N_init := x_is_code q1_50
def Y_N_init : XMeth := x_do 1 b_N_init
theorem sn_N_init : x_Snd y_N_init m_N_init Y_N_init := x_snd_of (by decide) rfl rfl is_N_init k_N_init
theorem ym_N_init : x_Ymn Y_N_init := x_ymn_of mn_N_init
/- CashLink$Journal.<init>(I)V -/
abbrev c_J_init : ByteArray := prog_5_method_1_code
def y_J_init : MethodName := ⟨"CashLink$Journal", "<init>", "(I)V"⟩
theorem d_J_init_0 : decode c_J_init 0 = .ok (.aload_n 0, 1) := by decide +kernel
theorem d_J_init_1 : decode c_J_init 1 = .ok (.invokespecial 1, 3) := by decide +kernel
theorem d_J_init_4 : decode c_J_init 4 = .ok (.aload_n 0, 1) := by decide +kernel
theorem d_J_init_5 : decode c_J_init 5 = .ok (.new 7, 3) := by decide +kernel
theorem d_J_init_8 : decode c_J_init 8 = .ok (.dup, 1) := by decide +kernel
theorem d_J_init_9 : decode c_J_init 9 = .ok (.invokespecial 9, 3) := by decide +kernel
theorem d_J_init_12 : decode c_J_init 12 = .ok (.putfield 10, 3) := by decide +kernel
theorem d_J_init_15 : decode c_J_init 15 = .ok (.aload_n 0, 1) := by decide +kernel
theorem d_J_init_16 : decode c_J_init 16 = .ok (.iconst 1, 1) := by decide +kernel
theorem d_J_init_17 : decode c_J_init 17 = .ok (.putfield 16, 3) := by decide +kernel
theorem d_J_init_20 : decode c_J_init 20 = .ok (.aload_n 0, 1) := by decide +kernel
theorem d_J_init_21 : decode c_J_init 21 = .ok (.bipush 17, 2) := by decide +kernel
theorem d_J_init_23 : decode c_J_init 23 = .ok (.putfield 20, 3) := by decide +kernel
theorem d_J_init_26 : decode c_J_init 26 = .ok (.aload_n 0, 1) := by decide +kernel
theorem d_J_init_27 : decode c_J_init 27 = .ok (.iload_n 1, 1) := by decide +kernel
theorem d_J_init_28 : decode c_J_init 28 = .ok (.putfield 24, 3) := by decide +kernel
theorem d_J_init_31 : decode c_J_init 31 = .ok (.return_, 1) := by decide +kernel
def m_J_init : XM := ("CashLink$Journal", c_J_init, 2, none, "<init>", [], 4, 80)
def b_J_init : XB := [(0, X_aload 0 1),
  (1, X_obj),
  (4, X_aload 0 1),
  (5, X_new 8 3 xD8),
  (8, X_dup),
  (9, X_invI Y_A_init 0 []),
  (12, X_put x_tR 4 0),
  (15, X_aload 0 1),
  (16, X_push (xv_i 1) 1),
  (17, X_put x_tZ 4 2),
  (20, X_aload 0 1),
  (21, X_push (xv_i 17) 2),
  (23, X_put x_tI 4 4),
  (26, X_aload 0 1),
  (27, X_iload 1 1),
  (28, X_put x_tI 4 1),
  (31, X_vret)]
set_option maxRecDepth 100000 in
theorem k_J_init : x_bok m_J_init b_J_init := by
  unfold b_J_init
  refine x_bok.cons (xs_aload_n d_J_init_0 rfl) ?_
  refine x_bok.cons (xs_obj d_J_init_1 ⟨q1_93, q1_42, q1_43⟩ (by decide)) ?_
  refine x_bok.cons (xs_aload_n d_J_init_4 rfl) ?_
  refine x_bok.cons (xs_new d_J_init_5 xc8 xw8 xt8 q1_94 q1_53 q1_5 xd8 rfl) ?_
  refine x_bok.cons (xs_dup d_J_init_8) ?_
  refine x_bok.cons (xs_invI d_J_init_9 sn_A_init is_A_init ⟨q1_95, q1_55, q1_56, q1_5⟩ (by decide) rfl (by decide) rfl) ?_
  refine x_bok.cons (xs_putF d_J_init_12 xc4 xw4 xt4 xn4 (by decide) q1_96 (Or.inl rfl) rfl rfl rfl rfl x_fitO) ?_
  refine x_bok.cons (xs_aload_n d_J_init_15 rfl) ?_
  refine x_bok.cons (xs_iconst d_J_init_16 (by decide)) ?_
  refine x_bok.cons (xs_put d_J_init_17 xc4 xw4 xt4 xn4 (by decide) q1_98 (Or.inl rfl) rfl rfl x_fitZ) ?_
  refine x_bok.cons (xs_aload_n d_J_init_20 rfl) ?_
  refine x_bok.cons (xs_bipush d_J_init_21 (by decide)) ?_
  refine x_bok.cons (xs_put d_J_init_23 xc4 xw4 xt4 xn4 (by decide) q1_100 (Or.inl rfl) rfl rfl x_fitI) ?_
  refine x_bok.cons (xs_aload_n d_J_init_26 rfl) ?_
  refine x_bok.cons (xs_iload_n d_J_init_27 rfl) ?_
  refine x_bok.cons (xs_putF d_J_init_28 xc4 xw4 xt4 xn4 (by decide) q1_97 (Or.inl rfl) rfl rfl rfl rfl x_fitI) ?_
  refine x_bok.cons (xs_vret d_J_init_31 rfl) ?_
  exact x_bok.nil
set_option maxRecDepth 100000 in
theorem mn_J_init : x_bmn b_J_init := by
  unfold b_J_init
  refine x_bmn.cons (xm_aload) ?_
  refine x_bmn.cons (xm_obj) ?_
  refine x_bmn.cons (xm_aload) ?_
  refine x_bmn.cons (xm_new) ?_
  refine x_bmn.cons (xm_dup) ?_
  refine x_bmn.cons (xm_invI ym_A_init) ?_
  refine x_bmn.cons (xm_put) ?_
  refine x_bmn.cons (xm_aload) ?_
  refine x_bmn.cons (xm_push) ?_
  refine x_bmn.cons (xm_put) ?_
  refine x_bmn.cons (xm_aload) ?_
  refine x_bmn.cons (xm_push) ?_
  refine x_bmn.cons (xm_put) ?_
  refine x_bmn.cons (xm_aload) ?_
  refine x_bmn.cons (xm_iload) ?_
  refine x_bmn.cons (xm_put) ?_
  refine x_bmn.cons (xm_vret) ?_
  exact x_bmn.nil
theorem is_J_init : x_Is y_J_init m_J_init := x_is_code q1_92
def Y_J_init : XMeth := x_do 2 b_J_init
theorem sn_J_init : x_Snd y_J_init m_J_init Y_J_init := x_snd_of (by decide) rfl rfl is_J_init k_J_init
theorem ym_J_init : x_Ymn Y_J_init := x_ymn_of mn_J_init
/- CashLink$Bank.<init>(LCashLink$Network;)V -/
abbrev c_B_init : ByteArray := prog_2_method_1_code
def y_B_init : MethodName := ⟨"CashLink$Bank", "<init>", "(LCashLink$Network;)V"⟩
theorem d_B_init_0 : decode c_B_init 0 = .ok (.aload_n 0, 1) := by decide +kernel
theorem d_B_init_1 : decode c_B_init 1 = .ok (.invokespecial 3, 3) := by decide +kernel
theorem d_B_init_4 : decode c_B_init 4 = .ok (.aload_n 0, 1) := by decide +kernel
theorem d_B_init_5 : decode c_B_init 5 = .ok (.new 9, 3) := by decide +kernel
theorem d_B_init_8 : decode c_B_init 8 = .ok (.dup, 1) := by decide +kernel
theorem d_B_init_9 : decode c_B_init 9 = .ok (.sipush 4000, 3) := by decide +kernel
theorem d_B_init_12 : decode c_B_init 12 = .ok (.invokespecial 13, 3) := by decide +kernel
theorem d_B_init_15 : decode c_B_init 15 = .ok (.putfield 16, 3) := by decide +kernel
theorem d_B_init_18 : decode c_B_init 18 = .ok (.aload_n 0, 1) := by decide +kernel
theorem d_B_init_19 : decode c_B_init 19 = .ok (.sipush 200, 3) := by decide +kernel
theorem d_B_init_22 : decode c_B_init 22 = .ok (.newarray .int, 2) := by decide +kernel
theorem d_B_init_24 : decode c_B_init 24 = .ok (.putfield 20, 3) := by decide +kernel
theorem d_B_init_27 : decode c_B_init 27 = .ok (.aload_n 0, 1) := by decide +kernel
theorem d_B_init_28 : decode c_B_init 28 = .ok (.aload_n 1, 1) := by decide +kernel
theorem d_B_init_29 : decode c_B_init 29 = .ok (.putfield 24, 3) := by decide +kernel
theorem d_B_init_32 : decode c_B_init 32 = .ok (.iconst 0, 1) := by decide +kernel
theorem d_B_init_33 : decode c_B_init 33 = .ok (.istore_n 2, 1) := by decide +kernel
theorem d_B_init_34 : decode c_B_init 34 = .ok (.iload_n 2, 1) := by decide +kernel
theorem d_B_init_35 : decode c_B_init 35 = .ok (.sipush 200, 3) := by decide +kernel
theorem d_B_init_38 : decode c_B_init 38 = .ok (.if_icmp .ge 18, 3) := by decide +kernel
theorem d_B_init_41 : decode c_B_init 41 = .ok (.aload_n 0, 1) := by decide +kernel
theorem d_B_init_42 : decode c_B_init 42 = .ok (.getfield 20, 3) := by decide +kernel
theorem d_B_init_45 : decode c_B_init 45 = .ok (.iload_n 2, 1) := by decide +kernel
theorem d_B_init_46 : decode c_B_init 46 = .ok (.sipush 500, 3) := by decide +kernel
theorem d_B_init_49 : decode c_B_init 49 = .ok (.iastore, 1) := by decide +kernel
theorem d_B_init_50 : decode c_B_init 50 = .ok (.iinc 2 1, 3) := by decide +kernel
theorem d_B_init_53 : decode c_B_init 53 = .ok (.goto (-19), 3) := by decide +kernel
theorem d_B_init_56 : decode c_B_init 56 = .ok (.return_, 1) := by decide +kernel
def m_B_init : XM := ("CashLink$Bank", c_B_init, 3, none, "<init>", [], 5, 101)
def b_B_init : XB := [(0, X_aload 0 1),
  (1, X_obj),
  (4, X_aload 0 1),
  (5, X_new 4 5 xD4),
  (8, X_dup),
  (9, X_push (xv_i 4000) 3),
  (12, X_invI Y_J_init 1 []),
  (15, X_put x_tR 2 1),
  (18, X_aload 0 1),
  (19, X_push (xv_i 200) 3),
  (22, X_newa 0 4 (.inl (fun _ => 0)) 2),
  (24, X_put x_tR 2 2),
  (27, X_aload 0 1),
  (28, X_aload 1 1),
  (29, X_put x_tR 2 0),
  (32, X_push (xv_i 0) 1),
  (33, X_istore 2 1),
  (34, X_iload 2 1),
  (35, X_push (xv_i 200) 3),
  (38, X_icmp (fun x y => y ≤ x) 56),
  (41, X_aload 0 1),
  (42, X_get 2 2),
  (45, X_iload 2 1),
  (46, X_push (xv_i 500) 3),
  (49, X_ast 0 (fun x => x)),
  (50, X_iinc 2 1),
  (53, X_goto 34),
  (56, X_vret)]
set_option maxRecDepth 100000 in
theorem k_B_init : x_bok m_B_init b_B_init := by
  unfold b_B_init
  refine x_bok.cons (xs_aload_n d_B_init_0 rfl) ?_
  refine x_bok.cons (xs_obj d_B_init_1 ⟨q1_87, q1_42, q1_43⟩ (by decide)) ?_
  refine x_bok.cons (xs_aload_n d_B_init_4 rfl) ?_
  refine x_bok.cons (xs_new d_B_init_5 xc4 xw4 xt4 q1_88 q1_89 q1_7 xd4 rfl) ?_
  refine x_bok.cons (xs_dup d_B_init_8) ?_
  refine x_bok.cons (xs_sipush d_B_init_9 (by decide)) ?_
  refine x_bok.cons (xs_invI d_B_init_12 sn_J_init is_J_init ⟨q1_90, q1_91, q1_92, q1_7⟩ (by decide) rfl (by decide) rfl) ?_
  refine x_bok.cons (xs_putF d_B_init_15 xc2 xw2 xt2 xn2 (by decide) q1_114 (Or.inl rfl) rfl rfl rfl rfl x_fitO) ?_
  refine x_bok.cons (xs_aload_n d_B_init_18 rfl) ?_
  refine x_bok.cons (xs_sipush d_B_init_19 (by decide)) ?_
  refine x_bok.cons (xs_newa (ty := .int) d_B_init_22 rfl rfl q1_112 (fun _ _ _ => rfl) x_zint) ?_
  refine x_bok.cons (xs_putF d_B_init_24 xc2 xw2 xt2 xn2 (by decide) q1_116 (Or.inl rfl) rfl rfl rfl rfl x_fitA) ?_
  refine x_bok.cons (xs_aload_n d_B_init_27 rfl) ?_
  refine x_bok.cons (xs_aload_n d_B_init_28 rfl) ?_
  refine x_bok.cons (xs_putF d_B_init_29 xc2 xw2 xt2 xn2 (by decide) q1_113 (Or.inl rfl) rfl rfl rfl rfl x_fitO) ?_
  refine x_bok.cons (xs_iconst d_B_init_32 (by decide)) ?_
  refine x_bok.cons (xs_istore_n d_B_init_33 rfl (by decide)) ?_
  refine x_bok.cons (xs_iload_n d_B_init_34 rfl) ?_
  refine x_bok.cons (xs_sipush d_B_init_35 (by decide)) ?_
  refine x_bok.cons (xs_icmp_ge d_B_init_38 (by decide)) ?_
  refine x_bok.cons (xs_aload_n d_B_init_41 rfl) ?_
  refine x_bok.cons (xs_get d_B_init_42 xc2 xw2 (by decide) q1_116 (Or.inl rfl)) ?_
  refine x_bok.cons (xs_iload_n d_B_init_45 rfl) ?_
  refine x_bok.cons (xs_sipush d_B_init_46 (by decide)) ?_
  refine x_bok.cons (xs_iast d_B_init_49 rfl) ?_
  refine x_bok.cons (xs_iinc d_B_init_50 (by decide) (by decide)) ?_
  refine x_bok.cons (xs_goto d_B_init_53 (by decide)) ?_
  refine x_bok.cons (xs_vret d_B_init_56 rfl) ?_
  exact x_bok.nil
set_option maxRecDepth 100000 in
theorem mn_B_init : x_bmn b_B_init := by
  unfold b_B_init
  refine x_bmn.cons (xm_aload) ?_
  refine x_bmn.cons (xm_obj) ?_
  refine x_bmn.cons (xm_aload) ?_
  refine x_bmn.cons (xm_new) ?_
  refine x_bmn.cons (xm_dup) ?_
  refine x_bmn.cons (xm_push) ?_
  refine x_bmn.cons (xm_invI ym_J_init) ?_
  refine x_bmn.cons (xm_put) ?_
  refine x_bmn.cons (xm_aload) ?_
  refine x_bmn.cons (xm_push) ?_
  refine x_bmn.cons (xm_newa) ?_
  refine x_bmn.cons (xm_put) ?_
  refine x_bmn.cons (xm_aload) ?_
  refine x_bmn.cons (xm_aload) ?_
  refine x_bmn.cons (xm_put) ?_
  refine x_bmn.cons (xm_push) ?_
  refine x_bmn.cons (xm_istore) ?_
  refine x_bmn.cons (xm_iload) ?_
  refine x_bmn.cons (xm_push) ?_
  refine x_bmn.cons (xm_icmp) ?_
  refine x_bmn.cons (xm_aload) ?_
  refine x_bmn.cons (xm_get) ?_
  refine x_bmn.cons (xm_iload) ?_
  refine x_bmn.cons (xm_push) ?_
  refine x_bmn.cons (xm_ast) ?_
  refine x_bmn.cons (xm_iinc) ?_
  refine x_bmn.cons (xm_goto) ?_
  refine x_bmn.cons (xm_vret) ?_
  exact x_bmn.nil
theorem is_B_init : x_Is y_B_init m_B_init := x_is_code q1_86
def Y_B_init : XMeth := x_do 3 b_B_init
theorem sn_B_init : x_Snd y_B_init m_B_init Y_B_init := x_snd_of (by decide) rfl rfl is_B_init k_B_init
theorem ym_B_init : x_Ymn Y_B_init := x_ymn_of mn_B_init
/- CashLink$Dispenser.<init>()V -/
abbrev c_D_init : ByteArray := prog_3_method_1_code
def y_D_init : MethodName := ⟨"CashLink$Dispenser", "<init>", "()V"⟩
theorem d_D_init_0 : decode c_D_init 0 = .ok (.aload_n 0, 1) := by decide +kernel
theorem d_D_init_1 : decode c_D_init 1 = .ok (.invokespecial 3, 3) := by decide +kernel
theorem d_D_init_4 : decode c_D_init 4 = .ok (.aload_n 0, 1) := by decide +kernel
theorem d_D_init_5 : decode c_D_init 5 = .ok (.iconst 4, 1) := by decide +kernel
theorem d_D_init_6 : decode c_D_init 6 = .ok (.newarray .int, 2) := by decide +kernel
theorem d_D_init_8 : decode c_D_init 8 = .ok (.dup, 1) := by decide +kernel
theorem d_D_init_9 : decode c_D_init 9 = .ok (.iconst 0, 1) := by decide +kernel
theorem d_D_init_10 : decode c_D_init 10 = .ok (.bipush 30, 2) := by decide +kernel
theorem d_D_init_12 : decode c_D_init 12 = .ok (.iastore, 1) := by decide +kernel
theorem d_D_init_13 : decode c_D_init 13 = .ok (.dup, 1) := by decide +kernel
theorem d_D_init_14 : decode c_D_init 14 = .ok (.iconst 1, 1) := by decide +kernel
theorem d_D_init_15 : decode c_D_init 15 = .ok (.bipush 30, 2) := by decide +kernel
theorem d_D_init_17 : decode c_D_init 17 = .ok (.iastore, 1) := by decide +kernel
theorem d_D_init_18 : decode c_D_init 18 = .ok (.dup, 1) := by decide +kernel
theorem d_D_init_19 : decode c_D_init 19 = .ok (.iconst 2, 1) := by decide +kernel
theorem d_D_init_20 : decode c_D_init 20 = .ok (.bipush 30, 2) := by decide +kernel
theorem d_D_init_22 : decode c_D_init 22 = .ok (.iastore, 1) := by decide +kernel
theorem d_D_init_23 : decode c_D_init 23 = .ok (.dup, 1) := by decide +kernel
theorem d_D_init_24 : decode c_D_init 24 = .ok (.iconst 3, 1) := by decide +kernel
theorem d_D_init_25 : decode c_D_init 25 = .ok (.bipush 30, 2) := by decide +kernel
theorem d_D_init_27 : decode c_D_init 27 = .ok (.iastore, 1) := by decide +kernel
theorem d_D_init_28 : decode c_D_init 28 = .ok (.putfield 9, 3) := by decide +kernel
theorem d_D_init_31 : decode c_D_init 31 = .ok (.aload_n 0, 1) := by decide +kernel
theorem d_D_init_32 : decode c_D_init 32 = .ok (.bipush 41, 2) := by decide +kernel
theorem d_D_init_34 : decode c_D_init 34 = .ok (.putfield 15, 3) := by decide +kernel
theorem d_D_init_37 : decode c_D_init 37 = .ok (.return_, 1) := by decide +kernel
def m_D_init : XM := ("CashLink$Dispenser", c_D_init, 1, none, "<init>", [], 1, 20)
def b_D_init : XB := [(0, X_aload 0 1),
  (1, X_obj),
  (4, X_aload 0 1),
  (5, X_push (xv_i 4) 1),
  (6, X_newa 0 4 (.inl (fun _ => 0)) 2),
  (8, X_dup),
  (9, X_push (xv_i 0) 1),
  (10, X_push (xv_i 30) 2),
  (12, X_ast 0 (fun x => x)),
  (13, X_dup),
  (14, X_push (xv_i 1) 1),
  (15, X_push (xv_i 30) 2),
  (17, X_ast 0 (fun x => x)),
  (18, X_dup),
  (19, X_push (xv_i 2) 1),
  (20, X_push (xv_i 30) 2),
  (22, X_ast 0 (fun x => x)),
  (23, X_dup),
  (24, X_push (xv_i 3) 1),
  (25, X_push (xv_i 30) 2),
  (27, X_ast 0 (fun x => x)),
  (28, X_put x_tR 5 0),
  (31, X_aload 0 1),
  (32, X_push (xv_i 41) 2),
  (34, X_put x_tI 5 1),
  (37, X_vret)]
set_option maxRecDepth 100000 in
theorem k_D_init : x_bok m_D_init b_D_init := by
  unfold b_D_init
  refine x_bok.cons (xs_aload_n d_D_init_0 rfl) ?_
  refine x_bok.cons (xs_obj d_D_init_1 ⟨q1_143, q1_42, q1_43⟩ (by decide)) ?_
  refine x_bok.cons (xs_aload_n d_D_init_4 rfl) ?_
  refine x_bok.cons (xs_iconst d_D_init_5 (by decide)) ?_
  refine x_bok.cons (xs_newa (ty := .int) d_D_init_6 rfl rfl q1_112 (fun _ _ _ => rfl) x_zint) ?_
  refine x_bok.cons (xs_dup d_D_init_8) ?_
  refine x_bok.cons (xs_iconst d_D_init_9 (by decide)) ?_
  refine x_bok.cons (xs_bipush d_D_init_10 (by decide)) ?_
  refine x_bok.cons (xs_iast d_D_init_12 rfl) ?_
  refine x_bok.cons (xs_dup d_D_init_13) ?_
  refine x_bok.cons (xs_iconst d_D_init_14 (by decide)) ?_
  refine x_bok.cons (xs_bipush d_D_init_15 (by decide)) ?_
  refine x_bok.cons (xs_iast d_D_init_17 rfl) ?_
  refine x_bok.cons (xs_dup d_D_init_18) ?_
  refine x_bok.cons (xs_iconst d_D_init_19 (by decide)) ?_
  refine x_bok.cons (xs_bipush d_D_init_20 (by decide)) ?_
  refine x_bok.cons (xs_iast d_D_init_22 rfl) ?_
  refine x_bok.cons (xs_dup d_D_init_23) ?_
  refine x_bok.cons (xs_iconst d_D_init_24 (by decide)) ?_
  refine x_bok.cons (xs_bipush d_D_init_25 (by decide)) ?_
  refine x_bok.cons (xs_iast d_D_init_27 rfl) ?_
  refine x_bok.cons (xs_putF d_D_init_28 xc5 xw5 xt5 xn5 (by decide) q1_144 (Or.inl rfl) rfl rfl rfl rfl x_fitA) ?_
  refine x_bok.cons (xs_aload_n d_D_init_31 rfl) ?_
  refine x_bok.cons (xs_bipush d_D_init_32 (by decide)) ?_
  refine x_bok.cons (xs_put d_D_init_34 xc5 xw5 xt5 xn5 (by decide) q1_145 (Or.inl rfl) rfl rfl x_fitI) ?_
  refine x_bok.cons (xs_vret d_D_init_37 rfl) ?_
  exact x_bok.nil
set_option maxRecDepth 100000 in
theorem mn_D_init : x_bmn b_D_init := by
  unfold b_D_init
  refine x_bmn.cons (xm_aload) ?_
  refine x_bmn.cons (xm_obj) ?_
  refine x_bmn.cons (xm_aload) ?_
  refine x_bmn.cons (xm_push) ?_
  refine x_bmn.cons (xm_newa) ?_
  refine x_bmn.cons (xm_dup) ?_
  refine x_bmn.cons (xm_push) ?_
  refine x_bmn.cons (xm_push) ?_
  refine x_bmn.cons (xm_ast) ?_
  refine x_bmn.cons (xm_dup) ?_
  refine x_bmn.cons (xm_push) ?_
  refine x_bmn.cons (xm_push) ?_
  refine x_bmn.cons (xm_ast) ?_
  refine x_bmn.cons (xm_dup) ?_
  refine x_bmn.cons (xm_push) ?_
  refine x_bmn.cons (xm_push) ?_
  refine x_bmn.cons (xm_ast) ?_
  refine x_bmn.cons (xm_dup) ?_
  refine x_bmn.cons (xm_push) ?_
  refine x_bmn.cons (xm_push) ?_
  refine x_bmn.cons (xm_ast) ?_
  refine x_bmn.cons (xm_put) ?_
  refine x_bmn.cons (xm_aload) ?_
  refine x_bmn.cons (xm_push) ?_
  refine x_bmn.cons (xm_put) ?_
  refine x_bmn.cons (xm_vret) ?_
  exact x_bmn.nil
theorem is_D_init : x_Is y_D_init m_D_init := x_is_code q1_142
def Y_D_init : XMeth := x_do 1 b_D_init
theorem sn_D_init : x_Snd y_D_init m_D_init Y_D_init := x_snd_of (by decide) rfl rfl is_D_init k_D_init
theorem ym_D_init : x_Ymn Y_D_init := x_ymn_of mn_D_init
/- CashLink$Machine.<init>(ILCashLink$Network;[I)V -/
abbrev c_M_init : ByteArray := prog_6_method_1_code
def y_M_init : MethodName := ⟨"CashLink$Machine", "<init>", "(ILCashLink$Network;[I)V"⟩
theorem d_M_init_0 : decode c_M_init 0 = .ok (.aload_n 0, 1) := by decide +kernel
theorem d_M_init_1 : decode c_M_init 1 = .ok (.invokespecial 1, 3) := by decide +kernel
theorem d_M_init_4 : decode c_M_init 4 = .ok (.aload_n 0, 1) := by decide +kernel
theorem d_M_init_5 : decode c_M_init 5 = .ok (.new 7, 3) := by decide +kernel
theorem d_M_init_8 : decode c_M_init 8 = .ok (.dup, 1) := by decide +kernel
theorem d_M_init_9 : decode c_M_init 9 = .ok (.sipush 1200, 3) := by decide +kernel
theorem d_M_init_12 : decode c_M_init 12 = .ok (.invokespecial 11, 3) := by decide +kernel
theorem d_M_init_15 : decode c_M_init 15 = .ok (.putfield 14, 3) := by decide +kernel
theorem d_M_init_18 : decode c_M_init 18 = .ok (.aload_n 0, 1) := by decide +kernel
theorem d_M_init_19 : decode c_M_init 19 = .ok (.new 18, 3) := by decide +kernel
theorem d_M_init_22 : decode c_M_init 22 = .ok (.dup, 1) := by decide +kernel
theorem d_M_init_23 : decode c_M_init 23 = .ok (.invokespecial 20, 3) := by decide +kernel
theorem d_M_init_26 : decode c_M_init 26 = .ok (.putfield 21, 3) := by decide +kernel
theorem d_M_init_29 : decode c_M_init 29 = .ok (.aload_n 0, 1) := by decide +kernel
theorem d_M_init_30 : decode c_M_init 30 = .ok (.getstatic 25, 3) := by decide +kernel
theorem d_M_init_33 : decode c_M_init 33 = .ok (.putfield 31, 3) := by decide +kernel
theorem d_M_init_36 : decode c_M_init 36 = .ok (.aload_n 0, 1) := by decide +kernel
theorem d_M_init_37 : decode c_M_init 37 = .ok (.new 34, 3) := by decide +kernel
theorem d_M_init_40 : decode c_M_init 40 = .ok (.dup, 1) := by decide +kernel
theorem d_M_init_41 : decode c_M_init 41 = .ok (.invokespecial 36, 3) := by decide +kernel
theorem d_M_init_44 : decode c_M_init 44 = .ok (.putfield 37, 3) := by decide +kernel
theorem d_M_init_47 : decode c_M_init 47 = .ok (.aload_n 0, 1) := by decide +kernel
theorem d_M_init_48 : decode c_M_init 48 = .ok (.iload_n 1, 1) := by decide +kernel
theorem d_M_init_49 : decode c_M_init 49 = .ok (.putfield 41, 3) := by decide +kernel
theorem d_M_init_52 : decode c_M_init 52 = .ok (.aload_n 0, 1) := by decide +kernel
theorem d_M_init_53 : decode c_M_init 53 = .ok (.aload_n 2, 1) := by decide +kernel
theorem d_M_init_54 : decode c_M_init 54 = .ok (.putfield 45, 3) := by decide +kernel
theorem d_M_init_57 : decode c_M_init 57 = .ok (.aload_n 0, 1) := by decide +kernel
theorem d_M_init_58 : decode c_M_init 58 = .ok (.aload_n 3, 1) := by decide +kernel
theorem d_M_init_59 : decode c_M_init 59 = .ok (.putfield 49, 3) := by decide +kernel
theorem d_M_init_62 : decode c_M_init 62 = .ok (.return_, 1) := by decide +kernel
def m_M_init : XM := ("CashLink$Machine", c_M_init, 4, none, "<init>", [], 5, 101)
def b_M_init : XB := [(0, X_aload 0 1),
  (1, X_obj),
  (4, X_aload 0 1),
  (5, X_new 4 5 xD4),
  (8, X_dup),
  (9, X_push (xv_i 1200) 3),
  (12, X_invI Y_J_init 1 []),
  (15, X_put x_tR 3 3),
  (18, X_aload 0 1),
  (19, X_new 5 5 xD5),
  (22, X_dup),
  (23, X_invI Y_D_init 0 []),
  (26, X_put x_tR 3 4),
  (29, X_aload 0 1),
  (30, X_push (xv_r 49 0) 3),
  (33, X_put x_tR 3 5),
  (36, X_aload 0 1),
  (37, X_new 8 3 xD8),
  (40, X_dup),
  (41, X_invI Y_A_init 0 []),
  (44, X_put x_tR 3 10),
  (47, X_aload 0 1),
  (48, X_iload 1 1),
  (49, X_put x_tI 3 0),
  (52, X_aload 0 1),
  (53, X_aload 2 1),
  (54, X_put x_tR 3 1),
  (57, X_aload 0 1),
  (58, X_aload 3 1),
  (59, X_put x_tR 3 2),
  (62, X_vret)]
set_option maxRecDepth 100000 in
theorem k_M_init : x_bok m_M_init b_M_init := by
  unfold b_M_init
  refine x_bok.cons (xs_aload_n d_M_init_0 rfl) ?_
  refine x_bok.cons (xs_obj d_M_init_1 ⟨q1_135, q1_42, q1_43⟩ (by decide)) ?_
  refine x_bok.cons (xs_aload_n d_M_init_4 rfl) ?_
  refine x_bok.cons (xs_new d_M_init_5 xc4 xw4 xt4 q1_136 q1_89 q1_7 xd4 rfl) ?_
  refine x_bok.cons (xs_dup d_M_init_8) ?_
  refine x_bok.cons (xs_sipush d_M_init_9 (by decide)) ?_
  refine x_bok.cons (xs_invI d_M_init_12 sn_J_init is_J_init ⟨q1_137, q1_91, q1_92, q1_7⟩ (by decide) rfl (by decide) rfl) ?_
  refine x_bok.cons (xs_putF d_M_init_15 xc3 xw3 xt3 xn3 (by decide) q1_168 (Or.inl rfl) rfl rfl rfl rfl x_fitO) ?_
  refine x_bok.cons (xs_aload_n d_M_init_18 rfl) ?_
  refine x_bok.cons (xs_new d_M_init_19 xc5 xw5 xt5 q1_138 q1_139 q1_9 xd5 rfl) ?_
  refine x_bok.cons (xs_dup d_M_init_22) ?_
  refine x_bok.cons (xs_invIN d_M_init_23 sn_D_init is_D_init ⟨q1_140, q1_141, q1_142, q1_9⟩ (by decide) rfl (by decide) rfl) ?_
  refine x_bok.cons (xs_putF d_M_init_26 xc3 xw3 xt3 xn3 (by decide) q1_170 (Or.inl rfl) rfl rfl rfl rfl x_fitO) ?_
  refine x_bok.cons (xs_aload_n d_M_init_29 rfl) ?_
  refine x_bok.cons (xs_gets d_M_init_30 (List.mem_of_getElem? (i := 0) rfl) q1_161 (Or.inl rfl)) ?_
  refine x_bok.cons (xs_put d_M_init_33 xc3 xw3 xt3 xn3 (by decide) q1_172 (Or.inl rfl) rfl rfl x_fitO) ?_
  refine x_bok.cons (xs_aload_n d_M_init_36 rfl) ?_
  refine x_bok.cons (xs_new d_M_init_37 xc8 xw8 xt8 q1_163 q1_53 q1_5 xd8 rfl) ?_
  refine x_bok.cons (xs_dup d_M_init_40) ?_
  refine x_bok.cons (xs_invI d_M_init_41 sn_A_init is_A_init ⟨q1_164, q1_55, q1_56, q1_5⟩ (by decide) rfl (by decide) rfl) ?_
  refine x_bok.cons (xs_putF d_M_init_44 xc3 xw3 xt3 xn3 (by decide) q1_177 (Or.inl rfl) rfl rfl rfl rfl x_fitO) ?_
  refine x_bok.cons (xs_aload_n d_M_init_47 rfl) ?_
  refine x_bok.cons (xs_iload_n d_M_init_48 rfl) ?_
  refine x_bok.cons (xs_putF d_M_init_49 xc3 xw3 xt3 xn3 (by decide) q1_165 (Or.inl rfl) rfl rfl rfl rfl x_fitI) ?_
  refine x_bok.cons (xs_aload_n d_M_init_52 rfl) ?_
  refine x_bok.cons (xs_aload_n d_M_init_53 rfl) ?_
  refine x_bok.cons (xs_putF d_M_init_54 xc3 xw3 xt3 xn3 (by decide) q1_166 (Or.inl rfl) rfl rfl rfl rfl x_fitO) ?_
  refine x_bok.cons (xs_aload_n d_M_init_57 rfl) ?_
  refine x_bok.cons (xs_aload_n d_M_init_58 rfl) ?_
  refine x_bok.cons (xs_putF d_M_init_59 xc3 xw3 xt3 xn3 (by decide) q1_167 (Or.inl rfl) rfl rfl rfl rfl x_fitA) ?_
  refine x_bok.cons (xs_vret d_M_init_62 rfl) ?_
  exact x_bok.nil
set_option maxRecDepth 100000 in
theorem mn_M_init : x_bmn b_M_init := by
  unfold b_M_init
  refine x_bmn.cons (xm_aload) ?_
  refine x_bmn.cons (xm_obj) ?_
  refine x_bmn.cons (xm_aload) ?_
  refine x_bmn.cons (xm_new) ?_
  refine x_bmn.cons (xm_dup) ?_
  refine x_bmn.cons (xm_push) ?_
  refine x_bmn.cons (xm_invI ym_J_init) ?_
  refine x_bmn.cons (xm_put) ?_
  refine x_bmn.cons (xm_aload) ?_
  refine x_bmn.cons (xm_new) ?_
  refine x_bmn.cons (xm_dup) ?_
  refine x_bmn.cons (xm_invI ym_D_init) ?_
  refine x_bmn.cons (xm_put) ?_
  refine x_bmn.cons (xm_aload) ?_
  refine x_bmn.cons (xm_push) ?_
  refine x_bmn.cons (xm_put) ?_
  refine x_bmn.cons (xm_aload) ?_
  refine x_bmn.cons (xm_new) ?_
  refine x_bmn.cons (xm_dup) ?_
  refine x_bmn.cons (xm_invI ym_A_init) ?_
  refine x_bmn.cons (xm_put) ?_
  refine x_bmn.cons (xm_aload) ?_
  refine x_bmn.cons (xm_iload) ?_
  refine x_bmn.cons (xm_put) ?_
  refine x_bmn.cons (xm_aload) ?_
  refine x_bmn.cons (xm_aload) ?_
  refine x_bmn.cons (xm_put) ?_
  refine x_bmn.cons (xm_aload) ?_
  refine x_bmn.cons (xm_aload) ?_
  refine x_bmn.cons (xm_put) ?_
  refine x_bmn.cons (xm_vret) ?_
  exact x_bmn.nil
theorem is_M_init : x_Is y_M_init m_M_init := x_is_code q1_134
def Y_M_init : XMeth := x_do 4 b_M_init
theorem sn_M_init : x_Snd y_M_init m_M_init Y_M_init := x_snd_of (by decide) rfl rfl is_M_init k_M_init
theorem ym_M_init : x_Ymn Y_M_init := x_ymn_of mn_M_init
/- CashLink.<init>()V -/
abbrev c_C_init : ByteArray := prog_1_method_1_code
def y_C_init : MethodName := ⟨"CashLink", "<init>", "()V"⟩
theorem d_C_init_0 : decode c_C_init 0 = .ok (.aload_n 0, 1) := by decide +kernel
theorem d_C_init_1 : decode c_C_init 1 = .ok (.invokespecial 1, 3) := by decide +kernel
theorem d_C_init_4 : decode c_C_init 4 = .ok (.aload_n 0, 1) := by decide +kernel
theorem d_C_init_5 : decode c_C_init 5 = .ok (.iconst 4, 1) := by decide +kernel
theorem d_C_init_6 : decode c_C_init 6 = .ok (.anewarray 9, 3) := by decide +kernel
theorem d_C_init_9 : decode c_C_init 9 = .ok (.putfield 11, 3) := by decide +kernel
theorem d_C_init_12 : decode c_C_init 12 = .ok (.new 15, 3) := by decide +kernel
theorem d_C_init_15 : decode c_C_init 15 = .ok (.dup, 1) := by decide +kernel
theorem d_C_init_16 : decode c_C_init 16 = .ok (.invokespecial 17, 3) := by decide +kernel
theorem d_C_init_19 : decode c_C_init 19 = .ok (.astore_n 1, 1) := by decide +kernel
theorem d_C_init_20 : decode c_C_init 20 = .ok (.sipush 200, 3) := by decide +kernel
theorem d_C_init_23 : decode c_C_init 23 = .ok (.newarray .int, 2) := by decide +kernel
theorem d_C_init_25 : decode c_C_init 25 = .ok (.astore_n 2, 1) := by decide +kernel
theorem d_C_init_26 : decode c_C_init 26 = .ok (.aload_n 0, 1) := by decide +kernel
theorem d_C_init_27 : decode c_C_init 27 = .ok (.aload_n 1, 1) := by decide +kernel
theorem d_C_init_28 : decode c_C_init 28 = .ok (.putfield 18, 3) := by decide +kernel
theorem d_C_init_31 : decode c_C_init 31 = .ok (.aload_n 0, 1) := by decide +kernel
theorem d_C_init_32 : decode c_C_init 32 = .ok (.aload_n 2, 1) := by decide +kernel
theorem d_C_init_33 : decode c_C_init 33 = .ok (.putfield 22, 3) := by decide +kernel
theorem d_C_init_36 : decode c_C_init 36 = .ok (.aload_n 0, 1) := by decide +kernel
theorem d_C_init_37 : decode c_C_init 37 = .ok (.new 26, 3) := by decide +kernel
theorem d_C_init_40 : decode c_C_init 40 = .ok (.dup, 1) := by decide +kernel
theorem d_C_init_41 : decode c_C_init 41 = .ok (.aload_n 1, 1) := by decide +kernel
theorem d_C_init_42 : decode c_C_init 42 = .ok (.invokespecial 28, 3) := by decide +kernel
theorem d_C_init_45 : decode c_C_init 45 = .ok (.putfield 31, 3) := by decide +kernel
theorem d_C_init_48 : decode c_C_init 48 = .ok (.iconst 0, 1) := by decide +kernel
theorem d_C_init_49 : decode c_C_init 49 = .ok (.istore_n 3, 1) := by decide +kernel
theorem d_C_init_50 : decode c_C_init 50 = .ok (.iload_n 3, 1) := by decide +kernel
theorem d_C_init_51 : decode c_C_init 51 = .ok (.iconst 4, 1) := by decide +kernel
theorem d_C_init_52 : decode c_C_init 52 = .ok (.if_icmp .ge 25, 3) := by decide +kernel
theorem d_C_init_55 : decode c_C_init 55 = .ok (.aload_n 0, 1) := by decide +kernel
theorem d_C_init_56 : decode c_C_init 56 = .ok (.getfield 11, 3) := by decide +kernel
theorem d_C_init_59 : decode c_C_init 59 = .ok (.iload_n 3, 1) := by decide +kernel
theorem d_C_init_60 : decode c_C_init 60 = .ok (.new 9, 3) := by decide +kernel
theorem d_C_init_63 : decode c_C_init 63 = .ok (.dup, 1) := by decide +kernel
theorem d_C_init_64 : decode c_C_init 64 = .ok (.iload_n 3, 1) := by decide +kernel
theorem d_C_init_65 : decode c_C_init 65 = .ok (.aload_n 1, 1) := by decide +kernel
theorem d_C_init_66 : decode c_C_init 66 = .ok (.aload_n 2, 1) := by decide +kernel
theorem d_C_init_67 : decode c_C_init 67 = .ok (.invokespecial 35, 3) := by decide +kernel
theorem d_C_init_70 : decode c_C_init 70 = .ok (.aastore, 1) := by decide +kernel
theorem d_C_init_71 : decode c_C_init 71 = .ok (.iinc 3 1, 3) := by decide +kernel
theorem d_C_init_74 : decode c_C_init 74 = .ok (.goto (-24), 3) := by decide +kernel
theorem d_C_init_77 : decode c_C_init 77 = .ok (.return_, 1) := by decide +kernel
def m_C_init : XM := ("CashLink", c_C_init, 4, none, "<init>", [], 6, 124)
def b_C_init : XB := [(0, X_aload 0 1),
  (1, X_obj),
  (4, X_aload 0 1),
  (5, X_push (xv_i 4) 1),
  (6, X_newa 4 4 (.inr (.inr (fun _ => none))) 3),
  (9, X_put x_tR 0 2),
  (12, X_new 1 1 xD1),
  (15, X_dup),
  (16, X_invI Y_N_init 0 []),
  (19, X_astore 1 1),
  (20, X_push (xv_i 200) 3),
  (23, X_newa 0 4 (.inl (fun _ => 0)) 2),
  (25, X_astore 2 1),
  (26, X_aload 0 1),
  (27, X_aload 1 1),
  (28, X_put x_tR 0 0),
  (31, X_aload 0 1),
  (32, X_aload 2 1),
  (33, X_put x_tR 0 3),
  (36, X_aload 0 1),
  (37, X_new 2 5 xD2),
  (40, X_dup),
  (41, X_aload 1 1),
  (42, X_invI Y_B_init 1 []),
  (45, X_put x_tR 0 1),
  (48, X_push (xv_i 0) 1),
  (49, X_istore 3 1),
  (50, X_iload 3 1),
  (51, X_push (xv_i 4) 1),
  (52, X_icmp (fun x y => y ≤ x) 77),
  (55, X_aload 0 1),
  (56, X_get 0 2),
  (59, X_iload 3 1),
  (60, X_new 3 11 xD3),
  (63, X_dup),
  (64, X_iload 3 1),
  (65, X_aload 1 1),
  (66, X_aload 2 1),
  (67, X_invI Y_M_init 3 []),
  (70, X_aast 4 3),
  (71, X_iinc 3 1),
  (74, X_goto 50),
  (77, X_vret)]
set_option maxRecDepth 100000 in
theorem k_C_init : x_bok m_C_init b_C_init := by
  unfold b_C_init
  refine x_bok.cons (xs_aload_n d_C_init_0 rfl) ?_
  refine x_bok.cons (xs_obj d_C_init_1 ⟨q1_41, q1_42, q1_43⟩ (by decide)) ?_
  refine x_bok.cons (xs_aload_n d_C_init_4 rfl) ?_
  refine x_bok.cons (xs_iconst d_C_init_5 (by decide)) ?_
  refine x_bok.cons (xs_anew d_C_init_6 rfl q1_44 q1_45) ?_
  refine x_bok.cons (xs_putF d_C_init_9 xc0 xw0 xt0 xn0 (by decide) q1_203 (Or.inl rfl) rfl rfl rfl rfl x_fitA) ?_
  refine x_bok.cons (xs_new d_C_init_12 xc1 xw1 xt1 q1_46 q1_47 q1_2 xd1 rfl) ?_
  refine x_bok.cons (xs_dup d_C_init_15) ?_
  refine x_bok.cons (xs_invIN d_C_init_16 sn_N_init is_N_init ⟨q1_48, q1_49, q1_50, q1_2⟩ (by decide) rfl (by decide) rfl) ?_
  refine x_bok.cons (xs_astore_n d_C_init_19 rfl (by decide)) ?_
  refine x_bok.cons (xs_sipush d_C_init_20 (by decide)) ?_
  refine x_bok.cons (xs_newa (ty := .int) d_C_init_23 rfl rfl q1_112 (fun _ _ _ => rfl) x_zint) ?_
  refine x_bok.cons (xs_astore_n d_C_init_25 rfl (by decide)) ?_
  refine x_bok.cons (xs_aload_n d_C_init_26 rfl) ?_
  refine x_bok.cons (xs_aload_n d_C_init_27 rfl) ?_
  refine x_bok.cons (xs_putF d_C_init_28 xc0 xw0 xt0 xn0 (by decide) q1_201 (Or.inl rfl) rfl rfl rfl rfl x_fitO) ?_
  refine x_bok.cons (xs_aload_n d_C_init_31 rfl) ?_
  refine x_bok.cons (xs_aload_n d_C_init_32 rfl) ?_
  refine x_bok.cons (xs_putF d_C_init_33 xc0 xw0 xt0 xn0 (by decide) q1_204 (Or.inl rfl) rfl rfl rfl rfl x_fitA) ?_
  refine x_bok.cons (xs_aload_n d_C_init_36 rfl) ?_
  refine x_bok.cons (xs_new d_C_init_37 xc2 xw2 xt2 q1_82 q1_83 q1_6 xd2 rfl) ?_
  refine x_bok.cons (xs_dup d_C_init_40) ?_
  refine x_bok.cons (xs_aload_n d_C_init_41 rfl) ?_
  refine x_bok.cons (xs_invI d_C_init_42 sn_B_init is_B_init ⟨q1_84, q1_85, q1_86, q1_6⟩ (by decide) rfl (by decide) rfl) ?_
  refine x_bok.cons (xs_putF d_C_init_45 xc0 xw0 xt0 xn0 (by decide) q1_202 (Or.inl rfl) rfl rfl rfl rfl x_fitO) ?_
  refine x_bok.cons (xs_iconst d_C_init_48 (by decide)) ?_
  refine x_bok.cons (xs_istore_n d_C_init_49 rfl (by decide)) ?_
  refine x_bok.cons (xs_iload_n d_C_init_50 rfl) ?_
  refine x_bok.cons (xs_iconst d_C_init_51 (by decide)) ?_
  refine x_bok.cons (xs_icmp_ge d_C_init_52 (by decide)) ?_
  refine x_bok.cons (xs_aload_n d_C_init_55 rfl) ?_
  refine x_bok.cons (xs_get d_C_init_56 xc0 xw0 (by decide) q1_203 (Or.inl rfl)) ?_
  refine x_bok.cons (xs_iload_n d_C_init_59 rfl) ?_
  refine x_bok.cons (xs_new d_C_init_60 xc3 xw3 xt3 q1_44 q1_131 q1_8 xd3 rfl) ?_
  refine x_bok.cons (xs_dup d_C_init_63) ?_
  refine x_bok.cons (xs_iload_n d_C_init_64 rfl) ?_
  refine x_bok.cons (xs_aload_n d_C_init_65 rfl) ?_
  refine x_bok.cons (xs_aload_n d_C_init_66 rfl) ?_
  refine x_bok.cons (xs_invI d_C_init_67 sn_M_init is_M_init ⟨q1_132, q1_133, q1_134, q1_8⟩ (by decide) rfl (by decide) rfl) ?_
  refine x_bok.cons (xs_aast d_C_init_70 rfl xc3) ?_
  refine x_bok.cons (xs_iinc d_C_init_71 (by decide) (by decide)) ?_
  refine x_bok.cons (xs_goto d_C_init_74 (by decide)) ?_
  refine x_bok.cons (xs_vret d_C_init_77 rfl) ?_
  exact x_bok.nil
set_option maxRecDepth 100000 in
theorem mn_C_init : x_bmn b_C_init := by
  unfold b_C_init
  refine x_bmn.cons (xm_aload) ?_
  refine x_bmn.cons (xm_obj) ?_
  refine x_bmn.cons (xm_aload) ?_
  refine x_bmn.cons (xm_push) ?_
  refine x_bmn.cons (xm_newa) ?_
  refine x_bmn.cons (xm_put) ?_
  refine x_bmn.cons (xm_new) ?_
  refine x_bmn.cons (xm_dup) ?_
  refine x_bmn.cons (xm_invI ym_N_init) ?_
  refine x_bmn.cons (xm_astore) ?_
  refine x_bmn.cons (xm_push) ?_
  refine x_bmn.cons (xm_newa) ?_
  refine x_bmn.cons (xm_astore) ?_
  refine x_bmn.cons (xm_aload) ?_
  refine x_bmn.cons (xm_aload) ?_
  refine x_bmn.cons (xm_put) ?_
  refine x_bmn.cons (xm_aload) ?_
  refine x_bmn.cons (xm_aload) ?_
  refine x_bmn.cons (xm_put) ?_
  refine x_bmn.cons (xm_aload) ?_
  refine x_bmn.cons (xm_new) ?_
  refine x_bmn.cons (xm_dup) ?_
  refine x_bmn.cons (xm_aload) ?_
  refine x_bmn.cons (xm_invI ym_B_init) ?_
  refine x_bmn.cons (xm_put) ?_
  refine x_bmn.cons (xm_push) ?_
  refine x_bmn.cons (xm_istore) ?_
  refine x_bmn.cons (xm_iload) ?_
  refine x_bmn.cons (xm_push) ?_
  refine x_bmn.cons (xm_icmp) ?_
  refine x_bmn.cons (xm_aload) ?_
  refine x_bmn.cons (xm_get) ?_
  refine x_bmn.cons (xm_iload) ?_
  refine x_bmn.cons (xm_new) ?_
  refine x_bmn.cons (xm_dup) ?_
  refine x_bmn.cons (xm_iload) ?_
  refine x_bmn.cons (xm_aload) ?_
  refine x_bmn.cons (xm_aload) ?_
  refine x_bmn.cons (xm_invI ym_M_init) ?_
  refine x_bmn.cons (xm_aast) ?_
  refine x_bmn.cons (xm_iinc) ?_
  refine x_bmn.cons (xm_goto) ?_
  refine x_bmn.cons (xm_vret) ?_
  exact x_bmn.nil
theorem is_C_init : x_Is y_C_init m_C_init := x_is_code q1_40
def Y_C_init : XMeth := x_do 4 b_C_init
theorem sn_C_init : x_Snd y_C_init m_C_init Y_C_init := x_snd_of (by decide) rfl rfl is_C_init k_C_init
theorem ym_C_init : x_Ymn Y_C_init := x_ymn_of mn_C_init
/- CashLink.allow(Z)V -/
abbrev c_C_allow : ByteArray := prog_1_method_26_code
def y_C_allow : MethodName := ⟨"CashLink", "allow", "(Z)V"⟩
theorem d_C_allow_0 : decode c_C_allow 0 = .ok (.iload_n 0, 1) := by decide +kernel
theorem d_C_allow_1 : decode c_C_allow 1 = .ok (.ifCond .ne 13, 3) := by decide +kernel
theorem d_C_allow_4 : decode c_C_allow 4 = .ok (.new 181, 3) := by decide +kernel
theorem d_C_allow_7 : decode c_C_allow 7 = .ok (.dup, 1) := by decide +kernel
theorem d_C_allow_8 : decode c_C_allow 8 = .ok (.ldc 192, 2) := by decide +kernel
theorem d_C_allow_10 : decode c_C_allow 10 = .ok (.invokespecial 185, 3) := by decide +kernel
theorem d_C_allow_13 : decode c_C_allow 13 = .ok (.athrow, 1) := by decide +kernel
theorem d_C_allow_14 : decode c_C_allow 14 = .ok (.return_, 1) := by decide +kernel
def m_C_allow : XM := ("CashLink", c_C_allow, 1, none, "allow", [], 6, 90)
def b_C_allow : XB := [(0, X_iload 0 1),
  (1, X_if (fun x => ¬ x = 0) 14),
  (4, X_tn 11),
  (14, X_vret)]
set_option maxRecDepth 100000 in
theorem k_C_allow : x_bok m_C_allow b_C_allow := by
  unfold b_C_allow
  refine x_bok.cons (xs_iload_n d_C_allow_0 rfl) ?_
  refine x_bok.cons (xs_if_ne d_C_allow_1 (by decide)) ?_
  refine x_bok.cons (xs_tnS (names := ["java/lang/RuntimeException", "java/lang/Exception"]) d_C_allow_4 d_C_allow_7 d_C_allow_8 d_C_allow_10 d_C_allow_13 xc11 rfl (by decide +kernel) (by decide +kernel) (List.mem_of_getElem? (i := 0) rfl) x_exin (by decide +kernel) rfl (by decide)) ?_
  refine x_bok.cons (xs_vret d_C_allow_14 rfl) ?_
  exact x_bok.nil
set_option maxRecDepth 100000 in
theorem mn_C_allow : x_bmn b_C_allow := by
  unfold b_C_allow
  refine x_bmn.cons (xm_iload) ?_
  refine x_bmn.cons (xm_if) ?_
  refine x_bmn.cons (xm_tn) ?_
  refine x_bmn.cons (xm_vret) ?_
  exact x_bmn.nil
theorem is_C_allow : x_Is y_C_allow m_C_allow := x_is_code q1_229
def Y_C_allow : XMeth := x_do 1 b_C_allow
theorem sn_C_allow : x_Snd y_C_allow m_C_allow Y_C_allow := x_snd_of (by decide) rfl rfl is_C_allow k_C_allow
theorem ym_C_allow : x_Ymn Y_C_allow := x_ymn_of mn_C_allow
/- CashLink.machineAt(I)LCashLink$Machine; -/
abbrev c_C_machineAt : ByteArray := prog_1_method_19_code
def y_C_machineAt : MethodName := ⟨"CashLink", "machineAt", "(I)LCashLink$Machine;"⟩
theorem d_C_machineAt_0 : decode c_C_machineAt 0 = .ok (.iload_n 1, 1) := by decide +kernel
theorem d_C_machineAt_1 : decode c_C_machineAt 1 = .ok (.ifCond .lt 12, 3) := by decide +kernel
theorem d_C_machineAt_4 : decode c_C_machineAt 4 = .ok (.iload_n 1, 1) := by decide +kernel
theorem d_C_machineAt_5 : decode c_C_machineAt 5 = .ok (.iconst 4, 1) := by decide +kernel
theorem d_C_machineAt_6 : decode c_C_machineAt 6 = .ok (.if_icmp .ge 7, 3) := by decide +kernel
theorem d_C_machineAt_9 : decode c_C_machineAt 9 = .ok (.iconst 1, 1) := by decide +kernel
theorem d_C_machineAt_10 : decode c_C_machineAt 10 = .ok (.goto 4, 3) := by decide +kernel
theorem d_C_machineAt_13 : decode c_C_machineAt 13 = .ok (.iconst 0, 1) := by decide +kernel
theorem d_C_machineAt_14 : decode c_C_machineAt 14 = .ok (.invokestatic 46, 3) := by decide +kernel
theorem d_C_machineAt_17 : decode c_C_machineAt 17 = .ok (.aload_n 0, 1) := by decide +kernel
theorem d_C_machineAt_18 : decode c_C_machineAt 18 = .ok (.getfield 11, 3) := by decide +kernel
theorem d_C_machineAt_21 : decode c_C_machineAt 21 = .ok (.iload_n 1, 1) := by decide +kernel
theorem d_C_machineAt_22 : decode c_C_machineAt 22 = .ok (.aaload, 1) := by decide +kernel
theorem d_C_machineAt_23 : decode c_C_machineAt 23 = .ok (.areturn, 1) := by decide +kernel
def m_C_machineAt : XM := ("CashLink", c_C_machineAt, 2, (some (.object "CashLink$Machine")), "machineAt", [], 7, 110)
def b_C_machineAt : XB := [(0, X_iload 1 1),
  (1, X_if (fun x => x < 0) 13),
  (4, X_iload 1 1),
  (5, X_push (xv_i 4) 1),
  (6, X_icmp (fun x y => y ≤ x) 13),
  (9, X_push (xv_i 1) 1),
  (10, X_goto 14),
  (13, X_push (xv_i 0) 1),
  (14, X_invS Y_C_allow 1 []),
  (17, X_aload 0 1),
  (18, X_get 0 2),
  (21, X_iload 1 1),
  (22, X_aald 4),
  (23, X_aret)]
set_option maxRecDepth 100000 in
theorem k_C_machineAt : x_bok m_C_machineAt b_C_machineAt := by
  unfold b_C_machineAt
  refine x_bok.cons (xs_iload_n d_C_machineAt_0 rfl) ?_
  refine x_bok.cons (xs_if_lt d_C_machineAt_1 (by decide)) ?_
  refine x_bok.cons (xs_iload_n d_C_machineAt_4 rfl) ?_
  refine x_bok.cons (xs_iconst d_C_machineAt_5 (by decide)) ?_
  refine x_bok.cons (xs_icmp_ge d_C_machineAt_6 (by decide)) ?_
  refine x_bok.cons (xs_iconst d_C_machineAt_9 (by decide)) ?_
  refine x_bok.cons (xs_goto d_C_machineAt_10 (by decide)) ?_
  refine x_bok.cons (xs_iconst d_C_machineAt_13 (by decide)) ?_
  refine x_bok.cons (xs_invS d_C_machineAt_14 sn_C_allow is_C_allow ⟨q1_227, q1_228, q1_1⟩ (by decide) (by decide) rfl) ?_
  refine x_bok.cons (xs_aload_n d_C_machineAt_17 rfl) ?_
  refine x_bok.cons (xs_get d_C_machineAt_18 xc0 xw0 (by decide) q1_203 (Or.inl rfl)) ?_
  refine x_bok.cons (xs_iload_n d_C_machineAt_21 rfl) ?_
  refine x_bok.cons (xs_aald d_C_machineAt_22 rfl) ?_
  refine x_bok.cons (xs_aret d_C_machineAt_23 rfl (by first | exact Or.inl ⟨_, rfl⟩ | exact Or.inr ⟨_, rfl⟩)) ?_
  exact x_bok.nil
set_option maxRecDepth 100000 in
theorem mn_C_machineAt : x_bmn b_C_machineAt := by
  unfold b_C_machineAt
  refine x_bmn.cons (xm_iload) ?_
  refine x_bmn.cons (xm_if) ?_
  refine x_bmn.cons (xm_iload) ?_
  refine x_bmn.cons (xm_push) ?_
  refine x_bmn.cons (xm_icmp) ?_
  refine x_bmn.cons (xm_push) ?_
  refine x_bmn.cons (xm_goto) ?_
  refine x_bmn.cons (xm_push) ?_
  refine x_bmn.cons (xm_invS ym_C_allow) ?_
  refine x_bmn.cons (xm_aload) ?_
  refine x_bmn.cons (xm_get) ?_
  refine x_bmn.cons (xm_iload) ?_
  refine x_bmn.cons (xm_aald) ?_
  refine x_bmn.cons (xm_aret) ?_
  exact x_bmn.nil
theorem is_C_machineAt : x_Is y_C_machineAt m_C_machineAt := x_is_code q1_226
def Y_C_machineAt : XMeth := x_do 2 b_C_machineAt
theorem sn_C_machineAt : x_Snd y_C_machineAt m_C_machineAt Y_C_machineAt := x_snd_of (by decide) rfl rfl is_C_machineAt k_C_machineAt
theorem ym_C_machineAt : x_Ymn Y_C_machineAt := x_ymn_of mn_C_machineAt
/- CashLink.isAccount(I)Z -/
abbrev c_C_isAccount : ByteArray := prog_1_method_24_code
def y_C_isAccount : MethodName := ⟨"CashLink", "isAccount", "(I)Z"⟩
theorem d_C_isAccount_0 : decode c_C_isAccount 0 = .ok (.iload_n 0, 1) := by decide +kernel
theorem d_C_isAccount_1 : decode c_C_isAccount 1 = .ok (.ifCond .lt 14, 3) := by decide +kernel
theorem d_C_isAccount_4 : decode c_C_isAccount 4 = .ok (.iload_n 0, 1) := by decide +kernel
theorem d_C_isAccount_5 : decode c_C_isAccount 5 = .ok (.sipush 200, 3) := by decide +kernel
theorem d_C_isAccount_8 : decode c_C_isAccount 8 = .ok (.if_icmp .ge 7, 3) := by decide +kernel
theorem d_C_isAccount_11 : decode c_C_isAccount 11 = .ok (.iconst 1, 1) := by decide +kernel
theorem d_C_isAccount_12 : decode c_C_isAccount 12 = .ok (.goto 4, 3) := by decide +kernel
theorem d_C_isAccount_15 : decode c_C_isAccount 15 = .ok (.iconst 0, 1) := by decide +kernel
theorem d_C_isAccount_16 : decode c_C_isAccount 16 = .ok (.ireturn, 1) := by decide +kernel
def m_C_isAccount : XM := ("CashLink", c_C_isAccount, 1, (some .boolean), "isAccount", [], 0, 0)
def b_C_isAccount : XB := [(0, X_iload 0 1),
  (1, X_if (fun x => x < 0) 15),
  (4, X_iload 0 1),
  (5, X_push (xv_i 200) 3),
  (8, X_icmp (fun x y => y ≤ x) 15),
  (11, X_push (xv_i 1) 1),
  (12, X_goto 16),
  (15, X_push (xv_i 0) 1),
  (16, X_zret)]
set_option maxRecDepth 100000 in
theorem k_C_isAccount : x_bok m_C_isAccount b_C_isAccount := by
  unfold b_C_isAccount
  refine x_bok.cons (xs_iload_n d_C_isAccount_0 rfl) ?_
  refine x_bok.cons (xs_if_lt d_C_isAccount_1 (by decide)) ?_
  refine x_bok.cons (xs_iload_n d_C_isAccount_4 rfl) ?_
  refine x_bok.cons (xs_sipush d_C_isAccount_5 (by decide)) ?_
  refine x_bok.cons (xs_icmp_ge d_C_isAccount_8 (by decide)) ?_
  refine x_bok.cons (xs_iconst d_C_isAccount_11 (by decide)) ?_
  refine x_bok.cons (xs_goto d_C_isAccount_12 (by decide)) ?_
  refine x_bok.cons (xs_iconst d_C_isAccount_15 (by decide)) ?_
  refine x_bok.cons (xs_zret d_C_isAccount_16 rfl) ?_
  exact x_bok.nil
set_option maxRecDepth 100000 in
theorem mn_C_isAccount : x_bmn b_C_isAccount := by
  unfold b_C_isAccount
  refine x_bmn.cons (xm_iload) ?_
  refine x_bmn.cons (xm_if) ?_
  refine x_bmn.cons (xm_iload) ?_
  refine x_bmn.cons (xm_push) ?_
  refine x_bmn.cons (xm_icmp) ?_
  refine x_bmn.cons (xm_push) ?_
  refine x_bmn.cons (xm_goto) ?_
  refine x_bmn.cons (xm_push) ?_
  refine x_bmn.cons (xm_zret) ?_
  exact x_bmn.nil
theorem is_C_isAccount : x_Is y_C_isAccount m_C_isAccount := x_is_code q2_62
def Y_C_isAccount : XMeth := x_do 1 b_C_isAccount
theorem sn_C_isAccount : x_Snd y_C_isAccount m_C_isAccount Y_C_isAccount := x_snd_of (by decide) rfl rfl is_C_isAccount k_C_isAccount
theorem ym_C_isAccount : x_Ymn Y_C_isAccount := x_ymn_of mn_C_isAccount
/- CashLink$Journal.isOn()Z -/
abbrev c_J_isOn : ByteArray := prog_5_method_5_code
def y_J_isOn : MethodName := ⟨"CashLink$Journal", "isOn", "()Z"⟩
theorem d_J_isOn_0 : decode c_J_isOn 0 = .ok (.aload_n 0, 1) := by decide +kernel
theorem d_J_isOn_1 : decode c_J_isOn 1 = .ok (.getfield 16, 3) := by decide +kernel
theorem d_J_isOn_4 : decode c_J_isOn 4 = .ok (.ireturn, 1) := by decide +kernel
def m_J_isOn : XM := ("CashLink$Journal", c_J_isOn, 1, (some .boolean), "isOn", [], 0, 0)
def b_J_isOn : XB := [(0, X_aload 0 1),
  (1, X_get 4 2),
  (4, X_zret)]
set_option maxRecDepth 100000 in
theorem k_J_isOn : x_bok m_J_isOn b_J_isOn := by
  unfold b_J_isOn
  refine x_bok.cons (xs_aload_n d_J_isOn_0 rfl) ?_
  refine x_bok.cons (xs_get d_J_isOn_1 xc4 xw4 (by decide) q1_98 (Or.inl rfl)) ?_
  refine x_bok.cons (xs_zret d_J_isOn_4 rfl) ?_
  exact x_bok.nil
set_option maxRecDepth 100000 in
theorem mn_J_isOn : x_bmn b_J_isOn := by
  unfold b_J_isOn
  refine x_bmn.cons (xm_aload) ?_
  refine x_bmn.cons (xm_get) ?_
  refine x_bmn.cons (xm_zret) ?_
  exact x_bmn.nil
theorem is_J_isOn : x_Is y_J_isOn m_J_isOn := x_is_code q2_70
def Y_J_isOn : XMeth := x_do 1 b_J_isOn
theorem sn_J_isOn : x_Snd y_J_isOn m_J_isOn Y_J_isOn := x_snd_of (by decide) rfl rfl is_J_isOn k_J_isOn
theorem ym_J_isOn : x_Ymn Y_J_isOn := x_ymn_of mn_J_isOn
/- CashLink.demand(Z)V -/
abbrev c_C_demand : ByteArray := prog_1_method_27_code
def y_C_demand : MethodName := ⟨"CashLink", "demand", "(Z)V"⟩
theorem d_C_demand_0 : decode c_C_demand 0 = .ok (.iload_n 0, 1) := by decide +kernel
theorem d_C_demand_1 : decode c_C_demand 1 = .ok (.ifCond .ne 13, 3) := by decide +kernel
theorem d_C_demand_4 : decode c_C_demand 4 = .ok (.new 194, 3) := by decide +kernel
theorem d_C_demand_7 : decode c_C_demand 7 = .ok (.dup, 1) := by decide +kernel
theorem d_C_demand_8 : decode c_C_demand 8 = .ok (.ldc 196, 2) := by decide +kernel
theorem d_C_demand_10 : decode c_C_demand 10 = .ok (.invokespecial 198, 3) := by decide +kernel
theorem d_C_demand_13 : decode c_C_demand 13 = .ok (.athrow, 1) := by decide +kernel
theorem d_C_demand_14 : decode c_C_demand 14 = .ok (.return_, 1) := by decide +kernel
def m_C_demand : XM := ("CashLink", c_C_demand, 1, none, "demand", [], 6, 90)
def b_C_demand : XB := [(0, X_iload 0 1),
  (1, X_if (fun x => ¬ x = 0) 14),
  (4, X_tn 12),
  (14, X_vret)]
set_option maxRecDepth 100000 in
theorem k_C_demand : x_bok m_C_demand b_C_demand := by
  unfold b_C_demand
  refine x_bok.cons (xs_iload_n d_C_demand_0 rfl) ?_
  refine x_bok.cons (xs_if_ne d_C_demand_1 (by decide)) ?_
  refine x_bok.cons (xs_tnS (names := ["java/lang/RuntimeException", "java/lang/Exception"]) d_C_demand_4 d_C_demand_7 d_C_demand_8 d_C_demand_10 d_C_demand_13 xc12 rfl (by decide +kernel) (by decide +kernel) (List.mem_of_getElem? (i := 1) rfl) x_exin (by decide +kernel) rfl (by decide)) ?_
  refine x_bok.cons (xs_vret d_C_demand_14 rfl) ?_
  exact x_bok.nil
set_option maxRecDepth 100000 in
theorem mn_C_demand : x_bmn b_C_demand := by
  unfold b_C_demand
  refine x_bmn.cons (xm_iload) ?_
  refine x_bmn.cons (xm_if) ?_
  refine x_bmn.cons (xm_tn) ?_
  refine x_bmn.cons (xm_vret) ?_
  exact x_bmn.nil
theorem is_C_demand : x_Is y_C_demand m_C_demand := x_is_code q2_73
def Y_C_demand : XMeth := x_do 1 b_C_demand
theorem sn_C_demand : x_Snd y_C_demand m_C_demand Y_C_demand := x_snd_of (by decide) rfl rfl is_C_demand k_C_demand
theorem ym_C_demand : x_Ymn Y_C_demand := x_ymn_of mn_C_demand
