/- jdk/internal/util/Preconditions.checkIndex(IILjava/util/function/BiFunction;)I -/
abbrev c_ZPreconditions_checkIndex : ByteArray := prog_43_method_11_code
def y_ZPreconditions_checkIndex : MethodName := ⟨"jdk/internal/util/Preconditions", "checkIndex", "(IILjava/util/function/BiFunction;)I"⟩
theorem d_ZPreconditions_checkIndex_0 : decode c_ZPreconditions_checkIndex 0 = .ok (.iload_n 0, 1) := by decide +kernel
theorem d_ZPreconditions_checkIndex_1 : decode c_ZPreconditions_checkIndex 1 = .ok (.ifCond .lt 8, 3) := by decide +kernel
theorem d_ZPreconditions_checkIndex_4 : decode c_ZPreconditions_checkIndex 4 = .ok (.iload_n 0, 1) := by decide +kernel
theorem d_ZPreconditions_checkIndex_5 : decode c_ZPreconditions_checkIndex 5 = .ok (.iload_n 1, 1) := by decide +kernel
theorem d_ZPreconditions_checkIndex_6 : decode c_ZPreconditions_checkIndex 6 = .ok (.if_icmp .lt 10, 3) := by decide +kernel
theorem d_ZPreconditions_checkIndex_9 : decode c_ZPreconditions_checkIndex 9 = .ok (.aload_n 2, 1) := by decide +kernel
theorem d_ZPreconditions_checkIndex_10 : decode c_ZPreconditions_checkIndex 10 = .ok (.iload_n 0, 1) := by decide +kernel
theorem d_ZPreconditions_checkIndex_11 : decode c_ZPreconditions_checkIndex 11 = .ok (.iload_n 1, 1) := by decide +kernel
theorem d_ZPreconditions_checkIndex_12 : decode c_ZPreconditions_checkIndex 12 = .ok (.invokestatic 95, 3) := by decide +kernel
theorem d_ZPreconditions_checkIndex_15 : decode c_ZPreconditions_checkIndex 15 = .ok (.athrow, 1) := by decide +kernel
theorem d_ZPreconditions_checkIndex_16 : decode c_ZPreconditions_checkIndex 16 = .ok (.iload_n 0, 1) := by decide +kernel
theorem d_ZPreconditions_checkIndex_17 : decode c_ZPreconditions_checkIndex 17 = .ok (.ireturn, 1) := by decide +kernel
def m_ZPreconditions_checkIndex : XM := ("jdk/internal/util/Preconditions", c_ZPreconditions_checkIndex, 3, (some .int), "checkIndex", [], 0, 0)
def b_ZPreconditions_checkIndex : XB := [(0, X_iload 0 1),
  (1, X_if (fun x => x < 0) 9),
  (4, X_iload 0 1),
  (5, X_iload 1 1),
  (6, X_icmp (fun x y => x < y) 16),
  (9, X_aload 2 1),
  (10, X_iload 0 1),
  (11, X_iload 1 1),
  (12, X_bad),
  (15, X_bad),
  (16, X_iload 0 1),
  (17, X_iret)]
set_option maxRecDepth 100000 in
theorem k_ZPreconditions_checkIndex : x_bok m_ZPreconditions_checkIndex b_ZPreconditions_checkIndex := by
  unfold b_ZPreconditions_checkIndex
  refine x_bok.cons (xs_iload_n d_ZPreconditions_checkIndex_0 rfl) ?_
  refine x_bok.cons (xs_if_lt d_ZPreconditions_checkIndex_1 (by decide)) ?_
  refine x_bok.cons (xs_iload_n d_ZPreconditions_checkIndex_4 rfl) ?_
  refine x_bok.cons (xs_iload_n d_ZPreconditions_checkIndex_5 rfl) ?_
  refine x_bok.cons (xs_icmp_lt d_ZPreconditions_checkIndex_6 (by decide)) ?_
  refine x_bok.cons (xs_aload_n d_ZPreconditions_checkIndex_9 rfl) ?_
  refine x_bok.cons (xs_iload_n d_ZPreconditions_checkIndex_10 rfl) ?_
  refine x_bok.cons (xs_iload_n d_ZPreconditions_checkIndex_11 rfl) ?_
  refine x_bok.cons (xs_bad) ?_
  refine x_bok.cons (xs_bad) ?_
  refine x_bok.cons (xs_iload_n d_ZPreconditions_checkIndex_16 rfl) ?_
  refine x_bok.cons (xs_iret d_ZPreconditions_checkIndex_17 rfl) ?_
  exact x_bok.nil
set_option maxRecDepth 100000 in
theorem mn_ZPreconditions_checkIndex : x_bmn b_ZPreconditions_checkIndex := by
  unfold b_ZPreconditions_checkIndex
  refine x_bmn.cons (xm_iload) ?_
  refine x_bmn.cons (xm_if) ?_
  refine x_bmn.cons (xm_iload) ?_
  refine x_bmn.cons (xm_iload) ?_
  refine x_bmn.cons (xm_icmp) ?_
  refine x_bmn.cons (xm_aload) ?_
  refine x_bmn.cons (xm_iload) ?_
  refine x_bmn.cons (xm_iload) ?_
  refine x_bmn.cons (xm_bad) ?_
  refine x_bmn.cons (xm_bad) ?_
  refine x_bmn.cons (xm_iload) ?_
  refine x_bmn.cons (xm_iret) ?_
  exact x_bmn.nil
theorem is_ZPreconditions_checkIndex : x_Is y_ZPreconditions_checkIndex m_ZPreconditions_checkIndex := x_is_code q3_98
def Y_ZPreconditions_checkIndex : XMeth := x_do 3 b_ZPreconditions_checkIndex
theorem sn_ZPreconditions_checkIndex : x_Snd y_ZPreconditions_checkIndex m_ZPreconditions_checkIndex Y_ZPreconditions_checkIndex := x_snd_of (by decide) rfl rfl is_ZPreconditions_checkIndex k_ZPreconditions_checkIndex
theorem ym_ZPreconditions_checkIndex : x_Ymn Y_ZPreconditions_checkIndex := x_ymn_of mn_ZPreconditions_checkIndex
/- java/util/Objects.checkIndex(II)I -/
abbrev c_ZObjects_checkIndex : ByteArray := prog_39_method_17_code
def y_ZObjects_checkIndex : MethodName := ⟨"java/util/Objects", "checkIndex", "(II)I"⟩
theorem d_ZObjects_checkIndex_0 : decode c_ZObjects_checkIndex 0 = .ok (.iload_n 0, 1) := by decide +kernel
theorem d_ZObjects_checkIndex_1 : decode c_ZObjects_checkIndex 1 = .ok (.iload_n 1, 1) := by decide +kernel
theorem d_ZObjects_checkIndex_2 : decode c_ZObjects_checkIndex 2 = .ok (.aconst_null, 1) := by decide +kernel
theorem d_ZObjects_checkIndex_3 : decode c_ZObjects_checkIndex 3 = .ok (.invokestatic 105, 3) := by decide +kernel
theorem d_ZObjects_checkIndex_6 : decode c_ZObjects_checkIndex 6 = .ok (.ireturn, 1) := by decide +kernel
def m_ZObjects_checkIndex : XM := ("java/util/Objects", c_ZObjects_checkIndex, 2, (some .int), "checkIndex", [], 1, 22)
def b_ZObjects_checkIndex : XB := [(0, X_iload 0 1),
  (1, X_iload 1 1),
  (2, X_push xv_n 1),
  (3, X_invS Y_ZPreconditions_checkIndex 3 []),
  (6, X_iret)]
set_option maxRecDepth 100000 in
theorem k_ZObjects_checkIndex : x_bok m_ZObjects_checkIndex b_ZObjects_checkIndex := by
  unfold b_ZObjects_checkIndex
  refine x_bok.cons (xs_iload_n d_ZObjects_checkIndex_0 rfl) ?_
  refine x_bok.cons (xs_iload_n d_ZObjects_checkIndex_1 rfl) ?_
  refine x_bok.cons (xs_null d_ZObjects_checkIndex_2) ?_
  refine x_bok.cons (xs_invS d_ZObjects_checkIndex_3 sn_ZPreconditions_checkIndex is_ZPreconditions_checkIndex ⟨q3_96, q3_97, q1_29⟩ (by decide) (by decide) rfl) ?_
  refine x_bok.cons (xs_iret d_ZObjects_checkIndex_6 rfl) ?_
  exact x_bok.nil
set_option maxRecDepth 100000 in
theorem mn_ZObjects_checkIndex : x_bmn b_ZObjects_checkIndex := by
  unfold b_ZObjects_checkIndex
  refine x_bmn.cons (xm_iload) ?_
  refine x_bmn.cons (xm_iload) ?_
  refine x_bmn.cons (xm_push) ?_
  refine x_bmn.cons (xm_invS ym_ZPreconditions_checkIndex) ?_
  refine x_bmn.cons (xm_iret) ?_
  exact x_bmn.nil
theorem is_ZObjects_checkIndex : x_Is y_ZObjects_checkIndex m_ZObjects_checkIndex := x_is_code q3_95
def Y_ZObjects_checkIndex : XMeth := x_do 2 b_ZObjects_checkIndex
theorem sn_ZObjects_checkIndex : x_Snd y_ZObjects_checkIndex m_ZObjects_checkIndex Y_ZObjects_checkIndex := x_snd_of (by decide) rfl rfl is_ZObjects_checkIndex k_ZObjects_checkIndex
theorem ym_ZObjects_checkIndex : x_Ymn Y_ZObjects_checkIndex := x_ymn_of mn_ZObjects_checkIndex
/- java/util/ArrayList.elementData(I)Ljava/lang/Object; -/
abbrev c_A_elementData : ByteArray := prog_35_method_18_code
def y_A_elementData : MethodName := ⟨"java/util/ArrayList", "elementData", "(I)Ljava/lang/Object;"⟩
theorem d_A_elementData_0 : decode c_A_elementData 0 = .ok (.aload_n 0, 1) := by decide +kernel
theorem d_A_elementData_1 : decode c_A_elementData 1 = .ok (.getfield 9, 3) := by decide +kernel
theorem d_A_elementData_4 : decode c_A_elementData 4 = .ok (.iload_n 1, 1) := by decide +kernel
theorem d_A_elementData_5 : decode c_A_elementData 5 = .ok (.aaload, 1) := by decide +kernel
theorem d_A_elementData_6 : decode c_A_elementData 6 = .ok (.areturn, 1) := by decide +kernel
def m_A_elementData : XM := ("java/util/ArrayList", c_A_elementData, 2, (some (.object "java/lang/Object")), "elementData", [], 0, 0)
def b_A_elementData : XB := [(0, X_aload 0 1),
  (1, X_get 8 0),
  (4, X_iload 1 1),
  (5, X_aald 3),
  (6, X_aret)]
set_option maxRecDepth 100000 in
theorem k_A_elementData : x_bok m_A_elementData b_A_elementData := by
  unfold b_A_elementData
  refine x_bok.cons (xs_aload_n d_A_elementData_0 rfl) ?_
  refine x_bok.cons (xs_get d_A_elementData_1 xc8 xw8 (by decide) q1_66 (Or.inl rfl)) ?_
  refine x_bok.cons (xs_iload_n d_A_elementData_4 rfl) ?_
  refine x_bok.cons (xs_aald d_A_elementData_5 rfl) ?_
  refine x_bok.cons (xs_aret d_A_elementData_6 rfl (by first | exact Or.inl ⟨_, rfl⟩ | exact Or.inr ⟨_, rfl⟩)) ?_
  exact x_bok.nil
set_option maxRecDepth 100000 in
theorem mn_A_elementData : x_bmn b_A_elementData := by
  unfold b_A_elementData
  refine x_bmn.cons (xm_aload) ?_
  refine x_bmn.cons (xm_get) ?_
  refine x_bmn.cons (xm_iload) ?_
  refine x_bmn.cons (xm_aald) ?_
  refine x_bmn.cons (xm_aret) ?_
  exact x_bmn.nil
theorem is_A_elementData : x_Is y_A_elementData m_A_elementData := x_is_code q3_102
def Y_A_elementData : XMeth := x_do 2 b_A_elementData
theorem sn_A_elementData : x_Snd y_A_elementData m_A_elementData Y_A_elementData := x_snd_of (by decide) rfl rfl is_A_elementData k_A_elementData
theorem ym_A_elementData : x_Ymn Y_A_elementData := x_ymn_of mn_A_elementData
/- java/util/ArrayList.get(I)Ljava/lang/Object; -/
abbrev c_A_get : ByteArray := prog_35_method_20_code
def y_A_get : MethodName := ⟨"java/util/ArrayList", "get", "(I)Ljava/lang/Object;"⟩
theorem d_A_get_0 : decode c_A_get 0 = .ok (.iload_n 1, 1) := by decide +kernel
theorem d_A_get_1 : decode c_A_get 1 = .ok (.aload_n 0, 1) := by decide +kernel
theorem d_A_get_2 : decode c_A_get 2 = .ok (.getfield 48, 3) := by decide +kernel
theorem d_A_get_5 : decode c_A_get 5 = .ok (.invokestatic 118, 3) := by decide +kernel
theorem d_A_get_8 : decode c_A_get 8 = .ok (.pop, 1) := by decide +kernel
theorem d_A_get_9 : decode c_A_get 9 = .ok (.aload_n 0, 1) := by decide +kernel
theorem d_A_get_10 : decode c_A_get 10 = .ok (.iload_n 1, 1) := by decide +kernel
theorem d_A_get_11 : decode c_A_get 11 = .ok (.invokevirtual 123, 3) := by decide +kernel
theorem d_A_get_14 : decode c_A_get 14 = .ok (.areturn, 1) := by decide +kernel
def m_A_get : XM := ("java/util/ArrayList", c_A_get, 2, (some (.object "java/lang/Object")), "get", [], 2, 43)
def b_A_get : XB := [(0, X_iload 1 1),
  (1, X_aload 0 1),
  (2, X_get 8 1),
  (5, X_invS Y_ZObjects_checkIndex 2 []),
  (8, X_pop),
  (9, X_aload 0 1),
  (10, X_iload 1 1),
  (11, X_invV 8 Y_A_elementData 1 []),
  (14, X_aret)]
set_option maxRecDepth 100000 in
theorem k_A_get : x_bok m_A_get b_A_get := by
  unfold b_A_get
  refine x_bok.cons (xs_iload_n d_A_get_0 rfl) ?_
  refine x_bok.cons (xs_aload_n d_A_get_1 rfl) ?_
  refine x_bok.cons (xs_get d_A_get_2 xc8 xw8 (by decide) q1_67 (Or.inl rfl)) ?_
  refine x_bok.cons (xs_invS d_A_get_5 sn_ZObjects_checkIndex is_ZObjects_checkIndex ⟨q3_93, q3_94, q1_28⟩ (by decide) (by decide) rfl) ?_
  refine x_bok.cons (xs_pop d_A_get_8) ?_
  refine x_bok.cons (xs_aload_n d_A_get_9 rfl) ?_
  refine x_bok.cons (xs_iload_n d_A_get_10 rfl) ?_
  refine x_bok.cons (xs_invV d_A_get_11 xc8 sn_A_elementData is_A_elementData ⟨q3_99, q3_100, q3_101, q1_5⟩ (by decide) (by decide) rfl) ?_
  refine x_bok.cons (xs_aret d_A_get_14 rfl (by first | exact Or.inl ⟨_, rfl⟩ | exact Or.inr ⟨_, rfl⟩)) ?_
  exact x_bok.nil
set_option maxRecDepth 100000 in
theorem mn_A_get : x_bmn b_A_get := by
  unfold b_A_get
  refine x_bmn.cons (xm_iload) ?_
  refine x_bmn.cons (xm_aload) ?_
  refine x_bmn.cons (xm_get) ?_
  refine x_bmn.cons (xm_invS ym_ZObjects_checkIndex) ?_
  refine x_bmn.cons (xm_pop) ?_
  refine x_bmn.cons (xm_aload) ?_
  refine x_bmn.cons (xm_iload) ?_
  refine x_bmn.cons (xm_invV ym_A_elementData) ?_
  refine x_bmn.cons (xm_aret) ?_
  exact x_bmn.nil
theorem is_A_get : x_Is y_A_get m_A_get := x_is_code q3_92
def Y_A_get : XMeth := x_do 2 b_A_get
theorem sn_A_get : x_Snd y_A_get m_A_get Y_A_get := x_snd_of (by decide) rfl rfl is_A_get k_A_get
theorem ym_A_get : x_Ymn Y_A_get := x_ymn_of mn_A_get
/- CashLink$Entry.trace()I -/
abbrev c_E_trace : ByteArray := prog_4_method_9_code
def y_E_trace : MethodName := ⟨"CashLink$Entry", "trace", "()I"⟩
theorem d_E_trace_0 : decode c_E_trace 0 = .ok (.aload_n 0, 1) := by decide +kernel
theorem d_E_trace_1 : decode c_E_trace 1 = .ok (.getfield 16, 3) := by decide +kernel
theorem d_E_trace_4 : decode c_E_trace 4 = .ok (.ireturn, 1) := by decide +kernel
def m_E_trace : XM := ("CashLink$Entry", c_E_trace, 1, (some .int), "trace", [], 0, 0)
def b_E_trace : XB := [(0, X_aload 0 1),
  (1, X_get 6 2),
  (4, X_iret)]
set_option maxRecDepth 100000 in
theorem k_E_trace : x_bok m_E_trace b_E_trace := by
  unfold b_E_trace
  refine x_bok.cons (xs_aload_n d_E_trace_0 rfl) ?_
  refine x_bok.cons (xs_get d_E_trace_1 xc6 xw6 (by decide) q2_161 (Or.inl rfl)) ?_
  refine x_bok.cons (xs_iret d_E_trace_4 rfl) ?_
  exact x_bok.nil
set_option maxRecDepth 100000 in
theorem mn_E_trace : x_bmn b_E_trace := by
  unfold b_E_trace
  refine x_bmn.cons (xm_aload) ?_
  refine x_bmn.cons (xm_get) ?_
  refine x_bmn.cons (xm_iret) ?_
  exact x_bmn.nil
theorem is_E_trace : x_Is y_E_trace m_E_trace := x_is_code q3_106
def Y_E_trace : XMeth := x_do 1 b_E_trace
theorem sn_E_trace : x_Snd y_E_trace m_E_trace Y_E_trace := x_snd_of (by decide) rfl rfl is_E_trace k_E_trace
theorem ym_E_trace : x_Ymn Y_E_trace := x_ymn_of mn_E_trace
/- CashLink$Entry.value()I -/
abbrev c_E_value : ByteArray := prog_4_method_11_code
def y_E_value : MethodName := ⟨"CashLink$Entry", "value", "()I"⟩
theorem d_E_value_0 : decode c_E_value 0 = .ok (.aload_n 0, 1) := by decide +kernel
theorem d_E_value_1 : decode c_E_value 1 = .ok (.getfield 22, 3) := by decide +kernel
theorem d_E_value_4 : decode c_E_value 4 = .ok (.ireturn, 1) := by decide +kernel
def m_E_value : XM := ("CashLink$Entry", c_E_value, 1, (some .int), "value", [], 0, 0)
def b_E_value : XB := [(0, X_aload 0 1),
  (1, X_get 6 4),
  (4, X_iret)]
set_option maxRecDepth 100000 in
theorem k_E_value : x_bok m_E_value b_E_value := by
  unfold b_E_value
  refine x_bok.cons (xs_aload_n d_E_value_0 rfl) ?_
  refine x_bok.cons (xs_get d_E_value_1 xc6 xw6 (by decide) q2_163 (Or.inl rfl)) ?_
  refine x_bok.cons (xs_iret d_E_value_4 rfl) ?_
  exact x_bok.nil
set_option maxRecDepth 100000 in
theorem mn_E_value : x_bmn b_E_value := by
  unfold b_E_value
  refine x_bmn.cons (xm_aload) ?_
  refine x_bmn.cons (xm_get) ?_
  refine x_bmn.cons (xm_iret) ?_
  exact x_bmn.nil
theorem is_E_value : x_Is y_E_value m_E_value := x_is_code q3_110
def Y_E_value : XMeth := x_do 1 b_E_value
theorem sn_E_value : x_Snd y_E_value m_E_value Y_E_value := x_snd_of (by decide) rfl rfl is_E_value k_E_value
theorem ym_E_value : x_Ymn Y_E_value := x_ymn_of mn_E_value
/- CashLink$Machine.repeatReversals()I -/
abbrev c_M_repeatReversals : ByteArray := prog_6_method_6_code
def y_M_repeatReversals : MethodName := ⟨"CashLink$Machine", "repeatReversals", "()I"⟩
theorem d_M_repeatReversals_0 : decode c_M_repeatReversals 0 = .ok (.aload_n 0, 1) := by decide +kernel
theorem d_M_repeatReversals_1 : decode c_M_repeatReversals 1 = .ok (.getfield 14, 3) := by decide +kernel
theorem d_M_repeatReversals_4 : decode c_M_repeatReversals 4 = .ok (.invokevirtual 53, 3) := by decide +kernel
theorem d_M_repeatReversals_7 : decode c_M_repeatReversals 7 = .ok (.invokestatic 57, 3) := by decide +kernel
theorem d_M_repeatReversals_10 : decode c_M_repeatReversals 10 = .ok (.iconst 0, 1) := by decide +kernel
theorem d_M_repeatReversals_11 : decode c_M_repeatReversals 11 = .ok (.istore_n 1, 1) := by decide +kernel
theorem d_M_repeatReversals_12 : decode c_M_repeatReversals 12 = .ok (.iload_n 1, 1) := by decide +kernel
theorem d_M_repeatReversals_13 : decode c_M_repeatReversals 13 = .ok (.aload_n 0, 1) := by decide +kernel
theorem d_M_repeatReversals_14 : decode c_M_repeatReversals 14 = .ok (.getfield 37, 3) := by decide +kernel
theorem d_M_repeatReversals_17 : decode c_M_repeatReversals 17 = .ok (.invokevirtual 79, 3) := by decide +kernel
theorem d_M_repeatReversals_20 : decode c_M_repeatReversals 20 = .ok (.if_icmp .ge 46, 3) := by decide +kernel
theorem d_M_repeatReversals_23 : decode c_M_repeatReversals 23 = .ok (.aload_n 0, 1) := by decide +kernel
theorem d_M_repeatReversals_24 : decode c_M_repeatReversals 24 = .ok (.getfield 37, 3) := by decide +kernel
theorem d_M_repeatReversals_27 : decode c_M_repeatReversals 27 = .ok (.iload_n 1, 1) := by decide +kernel
theorem d_M_repeatReversals_28 : decode c_M_repeatReversals 28 = .ok (.invokevirtual 127, 3) := by decide +kernel
theorem d_M_repeatReversals_31 : decode c_M_repeatReversals 31 = .ok (.checkcast 94, 3) := by decide +kernel
theorem d_M_repeatReversals_34 : decode c_M_repeatReversals 34 = .ok (.astore_n 2, 1) := by decide +kernel
theorem d_M_repeatReversals_35 : decode c_M_repeatReversals 35 = .ok (.aload_n 0, 1) := by decide +kernel
theorem d_M_repeatReversals_36 : decode c_M_repeatReversals 36 = .ok (.getfield 45, 3) := by decide +kernel
theorem d_M_repeatReversals_39 : decode c_M_repeatReversals 39 = .ok (.getstatic 131, 3) := by decide +kernel
theorem d_M_repeatReversals_42 : decode c_M_repeatReversals 42 = .ok (.aload_n 0, 1) := by decide +kernel
theorem d_M_repeatReversals_43 : decode c_M_repeatReversals 43 = .ok (.getfield 41, 3) := by decide +kernel
theorem d_M_repeatReversals_46 : decode c_M_repeatReversals 46 = .ok (.aload_n 2, 1) := by decide +kernel
theorem d_M_repeatReversals_47 : decode c_M_repeatReversals 47 = .ok (.invokevirtual 134, 3) := by decide +kernel
theorem d_M_repeatReversals_50 : decode c_M_repeatReversals 50 = .ok (.iconst 0, 1) := by decide +kernel
theorem d_M_repeatReversals_51 : decode c_M_repeatReversals 51 = .ok (.aload_n 2, 1) := by decide +kernel
theorem d_M_repeatReversals_52 : decode c_M_repeatReversals 52 = .ok (.invokevirtual 136, 3) := by decide +kernel
theorem d_M_repeatReversals_55 : decode c_M_repeatReversals 55 = .ok (.iconst 0, 1) := by decide +kernel
theorem d_M_repeatReversals_56 : decode c_M_repeatReversals 56 = .ok (.invokevirtual 115, 3) := by decide +kernel
theorem d_M_repeatReversals_59 : decode c_M_repeatReversals 59 = .ok (.pop, 1) := by decide +kernel
theorem d_M_repeatReversals_60 : decode c_M_repeatReversals 60 = .ok (.iinc 1 1, 3) := by decide +kernel
theorem d_M_repeatReversals_63 : decode c_M_repeatReversals 63 = .ok (.goto (-51), 3) := by decide +kernel
theorem d_M_repeatReversals_66 : decode c_M_repeatReversals 66 = .ok (.aload_n 0, 1) := by decide +kernel
theorem d_M_repeatReversals_67 : decode c_M_repeatReversals 67 = .ok (.getfield 37, 3) := by decide +kernel
theorem d_M_repeatReversals_70 : decode c_M_repeatReversals 70 = .ok (.invokevirtual 79, 3) := by decide +kernel
theorem d_M_repeatReversals_73 : decode c_M_repeatReversals 73 = .ok (.ireturn, 1) := by decide +kernel
def m_M_repeatReversals : XM := ("CashLink$Machine", c_M_repeatReversals, 3, (some .int), "repeatReversals", [], 8, 183)
def b_M_repeatReversals : XB := [(0, X_aload 0 1),
  (1, X_get 3 3),
  (4, X_invV 4 Y_J_isOn 0 []),
  (7, X_invS Y_C_demand 1 []),
  (10, X_push (xv_i 0) 1),
  (11, X_istore 1 1),
  (12, X_iload 1 1),
  (13, X_aload 0 1),
  (14, X_get 3 10),
  (17, X_invV 8 Y_A_size 0 []),
  (20, X_icmp (fun x y => y ≤ x) 66),
  (23, X_aload 0 1),
  (24, X_get 3 10),
  (27, X_iload 1 1),
  (28, X_invV 8 Y_A_get 1 []),
  (31, X_cast 6),
  (34, X_astore 2 1),
  (35, X_aload 0 1),
  (36, X_get 3 1),
  (39, X_push (xv_r 50 2) 3),
  (42, X_aload 0 1),
  (43, X_get 3 0),
  (46, X_aload 2 1),
  (47, X_invV 6 Y_E_trace 0 []),
  (50, X_push (xv_i 0) 1),
  (51, X_aload 2 1),
  (52, X_invV 6 Y_E_value 0 []),
  (55, X_push (xv_i 0) 1),
  (56, X_invV 1 Y_N_send 6 []),
  (59, X_pop),
  (60, X_iinc 1 1),
  (63, X_goto 12),
  (66, X_aload 0 1),
  (67, X_get 3 10),
  (70, X_invV 8 Y_A_size 0 []),
  (73, X_iret)]
set_option maxRecDepth 100000 in
theorem k_M_repeatReversals : x_bok m_M_repeatReversals b_M_repeatReversals := by
  unfold b_M_repeatReversals
  refine x_bok.cons (xs_aload_n d_M_repeatReversals_0 rfl) ?_
  refine x_bok.cons (xs_get d_M_repeatReversals_1 xc3 xw3 (by decide) q1_168 (Or.inl rfl)) ?_
  refine x_bok.cons (xs_invV d_M_repeatReversals_4 xc4 sn_J_isOn is_J_isOn ⟨q2_67, q2_68, q2_69, q1_7⟩ (by decide) (by decide) rfl) ?_
  refine x_bok.cons (xs_invSN d_M_repeatReversals_7 sn_C_demand is_C_demand ⟨q2_71, q2_72, q1_1⟩ (by decide) (by decide) rfl) ?_
  refine x_bok.cons (xs_iconst d_M_repeatReversals_10 (by decide)) ?_
  refine x_bok.cons (xs_istore_n d_M_repeatReversals_11 rfl (by decide)) ?_
  refine x_bok.cons (xs_iload_n d_M_repeatReversals_12 rfl) ?_
  refine x_bok.cons (xs_aload_n d_M_repeatReversals_13 rfl) ?_
  refine x_bok.cons (xs_get d_M_repeatReversals_14 xc3 xw3 (by decide) q1_177 (Or.inl rfl)) ?_
  refine x_bok.cons (xs_invV d_M_repeatReversals_17 xc8 sn_A_size is_A_size ⟨q2_125, q2_126, q2_127, q1_5⟩ (by decide) (by decide) rfl) ?_
  refine x_bok.cons (xs_icmp_ge d_M_repeatReversals_20 (by decide)) ?_
  refine x_bok.cons (xs_aload_n d_M_repeatReversals_23 rfl) ?_
  refine x_bok.cons (xs_get d_M_repeatReversals_24 xc3 xw3 (by decide) q1_177 (Or.inl rfl)) ?_
  refine x_bok.cons (xs_iload_n d_M_repeatReversals_27 rfl) ?_
  refine x_bok.cons (xs_invV d_M_repeatReversals_28 xc8 sn_A_get is_A_get ⟨q3_89, q3_90, q3_91, q1_5⟩ (by decide) (by decide) rfl) ?_
  refine x_bok.cons (xs_cast d_M_repeatReversals_31 xc6 q2_150 q7_4) ?_
  refine x_bok.cons (xs_astore_n d_M_repeatReversals_34 rfl (by decide)) ?_
  refine x_bok.cons (xs_aload_n d_M_repeatReversals_35 rfl) ?_
  refine x_bok.cons (xs_get d_M_repeatReversals_36 xc3 xw3 (by decide) q1_166 (Or.inl rfl)) ?_
  refine x_bok.cons (xs_gets d_M_repeatReversals_39 (List.mem_of_getElem? (i := 6) rfl) q3_76 (Or.inl rfl)) ?_
  refine x_bok.cons (xs_aload_n d_M_repeatReversals_42 rfl) ?_
  refine x_bok.cons (xs_get d_M_repeatReversals_43 xc3 xw3 (by decide) q1_165 (Or.inl rfl)) ?_
  refine x_bok.cons (xs_aload_n d_M_repeatReversals_46 rfl) ?_
  refine x_bok.cons (xs_invV d_M_repeatReversals_47 xc6 sn_E_trace is_E_trace ⟨q3_103, q3_104, q3_105, q1_21⟩ (by decide) (by decide) rfl) ?_
  refine x_bok.cons (xs_iconst d_M_repeatReversals_50 (by decide)) ?_
  refine x_bok.cons (xs_aload_n d_M_repeatReversals_51 rfl) ?_
  refine x_bok.cons (xs_invV d_M_repeatReversals_52 xc6 sn_E_value is_E_value ⟨q3_107, q3_108, q3_109, q1_21⟩ (by decide) (by decide) rfl) ?_
  refine x_bok.cons (xs_iconst d_M_repeatReversals_55 (by decide)) ?_
  refine x_bok.cons (xs_invV d_M_repeatReversals_56 xc1 sn_N_send is_N_send ⟨q3_23, q3_24, q3_25, q1_2⟩ (by decide) (by decide) rfl) ?_
  refine x_bok.cons (xs_pop d_M_repeatReversals_59) ?_
  refine x_bok.cons (xs_iinc d_M_repeatReversals_60 (by decide) (by decide)) ?_
  refine x_bok.cons (xs_goto d_M_repeatReversals_63 (by decide)) ?_
  refine x_bok.cons (xs_aload_n d_M_repeatReversals_66 rfl) ?_
  refine x_bok.cons (xs_get d_M_repeatReversals_67 xc3 xw3 (by decide) q1_177 (Or.inl rfl)) ?_
  refine x_bok.cons (xs_invV d_M_repeatReversals_70 xc8 sn_A_size is_A_size ⟨q2_125, q2_126, q2_127, q1_5⟩ (by decide) (by decide) rfl) ?_
  refine x_bok.cons (xs_iret d_M_repeatReversals_73 rfl) ?_
  exact x_bok.nil
set_option maxRecDepth 100000 in
theorem mn_M_repeatReversals : x_bmn b_M_repeatReversals := by
  unfold b_M_repeatReversals
  refine x_bmn.cons (xm_aload) ?_
  refine x_bmn.cons (xm_get) ?_
  refine x_bmn.cons (xm_invV ym_J_isOn) ?_
  refine x_bmn.cons (xm_invS ym_C_demand) ?_
  refine x_bmn.cons (xm_push) ?_
  refine x_bmn.cons (xm_istore) ?_
  refine x_bmn.cons (xm_iload) ?_
  refine x_bmn.cons (xm_aload) ?_
  refine x_bmn.cons (xm_get) ?_
  refine x_bmn.cons (xm_invV ym_A_size) ?_
  refine x_bmn.cons (xm_icmp) ?_
  refine x_bmn.cons (xm_aload) ?_
  refine x_bmn.cons (xm_get) ?_
  refine x_bmn.cons (xm_iload) ?_
  refine x_bmn.cons (xm_invV ym_A_get) ?_
  refine x_bmn.cons (xm_cast) ?_
  refine x_bmn.cons (xm_astore) ?_
  refine x_bmn.cons (xm_aload) ?_
  refine x_bmn.cons (xm_get) ?_
  refine x_bmn.cons (xm_push) ?_
  refine x_bmn.cons (xm_aload) ?_
  refine x_bmn.cons (xm_get) ?_
  refine x_bmn.cons (xm_aload) ?_
  refine x_bmn.cons (xm_invV ym_E_trace) ?_
  refine x_bmn.cons (xm_push) ?_
  refine x_bmn.cons (xm_aload) ?_
  refine x_bmn.cons (xm_invV ym_E_value) ?_
  refine x_bmn.cons (xm_push) ?_
  refine x_bmn.cons (xm_invV ym_N_send) ?_
  refine x_bmn.cons (xm_pop) ?_
  refine x_bmn.cons (xm_iinc) ?_
  refine x_bmn.cons (xm_goto) ?_
  refine x_bmn.cons (xm_aload) ?_
  refine x_bmn.cons (xm_get) ?_
  refine x_bmn.cons (xm_invV ym_A_size) ?_
  refine x_bmn.cons (xm_iret) ?_
  exact x_bmn.nil
theorem is_M_repeatReversals : x_Is y_M_repeatReversals m_M_repeatReversals := x_is_code q3_88
def Y_M_repeatReversals : XMeth := x_do 3 b_M_repeatReversals
theorem sn_M_repeatReversals : x_Snd y_M_repeatReversals m_M_repeatReversals Y_M_repeatReversals := x_snd_of (by decide) rfl rfl is_M_repeatReversals k_M_repeatReversals
theorem ym_M_repeatReversals : x_Ymn Y_M_repeatReversals := x_ymn_of mn_M_repeatReversals
/- CashLink.again(I)I -/
abbrev c_C_again : ByteArray := prog_1_method_6_code
def y_C_again : MethodName := ⟨"CashLink", "again", "(I)I"⟩
theorem d_C_again_0 : decode c_C_again 0 = .ok (.aload_n 0, 1) := by decide +kernel
theorem d_C_again_1 : decode c_C_again 1 = .ok (.iload_n 1, 1) := by decide +kernel
theorem d_C_again_2 : decode c_C_again 2 = .ok (.invokevirtual 38, 3) := by decide +kernel
theorem d_C_again_5 : decode c_C_again 5 = .ok (.invokevirtual 64, 3) := by decide +kernel
theorem d_C_again_8 : decode c_C_again 8 = .ok (.ireturn, 1) := by decide +kernel
def m_C_again : XM := ("CashLink", c_C_again, 2, (some .int), "again", [], 9, 205)
def b_C_again : XB := [(0, X_aload 0 1),
  (1, X_iload 1 1),
  (2, X_invV 0 Y_C_machineAt 1 []),
  (5, X_invV 3 Y_M_repeatReversals 0 []),
  (8, X_iret)]
set_option maxRecDepth 100000 in
theorem k_C_again : x_bok m_C_again b_C_again := by
  unfold b_C_again
  refine x_bok.cons (xs_aload_n d_C_again_0 rfl) ?_
  refine x_bok.cons (xs_iload_n d_C_again_1 rfl) ?_
  refine x_bok.cons (xs_invV d_C_again_2 xc0 sn_C_machineAt is_C_machineAt ⟨q1_223, q1_225, (x_sel (x_p1 (List.mem_of_getElem? (i := 0) rfl))), q1_1⟩ (by decide) (by decide) rfl) ?_
  refine x_bok.cons (xs_invV d_C_again_5 xc3 sn_M_repeatReversals is_M_repeatReversals ⟨q3_85, q3_86, q3_87, q1_8⟩ (by decide) (by decide) rfl) ?_
  refine x_bok.cons (xs_iret d_C_again_8 rfl) ?_
  exact x_bok.nil
set_option maxRecDepth 100000 in
theorem mn_C_again : x_bmn b_C_again := by
  unfold b_C_again
  refine x_bmn.cons (xm_aload) ?_
  refine x_bmn.cons (xm_iload) ?_
  refine x_bmn.cons (xm_invV ym_C_machineAt) ?_
  refine x_bmn.cons (xm_invV ym_M_repeatReversals) ?_
  refine x_bmn.cons (xm_iret) ?_
  exact x_bmn.nil
theorem is_C_again : x_Is y_C_again m_C_again := x_is_code q3_84
def Y_C_again : XMeth := x_do 2 b_C_again
theorem sn_C_again : x_Snd y_C_again m_C_again Y_C_again := x_snd_of (by decide) rfl rfl is_C_again k_C_again
theorem ym_C_again : x_Ymn Y_C_again := x_ymn_of mn_C_again
/- CashLinkLaw.again(LCashLink;I[J)I -/
abbrev c_L_again : ByteArray := method_7_code
def y_L_again : MethodName := ⟨"CashLinkLaw", "again", "(LCashLink;I[J)I"⟩
theorem d_L_again_0 : decode c_L_again 0 = .ok (.aload_n 2, 1) := by decide +kernel
theorem d_L_again_1 : decode c_L_again 1 = .ok (.iconst 0, 1) := by decide +kernel
theorem d_L_again_2 : decode c_L_again 2 = .ok (.aload_n 0, 1) := by decide +kernel
theorem d_L_again_3 : decode c_L_again 3 = .ok (.iload_n 1, 1) := by decide +kernel
theorem d_L_again_4 : decode c_L_again 4 = .ok (.invokevirtual 33, 3) := by decide +kernel
theorem d_L_again_7 : decode c_L_again 7 = .ok (.i2l, 1) := by decide +kernel
theorem d_L_again_8 : decode c_L_again 8 = .ok (.lastore, 1) := by decide +kernel
theorem d_L_again_9 : decode c_L_again 9 = .ok (.goto 9, 3) := by decide +kernel
theorem d_L_again_12 : decode c_L_again 12 = .ok (.astore_n 3, 1) := by decide +kernel
theorem d_L_again_13 : decode c_L_again 13 = .ok (.iconst 1, 1) := by decide +kernel
theorem d_L_again_14 : decode c_L_again 14 = .ok (.ireturn, 1) := by decide +kernel
theorem d_L_again_15 : decode c_L_again 15 = .ok (.astore_n 3, 1) := by decide +kernel
theorem d_L_again_16 : decode c_L_again 16 = .ok (.iconst 2, 1) := by decide +kernel
theorem d_L_again_17 : decode c_L_again 17 = .ok (.ireturn, 1) := by decide +kernel
theorem d_L_again_18 : decode c_L_again 18 = .ok (.iconst 0, 1) := by decide +kernel
theorem d_L_again_19 : decode c_L_again 19 = .ok (.ireturn, 1) := by decide +kernel
def m_L_again : XM := ("CashLinkLaw", c_L_again, 4, (some .int), "again", [(0, 9, 12, 13), (0, 9, 15, 15)], 10, 226)
theorem h_L_again_4 : x_hok m_L_again 4 [(11, 12), (12, 15)] := by
  intro ci h hc
  by_cases e0 : ci = 11
  · subst e0
    have hh : h = 12 := (Option.some.inj (hc.symm.trans (by rfl : x_catch [(11, 12), (12, 15)] 11 = some 12)))
    subst hh
    refine ⟨"java/lang/IllegalArgumentException", xT11, 0, [], ⟨0, 9, 12, 13⟩, [⟨0, 9, 15, 15⟩], rfl, rfl, rfl, rfl, by decide, q1_217, ?_⟩
    intro z hz
    cases hz
  by_cases e1 : ci = 12
  · subst e1
    have hh : h = 15 := (Option.some.inj (hc.symm.trans (by rfl : x_catch [(11, 12), (12, 15)] 12 = some 15)))
    subst hh
    refine ⟨"java/lang/IllegalStateException", xT12, 0, [⟨0, 9, 12, 13⟩], ⟨0, 9, 15, 15⟩, [], rfl, rfl, rfl, rfl, by decide, q1_218, ?_⟩
    intro z hz
    simp only [List.mem_cons, List.not_mem_nil, or_false] at hz
    rcases hz with rfl
    · exact Or.inr ⟨by decide, "java/lang/IllegalArgumentException", q1_217, x_inN 0 rfl⟩
  exfalso
  simp only [x_catch] at hc
  rw [if_neg (fun q => e0 q.symm)] at hc
  rw [if_neg (fun q => e1 q.symm)] at hc
  cases hc
def b_L_again : XB := [(0, X_aload 2 1),
  (1, X_push (xv_i 0) 1),
  (2, X_aload 0 1),
  (3, X_iload 1 1),
  (4, X_invV 0 Y_C_again 1 [(11, 12), (12, 15)]),
  (7, X_i2l),
  (8, X_last 1),
  (9, X_goto 18),
  (12, X_astore 3 1),
  (13, X_push (xv_i 1) 1),
  (14, X_iret),
  (15, X_astore 3 1),
  (16, X_push (xv_i 2) 1),
  (17, X_iret),
  (18, X_push (xv_i 0) 1),
  (19, X_iret)]
set_option maxRecDepth 100000 in
theorem k_L_again : x_bok m_L_again b_L_again := by
  unfold b_L_again
  refine x_bok.cons (xs_aload_n d_L_again_0 rfl) ?_
  refine x_bok.cons (xs_iconst d_L_again_1 (by decide)) ?_
  refine x_bok.cons (xs_aload_n d_L_again_2 rfl) ?_
  refine x_bok.cons (xs_iload_n d_L_again_3 rfl) ?_
  refine x_bok.cons (xs_invV d_L_again_4 xc0 sn_C_again is_C_again ⟨q3_81, q3_82, q3_83, q1_1⟩ (by decide) (by decide) h_L_again_4) ?_
  refine x_bok.cons (xs_i2l d_L_again_7) ?_
  refine x_bok.cons (xs_last d_L_again_8 rfl) ?_
  refine x_bok.cons (xs_goto d_L_again_9 (by decide)) ?_
  refine x_bok.cons (xs_astore_n d_L_again_12 rfl (by decide)) ?_
  refine x_bok.cons (xs_iconst d_L_again_13 (by decide)) ?_
  refine x_bok.cons (xs_iret d_L_again_14 rfl) ?_
  refine x_bok.cons (xs_astore_n d_L_again_15 rfl (by decide)) ?_
  refine x_bok.cons (xs_iconst d_L_again_16 (by decide)) ?_
  refine x_bok.cons (xs_iret d_L_again_17 rfl) ?_
  refine x_bok.cons (xs_iconst d_L_again_18 (by decide)) ?_
  refine x_bok.cons (xs_iret d_L_again_19 rfl) ?_
  exact x_bok.nil
set_option maxRecDepth 100000 in
theorem mn_L_again : x_bmn b_L_again := by
  unfold b_L_again
  refine x_bmn.cons (xm_aload) ?_
  refine x_bmn.cons (xm_push) ?_
  refine x_bmn.cons (xm_aload) ?_
  refine x_bmn.cons (xm_iload) ?_
  refine x_bmn.cons (xm_invV ym_C_again) ?_
  refine x_bmn.cons (xm_i2l) ?_
  refine x_bmn.cons (xm_last) ?_
  refine x_bmn.cons (xm_goto) ?_
  refine x_bmn.cons (xm_astore) ?_
  refine x_bmn.cons (xm_push) ?_
  refine x_bmn.cons (xm_iret) ?_
  refine x_bmn.cons (xm_astore) ?_
  refine x_bmn.cons (xm_push) ?_
  refine x_bmn.cons (xm_iret) ?_
  refine x_bmn.cons (xm_push) ?_
  refine x_bmn.cons (xm_iret) ?_
  exact x_bmn.nil
theorem is_L_again : x_Is y_L_again m_L_again := x_is_with q3_80
def Y_L_again : XMeth := x_do 4 b_L_again
theorem sn_L_again : x_Snd y_L_again m_L_again Y_L_again := x_snd_of (by decide) rfl rfl is_L_again k_L_again
theorem ym_L_again : x_Ymn Y_L_again := x_ymn_of mn_L_again
/- java/util/ArrayList.isEmpty()Z -/
abbrev c_A_isEmpty : ByteArray := prog_35_method_9_code
def y_A_isEmpty : MethodName := ⟨"java/util/ArrayList", "isEmpty", "()Z"⟩
theorem d_A_isEmpty_0 : decode c_A_isEmpty 0 = .ok (.aload_n 0, 1) := by decide +kernel
theorem d_A_isEmpty_1 : decode c_A_isEmpty 1 = .ok (.getfield 48, 3) := by decide +kernel
theorem d_A_isEmpty_4 : decode c_A_isEmpty 4 = .ok (.ifCond .ne 7, 3) := by decide +kernel
theorem d_A_isEmpty_7 : decode c_A_isEmpty 7 = .ok (.iconst 1, 1) := by decide +kernel
theorem d_A_isEmpty_8 : decode c_A_isEmpty 8 = .ok (.goto 4, 3) := by decide +kernel
theorem d_A_isEmpty_11 : decode c_A_isEmpty 11 = .ok (.iconst 0, 1) := by decide +kernel
theorem d_A_isEmpty_12 : decode c_A_isEmpty 12 = .ok (.ireturn, 1) := by decide +kernel
def m_A_isEmpty : XM := ("java/util/ArrayList", c_A_isEmpty, 1, (some .boolean), "isEmpty", [], 0, 0)
def b_A_isEmpty : XB := [(0, X_aload 0 1),
  (1, X_get 8 1),
  (4, X_if (fun x => ¬ x = 0) 11),
  (7, X_push (xv_i 1) 1),
  (8, X_goto 12),
  (11, X_push (xv_i 0) 1),
  (12, X_zret)]
set_option maxRecDepth 100000 in
theorem k_A_isEmpty : x_bok m_A_isEmpty b_A_isEmpty := by
  unfold b_A_isEmpty
  refine x_bok.cons (xs_aload_n d_A_isEmpty_0 rfl) ?_
  refine x_bok.cons (xs_get d_A_isEmpty_1 xc8 xw8 (by decide) q1_67 (Or.inl rfl)) ?_
  refine x_bok.cons (xs_if_ne d_A_isEmpty_4 (by decide)) ?_
  refine x_bok.cons (xs_iconst d_A_isEmpty_7 (by decide)) ?_
  refine x_bok.cons (xs_goto d_A_isEmpty_8 (by decide)) ?_
  refine x_bok.cons (xs_iconst d_A_isEmpty_11 (by decide)) ?_
  refine x_bok.cons (xs_zret d_A_isEmpty_12 rfl) ?_
  exact x_bok.nil
set_option maxRecDepth 100000 in
theorem mn_A_isEmpty : x_bmn b_A_isEmpty := by
  unfold b_A_isEmpty
  refine x_bmn.cons (xm_aload) ?_
  refine x_bmn.cons (xm_get) ?_
  refine x_bmn.cons (xm_if) ?_
  refine x_bmn.cons (xm_push) ?_
  refine x_bmn.cons (xm_goto) ?_
  refine x_bmn.cons (xm_push) ?_
  refine x_bmn.cons (xm_zret) ?_
  exact x_bmn.nil
theorem is_A_isEmpty : x_Is y_A_isEmpty m_A_isEmpty := x_is_code q3_129
def Y_A_isEmpty : XMeth := x_do 1 b_A_isEmpty
theorem sn_A_isEmpty : x_Snd y_A_isEmpty m_A_isEmpty Y_A_isEmpty := x_snd_of (by decide) rfl rfl is_A_isEmpty k_A_isEmpty
theorem ym_A_isEmpty : x_Ymn Y_A_isEmpty := x_ymn_of mn_A_isEmpty
/- CashLink$Machine.isQuiet()Z -/
abbrev c_M_isQuiet : ByteArray := prog_6_method_20_code
def y_M_isQuiet : MethodName := ⟨"CashLink$Machine", "isQuiet", "()Z"⟩
theorem d_M_isQuiet_0 : decode c_M_isQuiet 0 = .ok (.aload_n 0, 1) := by decide +kernel
theorem d_M_isQuiet_1 : decode c_M_isQuiet 1 = .ok (.getfield 14, 3) := by decide +kernel
theorem d_M_isQuiet_4 : decode c_M_isQuiet 4 = .ok (.invokevirtual 53, 3) := by decide +kernel
theorem d_M_isQuiet_7 : decode c_M_isQuiet 7 = .ok (.ifCond .eq 27, 3) := by decide +kernel
theorem d_M_isQuiet_10 : decode c_M_isQuiet 10 = .ok (.aload_n 0, 1) := by decide +kernel
theorem d_M_isQuiet_11 : decode c_M_isQuiet 11 = .ok (.getfield 31, 3) := by decide +kernel
theorem d_M_isQuiet_14 : decode c_M_isQuiet 14 = .ok (.getstatic 121, 3) := by decide +kernel
theorem d_M_isQuiet_17 : decode c_M_isQuiet 17 = .ok (.if_acmp .eq 17, 3) := by decide +kernel
theorem d_M_isQuiet_20 : decode c_M_isQuiet 20 = .ok (.aload_n 0, 1) := by decide +kernel
theorem d_M_isQuiet_21 : decode c_M_isQuiet 21 = .ok (.getfield 37, 3) := by decide +kernel
theorem d_M_isQuiet_24 : decode c_M_isQuiet 24 = .ok (.invokevirtual 223, 3) := by decide +kernel
theorem d_M_isQuiet_27 : decode c_M_isQuiet 27 = .ok (.ifCond .eq 7, 3) := by decide +kernel
theorem d_M_isQuiet_30 : decode c_M_isQuiet 30 = .ok (.iconst 1, 1) := by decide +kernel
theorem d_M_isQuiet_31 : decode c_M_isQuiet 31 = .ok (.goto 4, 3) := by decide +kernel
theorem d_M_isQuiet_34 : decode c_M_isQuiet 34 = .ok (.iconst 0, 1) := by decide +kernel
theorem d_M_isQuiet_35 : decode c_M_isQuiet 35 = .ok (.ireturn, 1) := by decide +kernel
def m_M_isQuiet : XM := ("CashLink$Machine", c_M_isQuiet, 1, (some .boolean), "isQuiet", [], 1, 20)
def b_M_isQuiet : XB := [(0, X_aload 0 1),
  (1, X_get 3 3),
  (4, X_invV 4 Y_J_isOn 0 []),
  (7, X_if (fun x => x = 0) 34),
  (10, X_aload 0 1),
  (11, X_get 3 5),
  (14, X_push (xv_r 49 3) 3),
  (17, X_acmp (fun q => q) 34),
  (20, X_aload 0 1),
  (21, X_get 3 10),
  (24, X_invV 8 Y_A_isEmpty 0 []),
  (27, X_if (fun x => x = 0) 34),
  (30, X_push (xv_i 1) 1),
  (31, X_goto 35),
  (34, X_push (xv_i 0) 1),
  (35, X_zret)]
set_option maxRecDepth 100000 in
theorem k_M_isQuiet : x_bok m_M_isQuiet b_M_isQuiet := by
  unfold b_M_isQuiet
  refine x_bok.cons (xs_aload_n d_M_isQuiet_0 rfl) ?_
  refine x_bok.cons (xs_get d_M_isQuiet_1 xc3 xw3 (by decide) q1_168 (Or.inl rfl)) ?_
  refine x_bok.cons (xs_invV d_M_isQuiet_4 xc4 sn_J_isOn is_J_isOn ⟨q2_67, q2_68, q2_69, q1_7⟩ (by decide) (by decide) rfl) ?_
  refine x_bok.cons (xs_if_eq d_M_isQuiet_7 (by decide)) ?_
  refine x_bok.cons (xs_aload_n d_M_isQuiet_10 rfl) ?_
  refine x_bok.cons (xs_get d_M_isQuiet_11 xc3 xw3 (by decide) q1_172 (Or.inl rfl)) ?_
  refine x_bok.cons (xs_gets d_M_isQuiet_14 (List.mem_of_getElem? (i := 3) rfl) q3_54 (Or.inl rfl)) ?_
  refine x_bok.cons (xs_acmp_eq d_M_isQuiet_17 (by decide)) ?_
  refine x_bok.cons (xs_aload_n d_M_isQuiet_20 rfl) ?_
  refine x_bok.cons (xs_get d_M_isQuiet_21 xc3 xw3 (by decide) q1_177 (Or.inl rfl)) ?_
  refine x_bok.cons (xs_invV d_M_isQuiet_24 xc8 sn_A_isEmpty is_A_isEmpty ⟨q3_126, q3_127, q3_128, q1_5⟩ (by decide) (by decide) rfl) ?_
  refine x_bok.cons (xs_if_eq d_M_isQuiet_27 (by decide)) ?_
  refine x_bok.cons (xs_iconst d_M_isQuiet_30 (by decide)) ?_
  refine x_bok.cons (xs_goto d_M_isQuiet_31 (by decide)) ?_
  refine x_bok.cons (xs_iconst d_M_isQuiet_34 (by decide)) ?_
  refine x_bok.cons (xs_zret d_M_isQuiet_35 rfl) ?_
  exact x_bok.nil
set_option maxRecDepth 100000 in
theorem mn_M_isQuiet : x_bmn b_M_isQuiet := by
  unfold b_M_isQuiet
  refine x_bmn.cons (xm_aload) ?_
  refine x_bmn.cons (xm_get) ?_
  refine x_bmn.cons (xm_invV ym_J_isOn) ?_
  refine x_bmn.cons (xm_if) ?_
  refine x_bmn.cons (xm_aload) ?_
  refine x_bmn.cons (xm_get) ?_
  refine x_bmn.cons (xm_push) ?_
  refine x_bmn.cons (xm_acmp) ?_
  refine x_bmn.cons (xm_aload) ?_
  refine x_bmn.cons (xm_get) ?_
  refine x_bmn.cons (xm_invV ym_A_isEmpty) ?_
  refine x_bmn.cons (xm_if) ?_
  refine x_bmn.cons (xm_push) ?_
  refine x_bmn.cons (xm_goto) ?_
  refine x_bmn.cons (xm_push) ?_
  refine x_bmn.cons (xm_zret) ?_
  exact x_bmn.nil
theorem is_M_isQuiet : x_Is y_M_isQuiet m_M_isQuiet := x_is_code q3_125
def Y_M_isQuiet : XMeth := x_do 1 b_M_isQuiet
theorem sn_M_isQuiet : x_Snd y_M_isQuiet m_M_isQuiet Y_M_isQuiet := x_snd_of (by decide) rfl rfl is_M_isQuiet k_M_isQuiet
theorem ym_M_isQuiet : x_Ymn Y_M_isQuiet := x_ymn_of mn_M_isQuiet
/- CashLink$Journal.size()I -/
abbrev c_J_size : ByteArray := prog_5_method_2_code
def y_J_size : MethodName := ⟨"CashLink$Journal", "size", "()I"⟩
theorem d_J_size_0 : decode c_J_size 0 = .ok (.aload_n 0, 1) := by decide +kernel
theorem d_J_size_1 : decode c_J_size 1 = .ok (.getfield 10, 3) := by decide +kernel
theorem d_J_size_4 : decode c_J_size 4 = .ok (.invokevirtual 27, 3) := by decide +kernel
theorem d_J_size_7 : decode c_J_size 7 = .ok (.ireturn, 1) := by decide +kernel
def m_J_size : XM := ("CashLink$Journal", c_J_size, 1, (some .int), "size", [], 1, 20)
def b_J_size : XB := [(0, X_aload 0 1),
  (1, X_get 4 0),
  (4, X_invV 8 Y_A_size 0 []),
  (7, X_iret)]
set_option maxRecDepth 100000 in
theorem k_J_size : x_bok m_J_size b_J_size := by
  unfold b_J_size
  refine x_bok.cons (xs_aload_n d_J_size_0 rfl) ?_
  refine x_bok.cons (xs_get d_J_size_1 xc4 xw4 (by decide) q1_96 (Or.inl rfl)) ?_
  refine x_bok.cons (xs_invV d_J_size_4 xc8 sn_A_size is_A_size ⟨q2_133, q2_126, q2_127, q1_5⟩ (by decide) (by decide) rfl) ?_
  refine x_bok.cons (xs_iret d_J_size_7 rfl) ?_
  exact x_bok.nil
set_option maxRecDepth 100000 in
theorem mn_J_size : x_bmn b_J_size := by
  unfold b_J_size
  refine x_bmn.cons (xm_aload) ?_
  refine x_bmn.cons (xm_get) ?_
  refine x_bmn.cons (xm_invV ym_A_size) ?_
  refine x_bmn.cons (xm_iret) ?_
  exact x_bmn.nil
theorem is_J_size : x_Is y_J_size m_J_size := x_is_code q3_133
def Y_J_size : XMeth := x_do 1 b_J_size
theorem sn_J_size : x_Snd y_J_size m_J_size Y_J_size := x_snd_of (by decide) rfl rfl is_J_size k_J_size
theorem ym_J_size : x_Ymn Y_J_size := x_ymn_of mn_J_size
/- CashLink$Journal.entry(I)LCashLink$Entry; -/
abbrev c_J_entry : ByteArray := prog_5_method_3_code
def y_J_entry : MethodName := ⟨"CashLink$Journal", "entry", "(I)LCashLink$Entry;"⟩
theorem d_J_entry_0 : decode c_J_entry 0 = .ok (.aload_n 0, 1) := by decide +kernel
theorem d_J_entry_1 : decode c_J_entry 1 = .ok (.getfield 10, 3) := by decide +kernel
theorem d_J_entry_4 : decode c_J_entry 4 = .ok (.iload_n 1, 1) := by decide +kernel
theorem d_J_entry_5 : decode c_J_entry 5 = .ok (.invokevirtual 31, 3) := by decide +kernel
theorem d_J_entry_8 : decode c_J_entry 8 = .ok (.checkcast 35, 3) := by decide +kernel
theorem d_J_entry_11 : decode c_J_entry 11 = .ok (.areturn, 1) := by decide +kernel
def m_J_entry : XM := ("CashLink$Journal", c_J_entry, 2, (some (.object "CashLink$Entry")), "entry", [], 3, 64)
def b_J_entry : XB := [(0, X_aload 0 1),
  (1, X_get 4 0),
  (4, X_iload 1 1),
  (5, X_invV 8 Y_A_get 1 []),
  (8, X_cast 6),
  (11, X_aret)]
set_option maxRecDepth 100000 in
theorem k_J_entry : x_bok m_J_entry b_J_entry := by
  unfold b_J_entry
  refine x_bok.cons (xs_aload_n d_J_entry_0 rfl) ?_
  refine x_bok.cons (xs_get d_J_entry_1 xc4 xw4 (by decide) q1_96 (Or.inl rfl)) ?_
  refine x_bok.cons (xs_iload_n d_J_entry_4 rfl) ?_
  refine x_bok.cons (xs_invV d_J_entry_5 xc8 sn_A_get is_A_get ⟨q3_138, q3_90, q3_91, q1_5⟩ (by decide) (by decide) rfl) ?_
  refine x_bok.cons (xs_cast d_J_entry_8 xc6 q3_139 q7_4) ?_
  refine x_bok.cons (xs_aret d_J_entry_11 rfl (by first | exact Or.inl ⟨_, rfl⟩ | exact Or.inr ⟨_, rfl⟩)) ?_
  exact x_bok.nil
set_option maxRecDepth 100000 in
theorem mn_J_entry : x_bmn b_J_entry := by
  unfold b_J_entry
  refine x_bmn.cons (xm_aload) ?_
  refine x_bmn.cons (xm_get) ?_
  refine x_bmn.cons (xm_iload) ?_
  refine x_bmn.cons (xm_invV ym_A_get) ?_
  refine x_bmn.cons (xm_cast) ?_
  refine x_bmn.cons (xm_aret) ?_
  exact x_bmn.nil
theorem is_J_entry : x_Is y_J_entry m_J_entry := x_is_code q3_137
def Y_J_entry : XMeth := x_do 2 b_J_entry
theorem sn_J_entry : x_Snd y_J_entry m_J_entry Y_J_entry := x_snd_of (by decide) rfl rfl is_J_entry k_J_entry
theorem ym_J_entry : x_Ymn Y_J_entry := x_ymn_of mn_J_entry
/- CashLink$Entry.kind()I -/
abbrev c_E_kind : ByteArray := prog_4_method_7_code
def y_E_kind : MethodName := ⟨"CashLink$Entry", "kind", "()I"⟩
theorem d_E_kind_0 : decode c_E_kind 0 = .ok (.aload_n 0, 1) := by decide +kernel
theorem d_E_kind_1 : decode c_E_kind 1 = .ok (.getfield 7, 3) := by decide +kernel
theorem d_E_kind_4 : decode c_E_kind 4 = .ok (.ireturn, 1) := by decide +kernel
def m_E_kind : XM := ("CashLink$Entry", c_E_kind, 1, (some .int), "kind", [], 0, 0)
def b_E_kind : XB := [(0, X_aload 0 1),
  (1, X_get 6 0),
  (4, X_iret)]
set_option maxRecDepth 100000 in
theorem k_E_kind : x_bok m_E_kind b_E_kind := by
  unfold b_E_kind
  refine x_bok.cons (xs_aload_n d_E_kind_0 rfl) ?_
  refine x_bok.cons (xs_get d_E_kind_1 xc6 xw6 (by decide) q2_159 (Or.inl rfl)) ?_
  refine x_bok.cons (xs_iret d_E_kind_4 rfl) ?_
  exact x_bok.nil
set_option maxRecDepth 100000 in
theorem mn_E_kind : x_bmn b_E_kind := by
  unfold b_E_kind
  refine x_bmn.cons (xm_aload) ?_
  refine x_bmn.cons (xm_get) ?_
  refine x_bmn.cons (xm_iret) ?_
  exact x_bmn.nil
theorem is_E_kind : x_Is y_E_kind m_E_kind := x_is_code q3_143
def Y_E_kind : XMeth := x_do 1 b_E_kind
theorem sn_E_kind : x_Snd y_E_kind m_E_kind Y_E_kind := x_snd_of (by decide) rfl rfl is_E_kind k_E_kind
theorem ym_E_kind : x_Ymn Y_E_kind := x_ymn_of mn_E_kind
/- CashLink$Machine.sendTotals()I -/
abbrev c_M_sendTotals : ByteArray := prog_6_method_7_code
def y_M_sendTotals : MethodName := ⟨"CashLink$Machine", "sendTotals", "()I"⟩
theorem d_M_sendTotals_0 : decode c_M_sendTotals 0 = .ok (.aload_n 0, 1) := by decide +kernel
theorem d_M_sendTotals_1 : decode c_M_sendTotals 1 = .ok (.invokevirtual 139, 3) := by decide +kernel
theorem d_M_sendTotals_4 : decode c_M_sendTotals 4 = .ok (.invokestatic 57, 3) := by decide +kernel
theorem d_M_sendTotals_7 : decode c_M_sendTotals 7 = .ok (.iconst 0, 1) := by decide +kernel
theorem d_M_sendTotals_8 : decode c_M_sendTotals 8 = .ok (.istore_n 1, 1) := by decide +kernel
theorem d_M_sendTotals_9 : decode c_M_sendTotals 9 = .ok (.iconst 0, 1) := by decide +kernel
theorem d_M_sendTotals_10 : decode c_M_sendTotals 10 = .ok (.istore_n 2, 1) := by decide +kernel
theorem d_M_sendTotals_11 : decode c_M_sendTotals 11 = .ok (.iload_n 2, 1) := by decide +kernel
theorem d_M_sendTotals_12 : decode c_M_sendTotals 12 = .ok (.aload_n 0, 1) := by decide +kernel
theorem d_M_sendTotals_13 : decode c_M_sendTotals 13 = .ok (.getfield 14, 3) := by decide +kernel
theorem d_M_sendTotals_16 : decode c_M_sendTotals 16 = .ok (.invokevirtual 142, 3) := by decide +kernel
theorem d_M_sendTotals_19 : decode c_M_sendTotals 19 = .ok (.if_icmp .ge 33, 3) := by decide +kernel
theorem d_M_sendTotals_22 : decode c_M_sendTotals 22 = .ok (.aload_n 0, 1) := by decide +kernel
theorem d_M_sendTotals_23 : decode c_M_sendTotals 23 = .ok (.getfield 14, 3) := by decide +kernel
theorem d_M_sendTotals_26 : decode c_M_sendTotals 26 = .ok (.iload_n 2, 1) := by decide +kernel
theorem d_M_sendTotals_27 : decode c_M_sendTotals 27 = .ok (.invokevirtual 143, 3) := by decide +kernel
theorem d_M_sendTotals_30 : decode c_M_sendTotals 30 = .ok (.astore_n 3, 1) := by decide +kernel
theorem d_M_sendTotals_31 : decode c_M_sendTotals 31 = .ok (.aload_n 3, 1) := by decide +kernel
theorem d_M_sendTotals_32 : decode c_M_sendTotals 32 = .ok (.invokevirtual 147, 3) := by decide +kernel
theorem d_M_sendTotals_35 : decode c_M_sendTotals 35 = .ok (.iconst 3, 1) := by decide +kernel
theorem d_M_sendTotals_36 : decode c_M_sendTotals 36 = .ok (.if_icmp .ne 10, 3) := by decide +kernel
theorem d_M_sendTotals_39 : decode c_M_sendTotals 39 = .ok (.iload_n 1, 1) := by decide +kernel
theorem d_M_sendTotals_40 : decode c_M_sendTotals 40 = .ok (.aload_n 3, 1) := by decide +kernel
theorem d_M_sendTotals_41 : decode c_M_sendTotals 41 = .ok (.invokevirtual 136, 3) := by decide +kernel
theorem d_M_sendTotals_44 : decode c_M_sendTotals 44 = .ok (.iadd, 1) := by decide +kernel
theorem d_M_sendTotals_45 : decode c_M_sendTotals 45 = .ok (.istore_n 1, 1) := by decide +kernel
theorem d_M_sendTotals_46 : decode c_M_sendTotals 46 = .ok (.iinc 2 1, 3) := by decide +kernel
theorem d_M_sendTotals_49 : decode c_M_sendTotals 49 = .ok (.goto (-38), 3) := by decide +kernel
theorem d_M_sendTotals_52 : decode c_M_sendTotals 52 = .ok (.aload_n 0, 1) := by decide +kernel
theorem d_M_sendTotals_53 : decode c_M_sendTotals 53 = .ok (.getfield 45, 3) := by decide +kernel
theorem d_M_sendTotals_56 : decode c_M_sendTotals 56 = .ok (.getstatic 150, 3) := by decide +kernel
theorem d_M_sendTotals_59 : decode c_M_sendTotals 59 = .ok (.aload_n 0, 1) := by decide +kernel
theorem d_M_sendTotals_60 : decode c_M_sendTotals 60 = .ok (.getfield 41, 3) := by decide +kernel
theorem d_M_sendTotals_63 : decode c_M_sendTotals 63 = .ok (.aload_n 0, 1) := by decide +kernel
theorem d_M_sendTotals_64 : decode c_M_sendTotals 64 = .ok (.getfield 96, 3) := by decide +kernel
theorem d_M_sendTotals_67 : decode c_M_sendTotals 67 = .ok (.iconst 0, 1) := by decide +kernel
theorem d_M_sendTotals_68 : decode c_M_sendTotals 68 = .ok (.iload_n 1, 1) := by decide +kernel
theorem d_M_sendTotals_69 : decode c_M_sendTotals 69 = .ok (.iconst 0, 1) := by decide +kernel
theorem d_M_sendTotals_70 : decode c_M_sendTotals 70 = .ok (.invokevirtual 115, 3) := by decide +kernel
theorem d_M_sendTotals_73 : decode c_M_sendTotals 73 = .ok (.pop, 1) := by decide +kernel
theorem d_M_sendTotals_74 : decode c_M_sendTotals 74 = .ok (.iload_n 1, 1) := by decide +kernel
theorem d_M_sendTotals_75 : decode c_M_sendTotals 75 = .ok (.ireturn, 1) := by decide +kernel
def m_M_sendTotals : XM := ("CashLink$Machine", c_M_sendTotals, 4, (some .int), "sendTotals", [], 8, 183)
def b_M_sendTotals : XB := [(0, X_aload 0 1),
  (1, X_invV 3 Y_M_isQuiet 0 []),
  (4, X_invS Y_C_demand 1 []),
  (7, X_push (xv_i 0) 1),
  (8, X_istore 1 1),
  (9, X_push (xv_i 0) 1),
  (10, X_istore 2 1),
  (11, X_iload 2 1),
  (12, X_aload 0 1),
  (13, X_get 3 3),
  (16, X_invV 4 Y_J_size 0 []),
  (19, X_icmp (fun x y => y ≤ x) 52),
  (22, X_aload 0 1),
  (23, X_get 3 3),
  (26, X_iload 2 1),
  (27, X_invV 4 Y_J_entry 1 []),
  (30, X_astore 3 1),
  (31, X_aload 3 1),
  (32, X_invV 6 Y_E_kind 0 []),
  (35, X_push (xv_i 3) 1),
  (36, X_icmp (fun x y => ¬ x = y) 46),
  (39, X_iload 1 1),
  (40, X_aload 3 1),
  (41, X_invV 6 Y_E_value 0 []),
  (44, X_bin (fun x y => x + y)),
  (45, X_istore 1 1),
  (46, X_iinc 2 1),
  (49, X_goto 11),
  (52, X_aload 0 1),
  (53, X_get 3 1),
  (56, X_push (xv_r 50 4) 3),
  (59, X_aload 0 1),
  (60, X_get 3 0),
  (63, X_aload 0 1),
  (64, X_get 3 8),
  (67, X_push (xv_i 0) 1),
  (68, X_iload 1 1),
  (69, X_push (xv_i 0) 1),
  (70, X_invV 1 Y_N_send 6 []),
  (73, X_pop),
  (74, X_iload 1 1),
  (75, X_iret)]
set_option maxRecDepth 100000 in
theorem k_M_sendTotals : x_bok m_M_sendTotals b_M_sendTotals := by
  unfold b_M_sendTotals
  refine x_bok.cons (xs_aload_n d_M_sendTotals_0 rfl) ?_
  refine x_bok.cons (xs_invV d_M_sendTotals_1 xc3 sn_M_isQuiet is_M_isQuiet ⟨q3_122, q3_123, q3_124, q1_8⟩ (by decide) (by decide) rfl) ?_
  refine x_bok.cons (xs_invSN d_M_sendTotals_4 sn_C_demand is_C_demand ⟨q2_71, q2_72, q1_1⟩ (by decide) (by decide) rfl) ?_
  refine x_bok.cons (xs_iconst d_M_sendTotals_7 (by decide)) ?_
  refine x_bok.cons (xs_istore_n d_M_sendTotals_8 rfl (by decide)) ?_
  refine x_bok.cons (xs_iconst d_M_sendTotals_9 (by decide)) ?_
  refine x_bok.cons (xs_istore_n d_M_sendTotals_10 rfl (by decide)) ?_
  refine x_bok.cons (xs_iload_n d_M_sendTotals_11 rfl) ?_
  refine x_bok.cons (xs_aload_n d_M_sendTotals_12 rfl) ?_
  refine x_bok.cons (xs_get d_M_sendTotals_13 xc3 xw3 (by decide) q1_168 (Or.inl rfl)) ?_
  refine x_bok.cons (xs_invV d_M_sendTotals_16 xc4 sn_J_size is_J_size ⟨q3_130, q3_131, q3_132, q1_7⟩ (by decide) (by decide) rfl) ?_
  refine x_bok.cons (xs_icmp_ge d_M_sendTotals_19 (by decide)) ?_
  refine x_bok.cons (xs_aload_n d_M_sendTotals_22 rfl) ?_
  refine x_bok.cons (xs_get d_M_sendTotals_23 xc3 xw3 (by decide) q1_168 (Or.inl rfl)) ?_
  refine x_bok.cons (xs_iload_n d_M_sendTotals_26 rfl) ?_
  refine x_bok.cons (xs_invV d_M_sendTotals_27 xc4 sn_J_entry is_J_entry ⟨q3_134, q3_135, q3_136, q1_7⟩ (by decide) (by decide) rfl) ?_
  refine x_bok.cons (xs_astore_n d_M_sendTotals_30 rfl (by decide)) ?_
  refine x_bok.cons (xs_aload_n d_M_sendTotals_31 rfl) ?_
  refine x_bok.cons (xs_invV d_M_sendTotals_32 xc6 sn_E_kind is_E_kind ⟨q3_140, q3_141, q3_142, q1_21⟩ (by decide) (by decide) rfl) ?_
  refine x_bok.cons (xs_iconst d_M_sendTotals_35 (by decide)) ?_
  refine x_bok.cons (xs_icmp_ne d_M_sendTotals_36 (by decide)) ?_
  refine x_bok.cons (xs_iload_n d_M_sendTotals_39 rfl) ?_
  refine x_bok.cons (xs_aload_n d_M_sendTotals_40 rfl) ?_
  refine x_bok.cons (xs_invV d_M_sendTotals_41 xc6 sn_E_value is_E_value ⟨q3_107, q3_108, q3_109, q1_21⟩ (by decide) (by decide) rfl) ?_
  refine x_bok.cons (xs_iadd d_M_sendTotals_44) ?_
  refine x_bok.cons (xs_istore_n d_M_sendTotals_45 rfl (by decide)) ?_
  refine x_bok.cons (xs_iinc d_M_sendTotals_46 (by decide) (by decide)) ?_
  refine x_bok.cons (xs_goto d_M_sendTotals_49 (by decide)) ?_
  refine x_bok.cons (xs_aload_n d_M_sendTotals_52 rfl) ?_
  refine x_bok.cons (xs_get d_M_sendTotals_53 xc3 xw3 (by decide) q1_166 (Or.inl rfl)) ?_
  refine x_bok.cons (xs_gets d_M_sendTotals_56 (List.mem_of_getElem? (i := 8) rfl) q3_144 (Or.inl rfl)) ?_
  refine x_bok.cons (xs_aload_n d_M_sendTotals_59 rfl) ?_
  refine x_bok.cons (xs_get d_M_sendTotals_60 xc3 xw3 (by decide) q1_165 (Or.inl rfl)) ?_
  refine x_bok.cons (xs_aload_n d_M_sendTotals_63 rfl) ?_
  refine x_bok.cons (xs_get d_M_sendTotals_64 xc3 xw3 (by decide) q1_175 (Or.inl rfl)) ?_
  refine x_bok.cons (xs_iconst d_M_sendTotals_67 (by decide)) ?_
  refine x_bok.cons (xs_iload_n d_M_sendTotals_68 rfl) ?_
  refine x_bok.cons (xs_iconst d_M_sendTotals_69 (by decide)) ?_
  refine x_bok.cons (xs_invV d_M_sendTotals_70 xc1 sn_N_send is_N_send ⟨q3_23, q3_24, q3_25, q1_2⟩ (by decide) (by decide) rfl) ?_
  refine x_bok.cons (xs_pop d_M_sendTotals_73) ?_
  refine x_bok.cons (xs_iload_n d_M_sendTotals_74 rfl) ?_
  refine x_bok.cons (xs_iret d_M_sendTotals_75 rfl) ?_
  exact x_bok.nil
set_option maxRecDepth 100000 in
theorem mn_M_sendTotals : x_bmn b_M_sendTotals := by
  unfold b_M_sendTotals
  refine x_bmn.cons (xm_aload) ?_
  refine x_bmn.cons (xm_invV ym_M_isQuiet) ?_
  refine x_bmn.cons (xm_invS ym_C_demand) ?_
  refine x_bmn.cons (xm_push) ?_
  refine x_bmn.cons (xm_istore) ?_
  refine x_bmn.cons (xm_push) ?_
  refine x_bmn.cons (xm_istore) ?_
  refine x_bmn.cons (xm_iload) ?_
  refine x_bmn.cons (xm_aload) ?_
  refine x_bmn.cons (xm_get) ?_
  refine x_bmn.cons (xm_invV ym_J_size) ?_
  refine x_bmn.cons (xm_icmp) ?_
  refine x_bmn.cons (xm_aload) ?_
  refine x_bmn.cons (xm_get) ?_
  refine x_bmn.cons (xm_iload) ?_
  refine x_bmn.cons (xm_invV ym_J_entry) ?_
  refine x_bmn.cons (xm_astore) ?_
  refine x_bmn.cons (xm_aload) ?_
  refine x_bmn.cons (xm_invV ym_E_kind) ?_
  refine x_bmn.cons (xm_push) ?_
  refine x_bmn.cons (xm_icmp) ?_
  refine x_bmn.cons (xm_iload) ?_
  refine x_bmn.cons (xm_aload) ?_
  refine x_bmn.cons (xm_invV ym_E_value) ?_
  refine x_bmn.cons (xm_bin) ?_
  refine x_bmn.cons (xm_istore) ?_
  refine x_bmn.cons (xm_iinc) ?_
  refine x_bmn.cons (xm_goto) ?_
  refine x_bmn.cons (xm_aload) ?_
  refine x_bmn.cons (xm_get) ?_
  refine x_bmn.cons (xm_push) ?_
  refine x_bmn.cons (xm_aload) ?_
  refine x_bmn.cons (xm_get) ?_
  refine x_bmn.cons (xm_aload) ?_
  refine x_bmn.cons (xm_get) ?_
  refine x_bmn.cons (xm_push) ?_
  refine x_bmn.cons (xm_iload) ?_
  refine x_bmn.cons (xm_push) ?_
  refine x_bmn.cons (xm_invV ym_N_send) ?_
  refine x_bmn.cons (xm_pop) ?_
  refine x_bmn.cons (xm_iload) ?_
  refine x_bmn.cons (xm_iret) ?_
  exact x_bmn.nil
theorem is_M_sendTotals : x_Is y_M_sendTotals m_M_sendTotals := x_is_code q3_121
def Y_M_sendTotals : XMeth := x_do 4 b_M_sendTotals
theorem sn_M_sendTotals : x_Snd y_M_sendTotals m_M_sendTotals Y_M_sendTotals := x_snd_of (by decide) rfl rfl is_M_sendTotals k_M_sendTotals
theorem ym_M_sendTotals : x_Ymn Y_M_sendTotals := x_ymn_of mn_M_sendTotals
/- CashLink.settle(I)I -/
abbrev c_C_settle : ByteArray := prog_1_method_7_code
def y_C_settle : MethodName := ⟨"CashLink", "settle", "(I)I"⟩
theorem d_C_settle_0 : decode c_C_settle 0 = .ok (.aload_n 0, 1) := by decide +kernel
theorem d_C_settle_1 : decode c_C_settle 1 = .ok (.iload_n 1, 1) := by decide +kernel
theorem d_C_settle_2 : decode c_C_settle 2 = .ok (.invokevirtual 38, 3) := by decide +kernel
theorem d_C_settle_5 : decode c_C_settle 5 = .ok (.invokevirtual 68, 3) := by decide +kernel
theorem d_C_settle_8 : decode c_C_settle 8 = .ok (.ireturn, 1) := by decide +kernel
def m_C_settle : XM := ("CashLink", c_C_settle, 2, (some .int), "settle", [], 9, 206)
def b_C_settle : XB := [(0, X_aload 0 1),
  (1, X_iload 1 1),
  (2, X_invV 0 Y_C_machineAt 1 []),
  (5, X_invV 3 Y_M_sendTotals 0 []),
  (8, X_iret)]
set_option maxRecDepth 100000 in
theorem k_C_settle : x_bok m_C_settle b_C_settle := by
  unfold b_C_settle
  refine x_bok.cons (xs_aload_n d_C_settle_0 rfl) ?_
  refine x_bok.cons (xs_iload_n d_C_settle_1 rfl) ?_
  refine x_bok.cons (xs_invV d_C_settle_2 xc0 sn_C_machineAt is_C_machineAt ⟨q1_223, q1_225, (x_sel (x_p1 (List.mem_of_getElem? (i := 0) rfl))), q1_1⟩ (by decide) (by decide) rfl) ?_
  refine x_bok.cons (xs_invV d_C_settle_5 xc3 sn_M_sendTotals is_M_sendTotals ⟨q3_118, q3_119, q3_120, q1_8⟩ (by decide) (by decide) rfl) ?_
  refine x_bok.cons (xs_iret d_C_settle_8 rfl) ?_
  exact x_bok.nil
set_option maxRecDepth 100000 in
theorem mn_C_settle : x_bmn b_C_settle := by
  unfold b_C_settle
  refine x_bmn.cons (xm_aload) ?_
  refine x_bmn.cons (xm_iload) ?_
  refine x_bmn.cons (xm_invV ym_C_machineAt) ?_
  refine x_bmn.cons (xm_invV ym_M_sendTotals) ?_
  refine x_bmn.cons (xm_iret) ?_
  exact x_bmn.nil
theorem is_C_settle : x_Is y_C_settle m_C_settle := x_is_code q3_117
def Y_C_settle : XMeth := x_do 2 b_C_settle
theorem sn_C_settle : x_Snd y_C_settle m_C_settle Y_C_settle := x_snd_of (by decide) rfl rfl is_C_settle k_C_settle
theorem ym_C_settle : x_Ymn Y_C_settle := x_ymn_of mn_C_settle
