/- java/lang/AbstractStringBuilder.setCharAt(IC)V -/
abbrev c_ZAbstractStringBuilder_setCharAt : ByteArray := prog_14_method_20_code
def y_ZAbstractStringBuilder_setCharAt : MethodName := ⟨"java/lang/AbstractStringBuilder", "setCharAt", "(IC)V"⟩
theorem d_ZAbstractStringBuilder_setCharAt_0 : decode c_ZAbstractStringBuilder_setCharAt 0 = .ok (.iload_n 1, 1) := by decide +kernel
theorem d_ZAbstractStringBuilder_setCharAt_1 : decode c_ZAbstractStringBuilder_setCharAt 1 = .ok (.aload_n 0, 1) := by decide +kernel
theorem d_ZAbstractStringBuilder_setCharAt_2 : decode c_ZAbstractStringBuilder_setCharAt 2 = .ok (.getfield 79, 3) := by decide +kernel
theorem d_ZAbstractStringBuilder_setCharAt_5 : decode c_ZAbstractStringBuilder_setCharAt 5 = .ok (.invokestatic 144, 3) := by decide +kernel
theorem d_ZAbstractStringBuilder_setCharAt_8 : decode c_ZAbstractStringBuilder_setCharAt 8 = .ok (.aload_n 0, 1) := by decide +kernel
theorem d_ZAbstractStringBuilder_setCharAt_9 : decode c_ZAbstractStringBuilder_setCharAt 9 = .ok (.invokevirtual 83, 3) := by decide +kernel
theorem d_ZAbstractStringBuilder_setCharAt_12 : decode c_ZAbstractStringBuilder_setCharAt 12 = .ok (.ifCond .eq 21, 3) := by decide +kernel
theorem d_ZAbstractStringBuilder_setCharAt_15 : decode c_ZAbstractStringBuilder_setCharAt 15 = .ok (.iload_n 2, 1) := by decide +kernel
theorem d_ZAbstractStringBuilder_setCharAt_16 : decode c_ZAbstractStringBuilder_setCharAt 16 = .ok (.invokestatic 191, 3) := by decide +kernel
theorem d_ZAbstractStringBuilder_setCharAt_19 : decode c_ZAbstractStringBuilder_setCharAt 19 = .ok (.ifCond .eq 14, 3) := by decide +kernel
theorem d_ZAbstractStringBuilder_setCharAt_22 : decode c_ZAbstractStringBuilder_setCharAt 22 = .ok (.aload_n 0, 1) := by decide +kernel
theorem d_ZAbstractStringBuilder_setCharAt_23 : decode c_ZAbstractStringBuilder_setCharAt 23 = .ok (.getfield 15, 3) := by decide +kernel
theorem d_ZAbstractStringBuilder_setCharAt_26 : decode c_ZAbstractStringBuilder_setCharAt 26 = .ok (.iload_n 1, 1) := by decide +kernel
theorem d_ZAbstractStringBuilder_setCharAt_27 : decode c_ZAbstractStringBuilder_setCharAt 27 = .ok (.iload_n 2, 1) := by decide +kernel
theorem d_ZAbstractStringBuilder_setCharAt_28 : decode c_ZAbstractStringBuilder_setCharAt 28 = .ok (.i2b, 1) := by decide +kernel
theorem d_ZAbstractStringBuilder_setCharAt_29 : decode c_ZAbstractStringBuilder_setCharAt 29 = .ok (.bastore, 1) := by decide +kernel
theorem d_ZAbstractStringBuilder_setCharAt_30 : decode c_ZAbstractStringBuilder_setCharAt 30 = .ok (.goto 28, 3) := by decide +kernel
theorem d_ZAbstractStringBuilder_setCharAt_33 : decode c_ZAbstractStringBuilder_setCharAt 33 = .ok (.aload_n 0, 1) := by decide +kernel
theorem d_ZAbstractStringBuilder_setCharAt_34 : decode c_ZAbstractStringBuilder_setCharAt 34 = .ok (.invokevirtual 83, 3) := by decide +kernel
theorem d_ZAbstractStringBuilder_setCharAt_37 : decode c_ZAbstractStringBuilder_setCharAt 37 = .ok (.ifCond .eq 7, 3) := by decide +kernel
theorem d_ZAbstractStringBuilder_setCharAt_40 : decode c_ZAbstractStringBuilder_setCharAt 40 = .ok (.aload_n 0, 1) := by decide +kernel
theorem d_ZAbstractStringBuilder_setCharAt_41 : decode c_ZAbstractStringBuilder_setCharAt 41 = .ok (.invokevirtual 195, 3) := by decide +kernel
theorem d_ZAbstractStringBuilder_setCharAt_44 : decode c_ZAbstractStringBuilder_setCharAt 44 = .ok (.aload_n 0, 1) := by decide +kernel
theorem d_ZAbstractStringBuilder_setCharAt_45 : decode c_ZAbstractStringBuilder_setCharAt 45 = .ok (.getfield 15, 3) := by decide +kernel
theorem d_ZAbstractStringBuilder_setCharAt_48 : decode c_ZAbstractStringBuilder_setCharAt 48 = .ok (.iload_n 1, 1) := by decide +kernel
theorem d_ZAbstractStringBuilder_setCharAt_49 : decode c_ZAbstractStringBuilder_setCharAt 49 = .ok (.iload_n 2, 1) := by decide +kernel
theorem d_ZAbstractStringBuilder_setCharAt_50 : decode c_ZAbstractStringBuilder_setCharAt 50 = .ok (.invokestatic 197, 3) := by decide +kernel
theorem d_ZAbstractStringBuilder_setCharAt_53 : decode c_ZAbstractStringBuilder_setCharAt 53 = .ok (.aload_n 0, 1) := by decide +kernel
theorem d_ZAbstractStringBuilder_setCharAt_54 : decode c_ZAbstractStringBuilder_setCharAt 54 = .ok (.iconst 1, 1) := by decide +kernel
theorem d_ZAbstractStringBuilder_setCharAt_55 : decode c_ZAbstractStringBuilder_setCharAt 55 = .ok (.putfield 73, 3) := by decide +kernel
theorem d_ZAbstractStringBuilder_setCharAt_58 : decode c_ZAbstractStringBuilder_setCharAt 58 = .ok (.return_, 1) := by decide +kernel
def m_ZAbstractStringBuilder_setCharAt : XM := ("java/lang/AbstractStringBuilder", c_ZAbstractStringBuilder_setCharAt, 3, none, "setCharAt", [], 2, 43)
def b_ZAbstractStringBuilder_setCharAt : XB := [(0, X_iload 1 1),
  (1, X_aload 0 1),
  (2, X_get 9 3),
  (5, X_invS Y_ZString_checkIndex 2 []),
  (8, X_aload 0 1),
  (9, X_invV 9 Y_ZAbstractStringBuilder_isLatin1 0 []),
  (12, X_if (fun x => x = 0) 33),
  (15, X_iload 2 1),
  (16, X_invS Y_ZStringLatin1_canEncode 1 []),
  (19, X_if (fun x => x = 0) 33),
  (22, X_aload 0 1),
  (23, X_get 9 0),
  (26, X_iload 1 1),
  (27, X_iload 2 1),
  (28, X_un (fun x => x.toInt8.toInt32)),
  (29, X_ast 2 (fun x => x.toInt8.toInt32)),
  (30, X_goto 58),
  (33, X_aload 0 1),
  (34, X_invV 9 Y_ZAbstractStringBuilder_isLatin1 0 []),
  (37, X_if (fun x => x = 0) 44),
  (40, X_aload 0 1),
  (41, X_bad),
  (44, X_aload 0 1),
  (45, X_get 9 0),
  (48, X_iload 1 1),
  (49, X_iload 2 1),
  (50, X_bad),
  (53, X_aload 0 1),
  (54, X_push (xv_i 1) 1),
  (55, X_put x_tZ 9 2),
  (58, X_vret)]
set_option maxRecDepth 100000 in
theorem k_ZAbstractStringBuilder_setCharAt : x_bok m_ZAbstractStringBuilder_setCharAt b_ZAbstractStringBuilder_setCharAt := by
  unfold b_ZAbstractStringBuilder_setCharAt
  refine x_bok.cons (xs_iload_n d_ZAbstractStringBuilder_setCharAt_0 rfl) ?_
  refine x_bok.cons (xs_aload_n d_ZAbstractStringBuilder_setCharAt_1 rfl) ?_
  refine x_bok.cons (xs_get d_ZAbstractStringBuilder_setCharAt_2 xc9 xw9 (by decide) q4_238 (Or.inl rfl)) ?_
  refine x_bok.cons (xs_invS d_ZAbstractStringBuilder_setCharAt_5 sn_ZString_checkIndex is_ZString_checkIndex ⟨q5_154, q5_134, q1_33⟩ (by decide) (by decide) rfl) ?_
  refine x_bok.cons (xs_aload_n d_ZAbstractStringBuilder_setCharAt_8 rfl) ?_
  refine x_bok.cons (xs_invV d_ZAbstractStringBuilder_setCharAt_9 xc9 sn_ZAbstractStringBuilder_isLatin1 is_ZAbstractStringBuilder_isLatin1 ⟨q5_39, q5_40, q5_42, q1_31⟩ (by decide) (by decide) rfl) ?_
  refine x_bok.cons (xs_if_eq d_ZAbstractStringBuilder_setCharAt_12 (by decide)) ?_
  refine x_bok.cons (xs_iload_n d_ZAbstractStringBuilder_setCharAt_15 rfl) ?_
  refine x_bok.cons (xs_invS d_ZAbstractStringBuilder_setCharAt_16 sn_ZStringLatin1_canEncode is_ZStringLatin1_canEncode ⟨q5_124, q5_125, q1_35⟩ (by decide) (by decide) rfl) ?_
  refine x_bok.cons (xs_if_eq d_ZAbstractStringBuilder_setCharAt_19 (by decide)) ?_
  refine x_bok.cons (xs_aload_n d_ZAbstractStringBuilder_setCharAt_22 rfl) ?_
  refine x_bok.cons (xs_get d_ZAbstractStringBuilder_setCharAt_23 xc9 xw9 (by decide) q4_235 (Or.inl rfl)) ?_
  refine x_bok.cons (xs_iload_n d_ZAbstractStringBuilder_setCharAt_26 rfl) ?_
  refine x_bok.cons (xs_iload_n d_ZAbstractStringBuilder_setCharAt_27 rfl) ?_
  refine x_bok.cons (xs_i2b d_ZAbstractStringBuilder_setCharAt_28) ?_
  refine x_bok.cons (xs_bast d_ZAbstractStringBuilder_setCharAt_29 rfl) ?_
  refine x_bok.cons (xs_goto d_ZAbstractStringBuilder_setCharAt_30 (by decide)) ?_
  refine x_bok.cons (xs_aload_n d_ZAbstractStringBuilder_setCharAt_33 rfl) ?_
  refine x_bok.cons (xs_invV d_ZAbstractStringBuilder_setCharAt_34 xc9 sn_ZAbstractStringBuilder_isLatin1 is_ZAbstractStringBuilder_isLatin1 ⟨q5_39, q5_40, q5_42, q1_31⟩ (by decide) (by decide) rfl) ?_
  refine x_bok.cons (xs_if_eq d_ZAbstractStringBuilder_setCharAt_37 (by decide)) ?_
  refine x_bok.cons (xs_aload_n d_ZAbstractStringBuilder_setCharAt_40 rfl) ?_
  refine x_bok.cons (xs_bad) ?_
  refine x_bok.cons (xs_aload_n d_ZAbstractStringBuilder_setCharAt_44 rfl) ?_
  refine x_bok.cons (xs_get d_ZAbstractStringBuilder_setCharAt_45 xc9 xw9 (by decide) q4_235 (Or.inl rfl)) ?_
  refine x_bok.cons (xs_iload_n d_ZAbstractStringBuilder_setCharAt_48 rfl) ?_
  refine x_bok.cons (xs_iload_n d_ZAbstractStringBuilder_setCharAt_49 rfl) ?_
  refine x_bok.cons (xs_bad) ?_
  refine x_bok.cons (xs_aload_n d_ZAbstractStringBuilder_setCharAt_53 rfl) ?_
  refine x_bok.cons (xs_iconst d_ZAbstractStringBuilder_setCharAt_54 (by decide)) ?_
  refine x_bok.cons (xs_put d_ZAbstractStringBuilder_setCharAt_55 xc9 xw9 xt9 xn9 (by decide) q4_237 (Or.inl rfl) rfl rfl x_fitZ) ?_
  refine x_bok.cons (xs_vret d_ZAbstractStringBuilder_setCharAt_58 rfl) ?_
  exact x_bok.nil
set_option maxRecDepth 100000 in
theorem mn_ZAbstractStringBuilder_setCharAt : x_bmn b_ZAbstractStringBuilder_setCharAt := by
  unfold b_ZAbstractStringBuilder_setCharAt
  refine x_bmn.cons (xm_iload) ?_
  refine x_bmn.cons (xm_aload) ?_
  refine x_bmn.cons (xm_get) ?_
  refine x_bmn.cons (xm_invS ym_ZString_checkIndex) ?_
  refine x_bmn.cons (xm_aload) ?_
  refine x_bmn.cons (xm_invV ym_ZAbstractStringBuilder_isLatin1) ?_
  refine x_bmn.cons (xm_if) ?_
  refine x_bmn.cons (xm_iload) ?_
  refine x_bmn.cons (xm_invS ym_ZStringLatin1_canEncode) ?_
  refine x_bmn.cons (xm_if) ?_
  refine x_bmn.cons (xm_aload) ?_
  refine x_bmn.cons (xm_get) ?_
  refine x_bmn.cons (xm_iload) ?_
  refine x_bmn.cons (xm_iload) ?_
  refine x_bmn.cons (xm_un) ?_
  refine x_bmn.cons (xm_ast) ?_
  refine x_bmn.cons (xm_goto) ?_
  refine x_bmn.cons (xm_aload) ?_
  refine x_bmn.cons (xm_invV ym_ZAbstractStringBuilder_isLatin1) ?_
  refine x_bmn.cons (xm_if) ?_
  refine x_bmn.cons (xm_aload) ?_
  refine x_bmn.cons (xm_bad) ?_
  refine x_bmn.cons (xm_aload) ?_
  refine x_bmn.cons (xm_get) ?_
  refine x_bmn.cons (xm_iload) ?_
  refine x_bmn.cons (xm_iload) ?_
  refine x_bmn.cons (xm_bad) ?_
  refine x_bmn.cons (xm_aload) ?_
  refine x_bmn.cons (xm_push) ?_
  refine x_bmn.cons (xm_put) ?_
  refine x_bmn.cons (xm_vret) ?_
  exact x_bmn.nil
theorem is_ZAbstractStringBuilder_setCharAt : x_Is y_ZAbstractStringBuilder_setCharAt m_ZAbstractStringBuilder_setCharAt := x_is_code q5_153
def Y_ZAbstractStringBuilder_setCharAt : XMeth := x_do 3 b_ZAbstractStringBuilder_setCharAt
theorem sn_ZAbstractStringBuilder_setCharAt : x_Snd y_ZAbstractStringBuilder_setCharAt m_ZAbstractStringBuilder_setCharAt Y_ZAbstractStringBuilder_setCharAt := x_snd_of (by decide) rfl rfl is_ZAbstractStringBuilder_setCharAt k_ZAbstractStringBuilder_setCharAt
theorem ym_ZAbstractStringBuilder_setCharAt : x_Ymn Y_ZAbstractStringBuilder_setCharAt := x_ymn_of mn_ZAbstractStringBuilder_setCharAt
/- java/lang/StringBuilder.setCharAt(IC)V -/
abbrev c_ZStringBuilder_setCharAt : ByteArray := prog_27_method_82_code
def y_ZStringBuilder_setCharAt : MethodName := ⟨"java/lang/StringBuilder", "setCharAt", "(IC)V"⟩
theorem d_ZStringBuilder_setCharAt_0 : decode c_ZStringBuilder_setCharAt 0 = .ok (.aload_n 0, 1) := by decide +kernel
theorem d_ZStringBuilder_setCharAt_1 : decode c_ZStringBuilder_setCharAt 1 = .ok (.iload_n 1, 1) := by decide +kernel
theorem d_ZStringBuilder_setCharAt_2 : decode c_ZStringBuilder_setCharAt 2 = .ok (.iload_n 2, 1) := by decide +kernel
theorem d_ZStringBuilder_setCharAt_3 : decode c_ZStringBuilder_setCharAt 3 = .ok (.invokespecial 308, 3) := by decide +kernel
theorem d_ZStringBuilder_setCharAt_6 : decode c_ZStringBuilder_setCharAt 6 = .ok (.return_, 1) := by decide +kernel
def m_ZStringBuilder_setCharAt : XM := ("java/lang/StringBuilder", c_ZStringBuilder_setCharAt, 3, none, "setCharAt", [], 3, 65)
def b_ZStringBuilder_setCharAt : XB := [(0, X_aload 0 1),
  (1, X_iload 1 1),
  (2, X_iload 2 1),
  (3, X_invV 9 Y_ZAbstractStringBuilder_setCharAt 2 []),
  (6, X_vret)]
set_option maxRecDepth 100000 in
theorem k_ZStringBuilder_setCharAt : x_bok m_ZStringBuilder_setCharAt b_ZStringBuilder_setCharAt := by
  unfold b_ZStringBuilder_setCharAt
  refine x_bok.cons (xs_aload_n d_ZStringBuilder_setCharAt_0 rfl) ?_
  refine x_bok.cons (xs_iload_n d_ZStringBuilder_setCharAt_1 rfl) ?_
  refine x_bok.cons (xs_iload_n d_ZStringBuilder_setCharAt_2 rfl) ?_
  refine x_bok.cons (xs_invU d_ZStringBuilder_setCharAt_3 xc9 sn_ZAbstractStringBuilder_setCharAt is_ZAbstractStringBuilder_setCharAt ⟨q5_151, q5_152, ⟨q5_7, q7_2, by decide⟩, q1_31⟩ (by decide) (by decide) rfl) ?_
  refine x_bok.cons (xs_vret d_ZStringBuilder_setCharAt_6 rfl) ?_
  exact x_bok.nil
set_option maxRecDepth 100000 in
theorem mn_ZStringBuilder_setCharAt : x_bmn b_ZStringBuilder_setCharAt := by
  unfold b_ZStringBuilder_setCharAt
  refine x_bmn.cons (xm_aload) ?_
  refine x_bmn.cons (xm_iload) ?_
  refine x_bmn.cons (xm_iload) ?_
  refine x_bmn.cons (xm_invV ym_ZAbstractStringBuilder_setCharAt) ?_
  refine x_bmn.cons (xm_vret) ?_
  exact x_bmn.nil
theorem is_ZStringBuilder_setCharAt : x_Is y_ZStringBuilder_setCharAt m_ZStringBuilder_setCharAt := x_is_code q5_150
def Y_ZStringBuilder_setCharAt : XMeth := x_do 3 b_ZStringBuilder_setCharAt
theorem sn_ZStringBuilder_setCharAt : x_Snd y_ZStringBuilder_setCharAt m_ZStringBuilder_setCharAt Y_ZStringBuilder_setCharAt := x_snd_of (by decide) rfl rfl is_ZStringBuilder_setCharAt k_ZStringBuilder_setCharAt
theorem ym_ZStringBuilder_setCharAt : x_Ymn Y_ZStringBuilder_setCharAt := x_ymn_of mn_ZStringBuilder_setCharAt
/- CashLink$Message.appendDigits(Ljava/lang/StringBuilder;II)V -/
abbrev c_G_appendDigits : ByteArray := prog_7_method_4_code
def y_G_appendDigits : MethodName := ⟨"CashLink$Message", "appendDigits", "(Ljava/lang/StringBuilder;II)V"⟩
theorem d_G_appendDigits_0 : decode c_G_appendDigits 0 = .ok (.aload_n 0, 1) := by decide +kernel
theorem d_G_appendDigits_1 : decode c_G_appendDigits 1 = .ok (.invokevirtual 63, 3) := by decide +kernel
theorem d_G_appendDigits_4 : decode c_G_appendDigits 4 = .ok (.istore_n 3, 1) := by decide +kernel
theorem d_G_appendDigits_5 : decode c_G_appendDigits 5 = .ok (.iconst 0, 1) := by decide +kernel
theorem d_G_appendDigits_6 : decode c_G_appendDigits 6 = .ok (.istore 4, 2) := by decide +kernel
theorem d_G_appendDigits_8 : decode c_G_appendDigits 8 = .ok (.iload 4, 2) := by decide +kernel
theorem d_G_appendDigits_10 : decode c_G_appendDigits 10 = .ok (.iload_n 2, 1) := by decide +kernel
theorem d_G_appendDigits_11 : decode c_G_appendDigits 11 = .ok (.if_icmp .ge 16, 3) := by decide +kernel
theorem d_G_appendDigits_14 : decode c_G_appendDigits 14 = .ok (.aload_n 0, 1) := by decide +kernel
theorem d_G_appendDigits_15 : decode c_G_appendDigits 15 = .ok (.bipush 48, 2) := by decide +kernel
theorem d_G_appendDigits_17 : decode c_G_appendDigits 17 = .ok (.invokevirtual 60, 3) := by decide +kernel
theorem d_G_appendDigits_20 : decode c_G_appendDigits 20 = .ok (.pop, 1) := by decide +kernel
theorem d_G_appendDigits_21 : decode c_G_appendDigits 21 = .ok (.iinc 4 1, 3) := by decide +kernel
theorem d_G_appendDigits_24 : decode c_G_appendDigits 24 = .ok (.goto (-16), 3) := by decide +kernel
theorem d_G_appendDigits_27 : decode c_G_appendDigits 27 = .ok (.iload_n 1, 1) := by decide +kernel
theorem d_G_appendDigits_28 : decode c_G_appendDigits 28 = .ok (.istore 4, 2) := by decide +kernel
theorem d_G_appendDigits_30 : decode c_G_appendDigits 30 = .ok (.iload_n 3, 1) := by decide +kernel
theorem d_G_appendDigits_31 : decode c_G_appendDigits 31 = .ok (.iload_n 2, 1) := by decide +kernel
theorem d_G_appendDigits_32 : decode c_G_appendDigits 32 = .ok (.iadd, 1) := by decide +kernel
theorem d_G_appendDigits_33 : decode c_G_appendDigits 33 = .ok (.iconst 1, 1) := by decide +kernel
theorem d_G_appendDigits_34 : decode c_G_appendDigits 34 = .ok (.isub, 1) := by decide +kernel
theorem d_G_appendDigits_35 : decode c_G_appendDigits 35 = .ok (.istore 5, 2) := by decide +kernel
theorem d_G_appendDigits_37 : decode c_G_appendDigits 37 = .ok (.iload 5, 2) := by decide +kernel
theorem d_G_appendDigits_39 : decode c_G_appendDigits 39 = .ok (.iload_n 3, 1) := by decide +kernel
theorem d_G_appendDigits_40 : decode c_G_appendDigits 40 = .ok (.if_icmp .lt 31, 3) := by decide +kernel
theorem d_G_appendDigits_43 : decode c_G_appendDigits 43 = .ok (.aload_n 0, 1) := by decide +kernel
theorem d_G_appendDigits_44 : decode c_G_appendDigits 44 = .ok (.iload 5, 2) := by decide +kernel
theorem d_G_appendDigits_46 : decode c_G_appendDigits 46 = .ok (.bipush 48, 2) := by decide +kernel
theorem d_G_appendDigits_48 : decode c_G_appendDigits 48 = .ok (.iload 4, 2) := by decide +kernel
theorem d_G_appendDigits_50 : decode c_G_appendDigits 50 = .ok (.bipush 10, 2) := by decide +kernel
theorem d_G_appendDigits_52 : decode c_G_appendDigits 52 = .ok (.irem, 1) := by decide +kernel
theorem d_G_appendDigits_53 : decode c_G_appendDigits 53 = .ok (.iadd, 1) := by decide +kernel
theorem d_G_appendDigits_54 : decode c_G_appendDigits 54 = .ok (.i2c, 1) := by decide +kernel
theorem d_G_appendDigits_55 : decode c_G_appendDigits 55 = .ok (.invokevirtual 67, 3) := by decide +kernel
theorem d_G_appendDigits_58 : decode c_G_appendDigits 58 = .ok (.iload 4, 2) := by decide +kernel
theorem d_G_appendDigits_60 : decode c_G_appendDigits 60 = .ok (.bipush 10, 2) := by decide +kernel
theorem d_G_appendDigits_62 : decode c_G_appendDigits 62 = .ok (.idiv, 1) := by decide +kernel
theorem d_G_appendDigits_63 : decode c_G_appendDigits 63 = .ok (.istore 4, 2) := by decide +kernel
theorem d_G_appendDigits_65 : decode c_G_appendDigits 65 = .ok (.iinc 5 (-1), 3) := by decide +kernel
theorem d_G_appendDigits_68 : decode c_G_appendDigits 68 = .ok (.goto (-31), 3) := by decide +kernel
theorem d_G_appendDigits_71 : decode c_G_appendDigits 71 = .ok (.return_, 1) := by decide +kernel
def m_G_appendDigits : XM := ("CashLink$Message", c_G_appendDigits, 6, none, "appendDigits", [], 6, 133)
def b_G_appendDigits : XB := [(0, X_aload 0 1),
  (1, X_invV 9 Y_ZStringBuilder_length 0 []),
  (4, X_istore 3 1),
  (5, X_push (xv_i 0) 1),
  (6, X_istore 4 2),
  (8, X_iload 4 2),
  (10, X_iload 2 1),
  (11, X_icmp (fun x y => y ≤ x) 27),
  (14, X_aload 0 1),
  (15, X_push (xv_i 48) 2),
  (17, X_invV 9 Y_ZStringBuilder_append_2 1 []),
  (20, X_pop),
  (21, X_iinc 4 1),
  (24, X_goto 8),
  (27, X_iload 1 1),
  (28, X_istore 4 2),
  (30, X_iload 3 1),
  (31, X_iload 2 1),
  (32, X_bin (fun x y => x + y)),
  (33, X_push (xv_i 1) 1),
  (34, X_bin (fun x y => x - y)),
  (35, X_istore 5 2),
  (37, X_iload 5 2),
  (39, X_iload 3 1),
  (40, X_icmp (fun x y => x < y) 71),
  (43, X_aload 0 1),
  (44, X_iload 5 2),
  (46, X_push (xv_i 48) 2),
  (48, X_iload 4 2),
  (50, X_push (xv_i 10) 2),
  (52, X_rem),
  (53, X_bin (fun x y => x + y)),
  (54, X_un (fun x => (x.toUInt32 % 65536).toInt32)),
  (55, X_invV 9 Y_ZStringBuilder_setCharAt 2 []),
  (58, X_iload 4 2),
  (60, X_push (xv_i 10) 2),
  (62, X_div),
  (63, X_istore 4 2),
  (65, X_iinc 5 (-1)),
  (68, X_goto 37),
  (71, X_vret)]
set_option maxRecDepth 100000 in
theorem k_G_appendDigits : x_bok m_G_appendDigits b_G_appendDigits := by
  unfold b_G_appendDigits
  refine x_bok.cons (xs_aload_n d_G_appendDigits_0 rfl) ?_
  refine x_bok.cons (xs_invV d_G_appendDigits_1 xc9 sn_ZStringBuilder_length is_ZStringBuilder_length ⟨q5_140, q5_141, q5_142, q1_32⟩ (by decide) (by decide) rfl) ?_
  refine x_bok.cons (xs_istore_n d_G_appendDigits_4 rfl (by decide)) ?_
  refine x_bok.cons (xs_iconst d_G_appendDigits_5 (by decide)) ?_
  refine x_bok.cons (xs_istore d_G_appendDigits_6 (by decide)) ?_
  refine x_bok.cons (xs_iload d_G_appendDigits_8) ?_
  refine x_bok.cons (xs_iload_n d_G_appendDigits_10 rfl) ?_
  refine x_bok.cons (xs_icmp_ge d_G_appendDigits_11 (by decide)) ?_
  refine x_bok.cons (xs_aload_n d_G_appendDigits_14 rfl) ?_
  refine x_bok.cons (xs_bipush d_G_appendDigits_15 (by decide)) ?_
  refine x_bok.cons (xs_invV d_G_appendDigits_17 xc9 sn_ZStringBuilder_append_2 is_ZStringBuilder_append_2 ⟨q5_117, q5_118, q5_119, q1_32⟩ (by decide) (by decide) rfl) ?_
  refine x_bok.cons (xs_pop d_G_appendDigits_20) ?_
  refine x_bok.cons (xs_iinc d_G_appendDigits_21 (by decide) (by decide)) ?_
  refine x_bok.cons (xs_goto d_G_appendDigits_24 (by decide)) ?_
  refine x_bok.cons (xs_iload_n d_G_appendDigits_27 rfl) ?_
  refine x_bok.cons (xs_istore d_G_appendDigits_28 (by decide)) ?_
  refine x_bok.cons (xs_iload_n d_G_appendDigits_30 rfl) ?_
  refine x_bok.cons (xs_iload_n d_G_appendDigits_31 rfl) ?_
  refine x_bok.cons (xs_iadd d_G_appendDigits_32) ?_
  refine x_bok.cons (xs_iconst d_G_appendDigits_33 (by decide)) ?_
  refine x_bok.cons (xs_isub d_G_appendDigits_34) ?_
  refine x_bok.cons (xs_istore d_G_appendDigits_35 (by decide)) ?_
  refine x_bok.cons (xs_iload d_G_appendDigits_37) ?_
  refine x_bok.cons (xs_iload_n d_G_appendDigits_39 rfl) ?_
  refine x_bok.cons (xs_icmp_lt d_G_appendDigits_40 (by decide)) ?_
  refine x_bok.cons (xs_aload_n d_G_appendDigits_43 rfl) ?_
  refine x_bok.cons (xs_iload d_G_appendDigits_44) ?_
  refine x_bok.cons (xs_bipush d_G_appendDigits_46 (by decide)) ?_
  refine x_bok.cons (xs_iload d_G_appendDigits_48) ?_
  refine x_bok.cons (xs_bipush d_G_appendDigits_50 (by decide)) ?_
  refine x_bok.cons (xs_irem d_G_appendDigits_52) ?_
  refine x_bok.cons (xs_iadd d_G_appendDigits_53) ?_
  refine x_bok.cons (xs_i2c d_G_appendDigits_54) ?_
  refine x_bok.cons (xs_invV d_G_appendDigits_55 xc9 sn_ZStringBuilder_setCharAt is_ZStringBuilder_setCharAt ⟨q5_147, q5_148, q5_149, q1_32⟩ (by decide) (by decide) rfl) ?_
  refine x_bok.cons (xs_iload d_G_appendDigits_58) ?_
  refine x_bok.cons (xs_bipush d_G_appendDigits_60 (by decide)) ?_
  refine x_bok.cons (xs_idiv d_G_appendDigits_62) ?_
  refine x_bok.cons (xs_istore d_G_appendDigits_63 (by decide)) ?_
  refine x_bok.cons (xs_iinc d_G_appendDigits_65 (by decide) (by decide)) ?_
  refine x_bok.cons (xs_goto d_G_appendDigits_68 (by decide)) ?_
  refine x_bok.cons (xs_vret d_G_appendDigits_71 rfl) ?_
  exact x_bok.nil
set_option maxRecDepth 100000 in
theorem mn_G_appendDigits : x_bmn b_G_appendDigits := by
  unfold b_G_appendDigits
  refine x_bmn.cons (xm_aload) ?_
  refine x_bmn.cons (xm_invV ym_ZStringBuilder_length) ?_
  refine x_bmn.cons (xm_istore) ?_
  refine x_bmn.cons (xm_push) ?_
  refine x_bmn.cons (xm_istore) ?_
  refine x_bmn.cons (xm_iload) ?_
  refine x_bmn.cons (xm_iload) ?_
  refine x_bmn.cons (xm_icmp) ?_
  refine x_bmn.cons (xm_aload) ?_
  refine x_bmn.cons (xm_push) ?_
  refine x_bmn.cons (xm_invV ym_ZStringBuilder_append_2) ?_
  refine x_bmn.cons (xm_pop) ?_
  refine x_bmn.cons (xm_iinc) ?_
  refine x_bmn.cons (xm_goto) ?_
  refine x_bmn.cons (xm_iload) ?_
  refine x_bmn.cons (xm_istore) ?_
  refine x_bmn.cons (xm_iload) ?_
  refine x_bmn.cons (xm_iload) ?_
  refine x_bmn.cons (xm_bin) ?_
  refine x_bmn.cons (xm_push) ?_
  refine x_bmn.cons (xm_bin) ?_
  refine x_bmn.cons (xm_istore) ?_
  refine x_bmn.cons (xm_iload) ?_
  refine x_bmn.cons (xm_iload) ?_
  refine x_bmn.cons (xm_icmp) ?_
  refine x_bmn.cons (xm_aload) ?_
  refine x_bmn.cons (xm_iload) ?_
  refine x_bmn.cons (xm_push) ?_
  refine x_bmn.cons (xm_iload) ?_
  refine x_bmn.cons (xm_push) ?_
  refine x_bmn.cons (xm_rem) ?_
  refine x_bmn.cons (xm_bin) ?_
  refine x_bmn.cons (xm_un) ?_
  refine x_bmn.cons (xm_invV ym_ZStringBuilder_setCharAt) ?_
  refine x_bmn.cons (xm_iload) ?_
  refine x_bmn.cons (xm_push) ?_
  refine x_bmn.cons (xm_div) ?_
  refine x_bmn.cons (xm_istore) ?_
  refine x_bmn.cons (xm_iinc) ?_
  refine x_bmn.cons (xm_goto) ?_
  refine x_bmn.cons (xm_vret) ?_
  exact x_bmn.nil
theorem is_G_appendDigits : x_Is y_G_appendDigits m_G_appendDigits := x_is_code q5_139
def Y_G_appendDigits : XMeth := x_do 6 b_G_appendDigits
theorem sn_G_appendDigits : x_Snd y_G_appendDigits m_G_appendDigits Y_G_appendDigits := x_snd_of (by decide) rfl rfl is_G_appendDigits k_G_appendDigits
theorem ym_G_appendDigits : x_Ymn Y_G_appendDigits := x_ymn_of mn_G_appendDigits
/- CashLink$Message.bytes()Ljava/lang/StringBuilder; -/
abbrev c_G_bytes : ByteArray := prog_7_method_2_code
def y_G_bytes : MethodName := ⟨"CashLink$Message", "bytes", "()Ljava/lang/StringBuilder;"⟩
theorem d_G_bytes_0 : decode c_G_bytes 0 = .ok (.new 29, 3) := by decide +kernel
theorem d_G_bytes_3 : decode c_G_bytes 3 = .ok (.dup, 1) := by decide +kernel
theorem d_G_bytes_4 : decode c_G_bytes 4 = .ok (.invokespecial 31, 3) := by decide +kernel
theorem d_G_bytes_7 : decode c_G_bytes 7 = .ok (.astore_n 1, 1) := by decide +kernel
theorem d_G_bytes_8 : decode c_G_bytes 8 = .ok (.aload_n 1, 1) := by decide +kernel
theorem d_G_bytes_9 : decode c_G_bytes 9 = .ok (.aload_n 0, 1) := by decide +kernel
theorem d_G_bytes_10 : decode c_G_bytes 10 = .ok (.getfield 7, 3) := by decide +kernel
theorem d_G_bytes_13 : decode c_G_bytes 13 = .ok (.getfield 32, 3) := by decide +kernel
theorem d_G_bytes_16 : decode c_G_bytes 16 = .ok (.invokevirtual 38, 3) := by decide +kernel
theorem d_G_bytes_19 : decode c_G_bytes 19 = .ok (.pop, 1) := by decide +kernel
theorem d_G_bytes_20 : decode c_G_bytes 20 = .ok (.aload_n 0, 1) := by decide +kernel
theorem d_G_bytes_21 : decode c_G_bytes 21 = .ok (.aload_n 1, 1) := by decide +kernel
theorem d_G_bytes_22 : decode c_G_bytes 22 = .ok (.invokevirtual 42, 3) := by decide +kernel
theorem d_G_bytes_25 : decode c_G_bytes 25 = .ok (.aload_n 0, 1) := by decide +kernel
theorem d_G_bytes_26 : decode c_G_bytes 26 = .ok (.getfield 7, 3) := by decide +kernel
theorem d_G_bytes_29 : decode c_G_bytes 29 = .ok (.getfield 46, 3) := by decide +kernel
theorem d_G_bytes_32 : decode c_G_bytes 32 = .ok (.ifCond .eq 18, 3) := by decide +kernel
theorem d_G_bytes_35 : decode c_G_bytes 35 = .ok (.aload_n 1, 1) := by decide +kernel
theorem d_G_bytes_36 : decode c_G_bytes 36 = .ok (.iconst 3, 1) := by decide +kernel
theorem d_G_bytes_37 : decode c_G_bytes 37 = .ok (.iconst 2, 1) := by decide +kernel
theorem d_G_bytes_38 : decode c_G_bytes 38 = .ok (.invokestatic 50, 3) := by decide +kernel
theorem d_G_bytes_41 : decode c_G_bytes 41 = .ok (.aload_n 1, 1) := by decide +kernel
theorem d_G_bytes_42 : decode c_G_bytes 42 = .ok (.aload_n 0, 1) := by decide +kernel
theorem d_G_bytes_43 : decode c_G_bytes 43 = .ok (.getfield 20, 3) := by decide +kernel
theorem d_G_bytes_46 : decode c_G_bytes 46 = .ok (.iconst 3, 1) := by decide +kernel
theorem d_G_bytes_47 : decode c_G_bytes 47 = .ok (.invokestatic 50, 3) := by decide +kernel
theorem d_G_bytes_50 : decode c_G_bytes 50 = .ok (.aload_n 0, 1) := by decide +kernel
theorem d_G_bytes_51 : decode c_G_bytes 51 = .ok (.getfield 7, 3) := by decide +kernel
theorem d_G_bytes_54 : decode c_G_bytes 54 = .ok (.getfield 54, 3) := by decide +kernel
theorem d_G_bytes_57 : decode c_G_bytes 57 = .ok (.ifCond .eq 13, 3) := by decide +kernel
theorem d_G_bytes_60 : decode c_G_bytes 60 = .ok (.aload_n 1, 1) := by decide +kernel
theorem d_G_bytes_61 : decode c_G_bytes 61 = .ok (.aload_n 0, 1) := by decide +kernel
theorem d_G_bytes_62 : decode c_G_bytes 62 = .ok (.getfield 23, 3) := by decide +kernel
theorem d_G_bytes_65 : decode c_G_bytes 65 = .ok (.bipush 12, 2) := by decide +kernel
theorem d_G_bytes_67 : decode c_G_bytes 67 = .ok (.invokestatic 50, 3) := by decide +kernel
theorem d_G_bytes_70 : decode c_G_bytes 70 = .ok (.aload_n 1, 1) := by decide +kernel
theorem d_G_bytes_71 : decode c_G_bytes 71 = .ok (.aload_n 0, 1) := by decide +kernel
theorem d_G_bytes_72 : decode c_G_bytes 72 = .ok (.getfield 17, 3) := by decide +kernel
theorem d_G_bytes_75 : decode c_G_bytes 75 = .ok (.bipush 6, 2) := by decide +kernel
theorem d_G_bytes_77 : decode c_G_bytes 77 = .ok (.invokestatic 50, 3) := by decide +kernel
theorem d_G_bytes_80 : decode c_G_bytes 80 = .ok (.aload_n 0, 1) := by decide +kernel
theorem d_G_bytes_81 : decode c_G_bytes 81 = .ok (.getfield 7, 3) := by decide +kernel
theorem d_G_bytes_84 : decode c_G_bytes 84 = .ok (.getfield 57, 3) := by decide +kernel
theorem d_G_bytes_87 : decode c_G_bytes 87 = .ok (.ifCond .eq 12, 3) := by decide +kernel
theorem d_G_bytes_90 : decode c_G_bytes 90 = .ok (.aload_n 1, 1) := by decide +kernel
theorem d_G_bytes_91 : decode c_G_bytes 91 = .ok (.aload_n 0, 1) := by decide +kernel
theorem d_G_bytes_92 : decode c_G_bytes 92 = .ok (.getfield 26, 3) := by decide +kernel
theorem d_G_bytes_95 : decode c_G_bytes 95 = .ok (.iconst 2, 1) := by decide +kernel
theorem d_G_bytes_96 : decode c_G_bytes 96 = .ok (.invokestatic 50, 3) := by decide +kernel
theorem d_G_bytes_99 : decode c_G_bytes 99 = .ok (.aload_n 1, 1) := by decide +kernel
theorem d_G_bytes_100 : decode c_G_bytes 100 = .ok (.aload_n 0, 1) := by decide +kernel
theorem d_G_bytes_101 : decode c_G_bytes 101 = .ok (.getfield 13, 3) := by decide +kernel
theorem d_G_bytes_104 : decode c_G_bytes 104 = .ok (.bipush 8, 2) := by decide +kernel
theorem d_G_bytes_106 : decode c_G_bytes 106 = .ok (.invokestatic 50, 3) := by decide +kernel
theorem d_G_bytes_109 : decode c_G_bytes 109 = .ok (.aload_n 1, 1) := by decide +kernel
theorem d_G_bytes_110 : decode c_G_bytes 110 = .ok (.areturn, 1) := by decide +kernel
def m_G_bytes : XM := ("CashLink$Message", c_G_bytes, 2, (some (.object "java/lang/StringBuilder")), "bytes", [], 7, 159)
def b_G_bytes : XB := [(0, X_new 9 4 xD9),
  (3, X_dup),
  (4, X_invI Y_ZStringBuilder_init 0 []),
  (7, X_astore 1 1),
  (8, X_aload 1 1),
  (9, X_aload 0 1),
  (10, X_get 7 0),
  (13, X_getE 21 0),
  (16, X_invV 9 Y_ZStringBuilder_append 1 []),
  (19, X_pop),
  (20, X_aload 0 1),
  (21, X_aload 1 1),
  (22, X_invV 7 Y_G_appendBitmap 1 []),
  (25, X_aload 0 1),
  (26, X_get 7 0),
  (29, X_getE 21 2),
  (32, X_if (fun x => x = 0) 50),
  (35, X_aload 1 1),
  (36, X_push (xv_i 3) 1),
  (37, X_push (xv_i 2) 1),
  (38, X_invS Y_G_appendDigits 3 []),
  (41, X_aload 1 1),
  (42, X_aload 0 1),
  (43, X_get 7 3),
  (46, X_push (xv_i 3) 1),
  (47, X_invS Y_G_appendDigits 3 []),
  (50, X_aload 0 1),
  (51, X_get 7 0),
  (54, X_getE 21 1),
  (57, X_if (fun x => x = 0) 70),
  (60, X_aload 1 1),
  (61, X_aload 0 1),
  (62, X_get 7 4),
  (65, X_push (xv_i 12) 2),
  (67, X_invS Y_G_appendDigits 3 []),
  (70, X_aload 1 1),
  (71, X_aload 0 1),
  (72, X_get 7 2),
  (75, X_push (xv_i 6) 2),
  (77, X_invS Y_G_appendDigits 3 []),
  (80, X_aload 0 1),
  (81, X_get 7 0),
  (84, X_getE 21 3),
  (87, X_if (fun x => x = 0) 99),
  (90, X_aload 1 1),
  (91, X_aload 0 1),
  (92, X_get 7 5),
  (95, X_push (xv_i 2) 1),
  (96, X_invS Y_G_appendDigits 3 []),
  (99, X_aload 1 1),
  (100, X_aload 0 1),
  (101, X_get 7 1),
  (104, X_push (xv_i 8) 2),
  (106, X_invS Y_G_appendDigits 3 []),
  (109, X_aload 1 1),
  (110, X_aret)]
set_option maxRecDepth 100000 in
theorem k_G_bytes : x_bok m_G_bytes b_G_bytes := by
  unfold b_G_bytes
  refine x_bok.cons (xs_new d_G_bytes_0 xc9 xw9 xt9 q4_217 q4_218 q1_32 xd9 rfl) ?_
  refine x_bok.cons (xs_dup d_G_bytes_3) ?_
  refine x_bok.cons (xs_invI d_G_bytes_4 sn_ZStringBuilder_init is_ZStringBuilder_init ⟨q4_219, q4_220, q4_221, q1_32⟩ (by decide) rfl (by decide) rfl) ?_
  refine x_bok.cons (xs_astore_n d_G_bytes_7 rfl (by decide)) ?_
  refine x_bok.cons (xs_aload_n d_G_bytes_8 rfl) ?_
  refine x_bok.cons (xs_aload_n d_G_bytes_9 rfl) ?_
  refine x_bok.cons (xs_get d_G_bytes_10 xc7 xw7 (by decide) q3_34 (Or.inl rfl)) ?_
  refine x_bok.cons (xs_getE d_G_bytes_13 rfl q7_23 (Or.inl rfl)) ?_
  refine x_bok.cons (xs_invV d_G_bytes_16 xc9 sn_ZStringBuilder_append is_ZStringBuilder_append ⟨q5_8, q5_9, q5_10, q1_32⟩ (by decide) (by decide) rfl) ?_
  refine x_bok.cons (xs_pop d_G_bytes_19) ?_
  refine x_bok.cons (xs_aload_n d_G_bytes_20 rfl) ?_
  refine x_bok.cons (xs_aload_n d_G_bytes_21 rfl) ?_
  refine x_bok.cons (xs_invV d_G_bytes_22 xc7 sn_G_appendBitmap is_G_appendBitmap ⟨q5_113, q5_115, (x_sel (x_p2 (List.mem_of_getElem? (i := 9) rfl))), q1_27⟩ (by decide) (by decide) rfl) ?_
  refine x_bok.cons (xs_aload_n d_G_bytes_25 rfl) ?_
  refine x_bok.cons (xs_get d_G_bytes_26 xc7 xw7 (by decide) q3_34 (Or.inl rfl)) ?_
  refine x_bok.cons (xs_getE d_G_bytes_29 rfl q7_26 (Or.inl rfl)) ?_
  refine x_bok.cons (xs_if_eq d_G_bytes_32 (by decide)) ?_
  refine x_bok.cons (xs_aload_n d_G_bytes_35 rfl) ?_
  refine x_bok.cons (xs_iconst d_G_bytes_36 (by decide)) ?_
  refine x_bok.cons (xs_iconst d_G_bytes_37 (by decide)) ?_
  refine x_bok.cons (xs_invS d_G_bytes_38 sn_G_appendDigits is_G_appendDigits ⟨q5_137, q5_138, q1_27⟩ (by decide) (by decide) rfl) ?_
  refine x_bok.cons (xs_aload_n d_G_bytes_41 rfl) ?_
  refine x_bok.cons (xs_aload_n d_G_bytes_42 rfl) ?_
  refine x_bok.cons (xs_get d_G_bytes_43 xc7 xw7 (by decide) q3_37 (Or.inl rfl)) ?_
  refine x_bok.cons (xs_iconst d_G_bytes_46 (by decide)) ?_
  refine x_bok.cons (xs_invS d_G_bytes_47 sn_G_appendDigits is_G_appendDigits ⟨q5_137, q5_138, q1_27⟩ (by decide) (by decide) rfl) ?_
  refine x_bok.cons (xs_aload_n d_G_bytes_50 rfl) ?_
  refine x_bok.cons (xs_get d_G_bytes_51 xc7 xw7 (by decide) q3_34 (Or.inl rfl)) ?_
  refine x_bok.cons (xs_getE d_G_bytes_54 rfl q7_27 (Or.inl rfl)) ?_
  refine x_bok.cons (xs_if_eq d_G_bytes_57 (by decide)) ?_
  refine x_bok.cons (xs_aload_n d_G_bytes_60 rfl) ?_
  refine x_bok.cons (xs_aload_n d_G_bytes_61 rfl) ?_
  refine x_bok.cons (xs_get d_G_bytes_62 xc7 xw7 (by decide) q3_38 (Or.inl rfl)) ?_
  refine x_bok.cons (xs_bipush d_G_bytes_65 (by decide)) ?_
  refine x_bok.cons (xs_invS d_G_bytes_67 sn_G_appendDigits is_G_appendDigits ⟨q5_137, q5_138, q1_27⟩ (by decide) (by decide) rfl) ?_
  refine x_bok.cons (xs_aload_n d_G_bytes_70 rfl) ?_
  refine x_bok.cons (xs_aload_n d_G_bytes_71 rfl) ?_
  refine x_bok.cons (xs_get d_G_bytes_72 xc7 xw7 (by decide) q3_36 (Or.inl rfl)) ?_
  refine x_bok.cons (xs_bipush d_G_bytes_75 (by decide)) ?_
  refine x_bok.cons (xs_invS d_G_bytes_77 sn_G_appendDigits is_G_appendDigits ⟨q5_137, q5_138, q1_27⟩ (by decide) (by decide) rfl) ?_
  refine x_bok.cons (xs_aload_n d_G_bytes_80 rfl) ?_
  refine x_bok.cons (xs_get d_G_bytes_81 xc7 xw7 (by decide) q3_34 (Or.inl rfl)) ?_
  refine x_bok.cons (xs_getE d_G_bytes_84 rfl q7_28 (Or.inl rfl)) ?_
  refine x_bok.cons (xs_if_eq d_G_bytes_87 (by decide)) ?_
  refine x_bok.cons (xs_aload_n d_G_bytes_90 rfl) ?_
  refine x_bok.cons (xs_aload_n d_G_bytes_91 rfl) ?_
  refine x_bok.cons (xs_get d_G_bytes_92 xc7 xw7 (by decide) q3_39 (Or.inl rfl)) ?_
  refine x_bok.cons (xs_iconst d_G_bytes_95 (by decide)) ?_
  refine x_bok.cons (xs_invS d_G_bytes_96 sn_G_appendDigits is_G_appendDigits ⟨q5_137, q5_138, q1_27⟩ (by decide) (by decide) rfl) ?_
  refine x_bok.cons (xs_aload_n d_G_bytes_99 rfl) ?_
  refine x_bok.cons (xs_aload_n d_G_bytes_100 rfl) ?_
  refine x_bok.cons (xs_get d_G_bytes_101 xc7 xw7 (by decide) q3_35 (Or.inl rfl)) ?_
  refine x_bok.cons (xs_bipush d_G_bytes_104 (by decide)) ?_
  refine x_bok.cons (xs_invS d_G_bytes_106 sn_G_appendDigits is_G_appendDigits ⟨q5_137, q5_138, q1_27⟩ (by decide) (by decide) rfl) ?_
  refine x_bok.cons (xs_aload_n d_G_bytes_109 rfl) ?_
  refine x_bok.cons (xs_aret d_G_bytes_110 rfl (by first | exact Or.inl ⟨_, rfl⟩ | exact Or.inr ⟨_, rfl⟩)) ?_
  exact x_bok.nil
set_option maxRecDepth 100000 in
theorem mn_G_bytes : x_bmn b_G_bytes := by
  unfold b_G_bytes
  refine x_bmn.cons (xm_new) ?_
  refine x_bmn.cons (xm_dup) ?_
  refine x_bmn.cons (xm_invI ym_ZStringBuilder_init) ?_
  refine x_bmn.cons (xm_astore) ?_
  refine x_bmn.cons (xm_aload) ?_
  refine x_bmn.cons (xm_aload) ?_
  refine x_bmn.cons (xm_get) ?_
  refine x_bmn.cons (xm_getE) ?_
  refine x_bmn.cons (xm_invV ym_ZStringBuilder_append) ?_
  refine x_bmn.cons (xm_pop) ?_
  refine x_bmn.cons (xm_aload) ?_
  refine x_bmn.cons (xm_aload) ?_
  refine x_bmn.cons (xm_invV ym_G_appendBitmap) ?_
  refine x_bmn.cons (xm_aload) ?_
  refine x_bmn.cons (xm_get) ?_
  refine x_bmn.cons (xm_getE) ?_
  refine x_bmn.cons (xm_if) ?_
  refine x_bmn.cons (xm_aload) ?_
  refine x_bmn.cons (xm_push) ?_
  refine x_bmn.cons (xm_push) ?_
  refine x_bmn.cons (xm_invS ym_G_appendDigits) ?_
  refine x_bmn.cons (xm_aload) ?_
  refine x_bmn.cons (xm_aload) ?_
  refine x_bmn.cons (xm_get) ?_
  refine x_bmn.cons (xm_push) ?_
  refine x_bmn.cons (xm_invS ym_G_appendDigits) ?_
  refine x_bmn.cons (xm_aload) ?_
  refine x_bmn.cons (xm_get) ?_
  refine x_bmn.cons (xm_getE) ?_
  refine x_bmn.cons (xm_if) ?_
  refine x_bmn.cons (xm_aload) ?_
  refine x_bmn.cons (xm_aload) ?_
  refine x_bmn.cons (xm_get) ?_
  refine x_bmn.cons (xm_push) ?_
  refine x_bmn.cons (xm_invS ym_G_appendDigits) ?_
  refine x_bmn.cons (xm_aload) ?_
  refine x_bmn.cons (xm_aload) ?_
  refine x_bmn.cons (xm_get) ?_
  refine x_bmn.cons (xm_push) ?_
  refine x_bmn.cons (xm_invS ym_G_appendDigits) ?_
  refine x_bmn.cons (xm_aload) ?_
  refine x_bmn.cons (xm_get) ?_
  refine x_bmn.cons (xm_getE) ?_
  refine x_bmn.cons (xm_if) ?_
  refine x_bmn.cons (xm_aload) ?_
  refine x_bmn.cons (xm_aload) ?_
  refine x_bmn.cons (xm_get) ?_
  refine x_bmn.cons (xm_push) ?_
  refine x_bmn.cons (xm_invS ym_G_appendDigits) ?_
  refine x_bmn.cons (xm_aload) ?_
  refine x_bmn.cons (xm_aload) ?_
  refine x_bmn.cons (xm_get) ?_
  refine x_bmn.cons (xm_push) ?_
  refine x_bmn.cons (xm_invS ym_G_appendDigits) ?_
  refine x_bmn.cons (xm_aload) ?_
  refine x_bmn.cons (xm_aret) ?_
  exact x_bmn.nil
theorem is_G_bytes : x_Is y_G_bytes m_G_bytes := x_is_code q4_216
def Y_G_bytes : XMeth := x_do 2 b_G_bytes
theorem sn_G_bytes : x_Snd y_G_bytes m_G_bytes Y_G_bytes := x_snd_of (by decide) rfl rfl is_G_bytes k_G_bytes
theorem ym_G_bytes : x_Ymn Y_G_bytes := x_ymn_of mn_G_bytes
/- java/lang/AbstractStringBuilder.charAt(I)C -/
abbrev c_ZAbstractStringBuilder_charAt : ByteArray := prog_14_method_14_code
def y_ZAbstractStringBuilder_charAt : MethodName := ⟨"java/lang/AbstractStringBuilder", "charAt", "(I)C"⟩
theorem d_ZAbstractStringBuilder_charAt_0 : decode c_ZAbstractStringBuilder_charAt 0 = .ok (.aload_n 0, 1) := by decide +kernel
theorem d_ZAbstractStringBuilder_charAt_1 : decode c_ZAbstractStringBuilder_charAt 1 = .ok (.getfield 22, 3) := by decide +kernel
theorem d_ZAbstractStringBuilder_charAt_4 : decode c_ZAbstractStringBuilder_charAt 4 = .ok (.istore_n 2, 1) := by decide +kernel
theorem d_ZAbstractStringBuilder_charAt_5 : decode c_ZAbstractStringBuilder_charAt 5 = .ok (.aload_n 0, 1) := by decide +kernel
theorem d_ZAbstractStringBuilder_charAt_6 : decode c_ZAbstractStringBuilder_charAt 6 = .ok (.getfield 15, 3) := by decide +kernel
theorem d_ZAbstractStringBuilder_charAt_9 : decode c_ZAbstractStringBuilder_charAt 9 = .ok (.astore_n 3, 1) := by decide +kernel
theorem d_ZAbstractStringBuilder_charAt_10 : decode c_ZAbstractStringBuilder_charAt 10 = .ok (.aload_n 0, 1) := by decide +kernel
theorem d_ZAbstractStringBuilder_charAt_11 : decode c_ZAbstractStringBuilder_charAt 11 = .ok (.getfield 79, 3) := by decide +kernel
theorem d_ZAbstractStringBuilder_charAt_14 : decode c_ZAbstractStringBuilder_charAt 14 = .ok (.aload_n 3, 1) := by decide +kernel
theorem d_ZAbstractStringBuilder_charAt_15 : decode c_ZAbstractStringBuilder_charAt 15 = .ok (.arraylength, 1) := by decide +kernel
theorem d_ZAbstractStringBuilder_charAt_16 : decode c_ZAbstractStringBuilder_charAt 16 = .ok (.iload_n 2, 1) := by decide +kernel
theorem d_ZAbstractStringBuilder_charAt_17 : decode c_ZAbstractStringBuilder_charAt 17 = .ok (.ishr, 1) := by decide +kernel
theorem d_ZAbstractStringBuilder_charAt_18 : decode c_ZAbstractStringBuilder_charAt 18 = .ok (.invokestatic 138, 3) := by decide +kernel
theorem d_ZAbstractStringBuilder_charAt_21 : decode c_ZAbstractStringBuilder_charAt 21 = .ok (.istore 4, 2) := by decide +kernel
theorem d_ZAbstractStringBuilder_charAt_23 : decode c_ZAbstractStringBuilder_charAt 23 = .ok (.iload_n 1, 1) := by decide +kernel
theorem d_ZAbstractStringBuilder_charAt_24 : decode c_ZAbstractStringBuilder_charAt 24 = .ok (.iload 4, 2) := by decide +kernel
theorem d_ZAbstractStringBuilder_charAt_26 : decode c_ZAbstractStringBuilder_charAt 26 = .ok (.invokestatic 144, 3) := by decide +kernel
theorem d_ZAbstractStringBuilder_charAt_29 : decode c_ZAbstractStringBuilder_charAt 29 = .ok (.iload_n 2, 1) := by decide +kernel
theorem d_ZAbstractStringBuilder_charAt_30 : decode c_ZAbstractStringBuilder_charAt 30 = .ok (.ifCond .ne 12, 3) := by decide +kernel
theorem d_ZAbstractStringBuilder_charAt_33 : decode c_ZAbstractStringBuilder_charAt 33 = .ok (.aload_n 3, 1) := by decide +kernel
theorem d_ZAbstractStringBuilder_charAt_34 : decode c_ZAbstractStringBuilder_charAt 34 = .ok (.iload_n 1, 1) := by decide +kernel
theorem d_ZAbstractStringBuilder_charAt_35 : decode c_ZAbstractStringBuilder_charAt 35 = .ok (.baload, 1) := by decide +kernel
theorem d_ZAbstractStringBuilder_charAt_36 : decode c_ZAbstractStringBuilder_charAt 36 = .ok (.sipush 255, 3) := by decide +kernel
theorem d_ZAbstractStringBuilder_charAt_39 : decode c_ZAbstractStringBuilder_charAt 39 = .ok (.iand, 1) := by decide +kernel
theorem d_ZAbstractStringBuilder_charAt_40 : decode c_ZAbstractStringBuilder_charAt 40 = .ok (.i2c, 1) := by decide +kernel
theorem d_ZAbstractStringBuilder_charAt_41 : decode c_ZAbstractStringBuilder_charAt 41 = .ok (.ireturn, 1) := by decide +kernel
theorem d_ZAbstractStringBuilder_charAt_42 : decode c_ZAbstractStringBuilder_charAt 42 = .ok (.aload_n 3, 1) := by decide +kernel
theorem d_ZAbstractStringBuilder_charAt_43 : decode c_ZAbstractStringBuilder_charAt 43 = .ok (.iload_n 1, 1) := by decide +kernel
theorem d_ZAbstractStringBuilder_charAt_44 : decode c_ZAbstractStringBuilder_charAt 44 = .ok (.invokestatic 148, 3) := by decide +kernel
theorem d_ZAbstractStringBuilder_charAt_47 : decode c_ZAbstractStringBuilder_charAt 47 = .ok (.ireturn, 1) := by decide +kernel
def m_ZAbstractStringBuilder_charAt : XM := ("java/lang/AbstractStringBuilder", c_ZAbstractStringBuilder_charAt, 5, (some .char), "charAt", [], 2, 43)
def b_ZAbstractStringBuilder_charAt : XB := [(0, X_aload 0 1),
  (1, X_get 9 1),
  (4, X_istore 2 1),
  (5, X_aload 0 1),
  (6, X_get 9 0),
  (9, X_astore 3 1),
  (10, X_aload 0 1),
  (11, X_get 9 3),
  (14, X_aload 3 1),
  (15, X_alen),
  (16, X_iload 2 1),
  (17, X_bin (fun x y => x >>> (y &&& 31))),
  (18, X_mm (fun x y => if y < x then y else x)),
  (21, X_istore 4 2),
  (23, X_iload 1 1),
  (24, X_iload 4 2),
  (26, X_invS Y_ZString_checkIndex 2 []),
  (29, X_iload 2 1),
  (30, X_if (fun x => ¬ x = 0) 42),
  (33, X_aload 3 1),
  (34, X_iload 1 1),
  (35, X_ald 2),
  (36, X_push (xv_i 255) 3),
  (39, X_bin (fun x y => x &&& y)),
  (40, X_un (fun x => (x.toUInt32 % 65536).toInt32)),
  (41, X_cret),
  (42, X_aload 3 1),
  (43, X_iload 1 1),
  (44, X_bad),
  (47, X_cret)]
set_option maxRecDepth 100000 in
theorem k_ZAbstractStringBuilder_charAt : x_bok m_ZAbstractStringBuilder_charAt b_ZAbstractStringBuilder_charAt := by
  unfold b_ZAbstractStringBuilder_charAt
  refine x_bok.cons (xs_aload_n d_ZAbstractStringBuilder_charAt_0 rfl) ?_
  refine x_bok.cons (xs_get d_ZAbstractStringBuilder_charAt_1 xc9 xw9 (by decide) q4_236 (Or.inl rfl)) ?_
  refine x_bok.cons (xs_istore_n d_ZAbstractStringBuilder_charAt_4 rfl (by decide)) ?_
  refine x_bok.cons (xs_aload_n d_ZAbstractStringBuilder_charAt_5 rfl) ?_
  refine x_bok.cons (xs_get d_ZAbstractStringBuilder_charAt_6 xc9 xw9 (by decide) q4_235 (Or.inl rfl)) ?_
  refine x_bok.cons (xs_astore_n d_ZAbstractStringBuilder_charAt_9 rfl (by decide)) ?_
  refine x_bok.cons (xs_aload_n d_ZAbstractStringBuilder_charAt_10 rfl) ?_
  refine x_bok.cons (xs_get d_ZAbstractStringBuilder_charAt_11 xc9 xw9 (by decide) q4_238 (Or.inl rfl)) ?_
  refine x_bok.cons (xs_aload_n d_ZAbstractStringBuilder_charAt_14 rfl) ?_
  refine x_bok.cons (xs_alen d_ZAbstractStringBuilder_charAt_15) ?_
  refine x_bok.cons (xs_iload_n d_ZAbstractStringBuilder_charAt_16 rfl) ?_
  refine x_bok.cons (xs_ishr d_ZAbstractStringBuilder_charAt_17) ?_
  refine x_bok.cons (xs_mmin d_ZAbstractStringBuilder_charAt_18 ⟨q5_163, q2_123, q1_18, q2_124⟩ (by decide)) ?_
  refine x_bok.cons (xs_istore d_ZAbstractStringBuilder_charAt_21 (by decide)) ?_
  refine x_bok.cons (xs_iload_n d_ZAbstractStringBuilder_charAt_23 rfl) ?_
  refine x_bok.cons (xs_iload d_ZAbstractStringBuilder_charAt_24) ?_
  refine x_bok.cons (xs_invS d_ZAbstractStringBuilder_charAt_26 sn_ZString_checkIndex is_ZString_checkIndex ⟨q5_154, q5_134, q1_33⟩ (by decide) (by decide) rfl) ?_
  refine x_bok.cons (xs_iload_n d_ZAbstractStringBuilder_charAt_29 rfl) ?_
  refine x_bok.cons (xs_if_ne d_ZAbstractStringBuilder_charAt_30 (by decide)) ?_
  refine x_bok.cons (xs_aload_n d_ZAbstractStringBuilder_charAt_33 rfl) ?_
  refine x_bok.cons (xs_iload_n d_ZAbstractStringBuilder_charAt_34 rfl) ?_
  refine x_bok.cons (xs_bald d_ZAbstractStringBuilder_charAt_35 rfl) ?_
  refine x_bok.cons (xs_sipush d_ZAbstractStringBuilder_charAt_36 (by decide)) ?_
  refine x_bok.cons (xs_iand d_ZAbstractStringBuilder_charAt_39) ?_
  refine x_bok.cons (xs_i2c d_ZAbstractStringBuilder_charAt_40) ?_
  refine x_bok.cons (xs_cret d_ZAbstractStringBuilder_charAt_41 rfl) ?_
  refine x_bok.cons (xs_aload_n d_ZAbstractStringBuilder_charAt_42 rfl) ?_
  refine x_bok.cons (xs_iload_n d_ZAbstractStringBuilder_charAt_43 rfl) ?_
  refine x_bok.cons (xs_bad) ?_
  refine x_bok.cons (xs_cret d_ZAbstractStringBuilder_charAt_47 rfl) ?_
  exact x_bok.nil
set_option maxRecDepth 100000 in
theorem mn_ZAbstractStringBuilder_charAt : x_bmn b_ZAbstractStringBuilder_charAt := by
  unfold b_ZAbstractStringBuilder_charAt
  refine x_bmn.cons (xm_aload) ?_
  refine x_bmn.cons (xm_get) ?_
  refine x_bmn.cons (xm_istore) ?_
  refine x_bmn.cons (xm_aload) ?_
  refine x_bmn.cons (xm_get) ?_
  refine x_bmn.cons (xm_astore) ?_
  refine x_bmn.cons (xm_aload) ?_
  refine x_bmn.cons (xm_get) ?_
  refine x_bmn.cons (xm_aload) ?_
  refine x_bmn.cons (xm_alen) ?_
  refine x_bmn.cons (xm_iload) ?_
  refine x_bmn.cons (xm_bin) ?_
  refine x_bmn.cons (xm_mm) ?_
  refine x_bmn.cons (xm_istore) ?_
  refine x_bmn.cons (xm_iload) ?_
  refine x_bmn.cons (xm_iload) ?_
  refine x_bmn.cons (xm_invS ym_ZString_checkIndex) ?_
  refine x_bmn.cons (xm_iload) ?_
  refine x_bmn.cons (xm_if) ?_
  refine x_bmn.cons (xm_aload) ?_
  refine x_bmn.cons (xm_iload) ?_
  refine x_bmn.cons (xm_ald) ?_
  refine x_bmn.cons (xm_push) ?_
  refine x_bmn.cons (xm_bin) ?_
  refine x_bmn.cons (xm_un) ?_
  refine x_bmn.cons (xm_cret) ?_
  refine x_bmn.cons (xm_aload) ?_
  refine x_bmn.cons (xm_iload) ?_
  refine x_bmn.cons (xm_bad) ?_
  refine x_bmn.cons (xm_cret) ?_
  exact x_bmn.nil
theorem is_ZAbstractStringBuilder_charAt : x_Is y_ZAbstractStringBuilder_charAt m_ZAbstractStringBuilder_charAt := x_is_code q5_162
def Y_ZAbstractStringBuilder_charAt : XMeth := x_do 5 b_ZAbstractStringBuilder_charAt
theorem sn_ZAbstractStringBuilder_charAt : x_Snd y_ZAbstractStringBuilder_charAt m_ZAbstractStringBuilder_charAt Y_ZAbstractStringBuilder_charAt := x_snd_of (by decide) rfl rfl is_ZAbstractStringBuilder_charAt k_ZAbstractStringBuilder_charAt
theorem ym_ZAbstractStringBuilder_charAt : x_Ymn Y_ZAbstractStringBuilder_charAt := x_ymn_of mn_ZAbstractStringBuilder_charAt
/- java/lang/StringBuilder.charAt(I)C -/
abbrev c_ZStringBuilder_charAt : ByteArray := prog_27_method_88_code
def y_ZStringBuilder_charAt : MethodName := ⟨"java/lang/StringBuilder", "charAt", "(I)C"⟩
theorem d_ZStringBuilder_charAt_0 : decode c_ZStringBuilder_charAt 0 = .ok (.aload_n 0, 1) := by decide +kernel
theorem d_ZStringBuilder_charAt_1 : decode c_ZStringBuilder_charAt 1 = .ok (.iload_n 1, 1) := by decide +kernel
theorem d_ZStringBuilder_charAt_2 : decode c_ZStringBuilder_charAt 2 = .ok (.invokespecial 329, 3) := by decide +kernel
theorem d_ZStringBuilder_charAt_5 : decode c_ZStringBuilder_charAt 5 = .ok (.ireturn, 1) := by decide +kernel
def m_ZStringBuilder_charAt : XM := ("java/lang/StringBuilder", c_ZStringBuilder_charAt, 2, (some .char), "charAt", [], 3, 67)
def b_ZStringBuilder_charAt : XB := [(0, X_aload 0 1),
  (1, X_iload 1 1),
  (2, X_invV 9 Y_ZAbstractStringBuilder_charAt 1 []),
  (5, X_cret)]
set_option maxRecDepth 100000 in
theorem k_ZStringBuilder_charAt : x_bok m_ZStringBuilder_charAt b_ZStringBuilder_charAt := by
  unfold b_ZStringBuilder_charAt
  refine x_bok.cons (xs_aload_n d_ZStringBuilder_charAt_0 rfl) ?_
  refine x_bok.cons (xs_iload_n d_ZStringBuilder_charAt_1 rfl) ?_
  refine x_bok.cons (xs_invU d_ZStringBuilder_charAt_2 xc9 sn_ZAbstractStringBuilder_charAt is_ZAbstractStringBuilder_charAt ⟨q5_160, q5_161, ⟨q5_7, q7_3, by decide⟩, q1_31⟩ (by decide) (by decide) rfl) ?_
  refine x_bok.cons (xs_cret d_ZStringBuilder_charAt_5 rfl) ?_
  exact x_bok.nil
set_option maxRecDepth 100000 in
theorem mn_ZStringBuilder_charAt : x_bmn b_ZStringBuilder_charAt := by
  unfold b_ZStringBuilder_charAt
  refine x_bmn.cons (xm_aload) ?_
  refine x_bmn.cons (xm_iload) ?_
  refine x_bmn.cons (xm_invV ym_ZAbstractStringBuilder_charAt) ?_
  refine x_bmn.cons (xm_cret) ?_
  exact x_bmn.nil
theorem is_ZStringBuilder_charAt : x_Is y_ZStringBuilder_charAt m_ZStringBuilder_charAt := x_is_code q5_159
def Y_ZStringBuilder_charAt : XMeth := x_do 2 b_ZStringBuilder_charAt
theorem sn_ZStringBuilder_charAt : x_Snd y_ZStringBuilder_charAt m_ZStringBuilder_charAt Y_ZStringBuilder_charAt := x_snd_of (by decide) rfl rfl is_ZStringBuilder_charAt k_ZStringBuilder_charAt
theorem ym_ZStringBuilder_charAt : x_Ymn Y_ZStringBuilder_charAt := x_ymn_of mn_ZStringBuilder_charAt
/- CashLink.byteAt(II)I -/
abbrev c_C_byteAt : ByteArray := prog_1_method_16_code
def y_C_byteAt : MethodName := ⟨"CashLink", "byteAt", "(II)I"⟩
theorem d_C_byteAt_0 : decode c_C_byteAt 0 = .ok (.aload_n 0, 1) := by decide +kernel
theorem d_C_byteAt_1 : decode c_C_byteAt 1 = .ok (.iload_n 1, 1) := by decide +kernel
theorem d_C_byteAt_2 : decode c_C_byteAt 2 = .ok (.invokevirtual 71, 3) := by decide +kernel
theorem d_C_byteAt_5 : decode c_C_byteAt 5 = .ok (.astore_n 3, 1) := by decide +kernel
theorem d_C_byteAt_6 : decode c_C_byteAt 6 = .ok (.iload_n 2, 1) := by decide +kernel
theorem d_C_byteAt_7 : decode c_C_byteAt 7 = .ok (.ifCond .ge 13, 3) := by decide +kernel
theorem d_C_byteAt_10 : decode c_C_byteAt 10 = .ok (.new 137, 3) := by decide +kernel
theorem d_C_byteAt_13 : decode c_C_byteAt 13 = .ok (.dup, 1) := by decide +kernel
theorem d_C_byteAt_14 : decode c_C_byteAt 14 = .ok (.ldc 139, 2) := by decide +kernel
theorem d_C_byteAt_16 : decode c_C_byteAt 16 = .ok (.invokespecial 141, 3) := by decide +kernel
theorem d_C_byteAt_19 : decode c_C_byteAt 19 = .ok (.athrow, 1) := by decide +kernel
theorem d_C_byteAt_20 : decode c_C_byteAt 20 = .ok (.aload_n 3, 1) := by decide +kernel
theorem d_C_byteAt_21 : decode c_C_byteAt 21 = .ok (.invokevirtual 144, 3) := by decide +kernel
theorem d_C_byteAt_24 : decode c_C_byteAt 24 = .ok (.astore 4, 2) := by decide +kernel
theorem d_C_byteAt_26 : decode c_C_byteAt 26 = .ok (.iload_n 2, 1) := by decide +kernel
theorem d_C_byteAt_27 : decode c_C_byteAt 27 = .ok (.aload 4, 2) := by decide +kernel
theorem d_C_byteAt_29 : decode c_C_byteAt 29 = .ok (.invokevirtual 148, 3) := by decide +kernel
theorem d_C_byteAt_32 : decode c_C_byteAt 32 = .ok (.if_icmp .ge 12, 3) := by decide +kernel
theorem d_C_byteAt_35 : decode c_C_byteAt 35 = .ok (.aload 4, 2) := by decide +kernel
theorem d_C_byteAt_37 : decode c_C_byteAt 37 = .ok (.iload_n 2, 1) := by decide +kernel
theorem d_C_byteAt_38 : decode c_C_byteAt 38 = .ok (.invokevirtual 153, 3) := by decide +kernel
theorem d_C_byteAt_41 : decode c_C_byteAt 41 = .ok (.goto 4, 3) := by decide +kernel
theorem d_C_byteAt_44 : decode c_C_byteAt 44 = .ok (.iconst (-1), 1) := by decide +kernel
theorem d_C_byteAt_45 : decode c_C_byteAt 45 = .ok (.ireturn, 1) := by decide +kernel
def m_C_byteAt : XM := ("CashLink", c_C_byteAt, 5, (some .int), "byteAt", [], 8, 180)
def b_C_byteAt : XB := [(0, X_aload 0 1),
  (1, X_iload 1 1),
  (2, X_invV 0 Y_C_messageAt 1 []),
  (5, X_astore 3 1),
  (6, X_iload 2 1),
  (7, X_if (fun x => 0 ≤ x) 20),
  (10, X_tn 15),
  (20, X_aload 3 1),
  (21, X_invV 7 Y_G_bytes 0 []),
  (24, X_astore 4 2),
  (26, X_iload 2 1),
  (27, X_aload 4 2),
  (29, X_invV 9 Y_ZStringBuilder_length 0 []),
  (32, X_icmp (fun x y => y ≤ x) 44),
  (35, X_aload 4 2),
  (37, X_iload 2 1),
  (38, X_invV 9 Y_ZStringBuilder_charAt 1 []),
  (41, X_goto 45),
  (44, X_push (xv_i (-1)) 1),
  (45, X_iret)]
set_option maxRecDepth 100000 in
theorem k_C_byteAt : x_bok m_C_byteAt b_C_byteAt := by
  unfold b_C_byteAt
  refine x_bok.cons (xs_aload_n d_C_byteAt_0 rfl) ?_
  refine x_bok.cons (xs_iload_n d_C_byteAt_1 rfl) ?_
  refine x_bok.cons (xs_invV d_C_byteAt_2 xc0 sn_C_messageAt is_C_messageAt ⟨q3_154, q3_156, (x_sel (x_p1 (List.mem_of_getElem? (i := 6) rfl))), q1_1⟩ (by decide) (by decide) rfl) ?_
  refine x_bok.cons (xs_astore_n d_C_byteAt_5 rfl (by decide)) ?_
  refine x_bok.cons (xs_iload_n d_C_byteAt_6 rfl) ?_
  refine x_bok.cons (xs_if_ge d_C_byteAt_7 (by decide)) ?_
  refine x_bok.cons (xs_tnS (names := ["java/lang/RuntimeException", "java/lang/Exception"]) d_C_byteAt_10 d_C_byteAt_13 d_C_byteAt_14 d_C_byteAt_16 d_C_byteAt_19 xc15 rfl (by decide +kernel) (by decide +kernel) (List.mem_of_getElem? (i := 5) rfl) x_exin (by decide +kernel) rfl (by decide)) ?_
  refine x_bok.cons (xs_aload_n d_C_byteAt_20 rfl) ?_
  refine x_bok.cons (xs_invV d_C_byteAt_21 xc7 sn_G_bytes is_G_bytes ⟨q4_213, q4_214, q4_215, q1_27⟩ (by decide) (by decide) rfl) ?_
  refine x_bok.cons (xs_astore d_C_byteAt_24 (by decide)) ?_
  refine x_bok.cons (xs_iload_n d_C_byteAt_26 rfl) ?_
  refine x_bok.cons (xs_aload d_C_byteAt_27) ?_
  refine x_bok.cons (xs_invV d_C_byteAt_29 xc9 sn_ZStringBuilder_length is_ZStringBuilder_length ⟨q5_155, q5_141, q5_142, q1_32⟩ (by decide) (by decide) rfl) ?_
  refine x_bok.cons (xs_icmp_ge d_C_byteAt_32 (by decide)) ?_
  refine x_bok.cons (xs_aload d_C_byteAt_35) ?_
  refine x_bok.cons (xs_iload_n d_C_byteAt_37 rfl) ?_
  refine x_bok.cons (xs_invV d_C_byteAt_38 xc9 sn_ZStringBuilder_charAt is_ZStringBuilder_charAt ⟨q5_156, q5_157, q5_158, q1_32⟩ (by decide) (by decide) rfl) ?_
  refine x_bok.cons (xs_goto d_C_byteAt_41 (by decide)) ?_
  refine x_bok.cons (xs_iconst d_C_byteAt_44 (by decide)) ?_
  refine x_bok.cons (xs_iret d_C_byteAt_45 rfl) ?_
  exact x_bok.nil
set_option maxRecDepth 100000 in
theorem mn_C_byteAt : x_bmn b_C_byteAt := by
  unfold b_C_byteAt
  refine x_bmn.cons (xm_aload) ?_
  refine x_bmn.cons (xm_iload) ?_
  refine x_bmn.cons (xm_invV ym_C_messageAt) ?_
  refine x_bmn.cons (xm_astore) ?_
  refine x_bmn.cons (xm_iload) ?_
  refine x_bmn.cons (xm_if) ?_
  refine x_bmn.cons (xm_tn) ?_
  refine x_bmn.cons (xm_aload) ?_
  refine x_bmn.cons (xm_invV ym_G_bytes) ?_
  refine x_bmn.cons (xm_astore) ?_
  refine x_bmn.cons (xm_iload) ?_
  refine x_bmn.cons (xm_aload) ?_
  refine x_bmn.cons (xm_invV ym_ZStringBuilder_length) ?_
  refine x_bmn.cons (xm_icmp) ?_
  refine x_bmn.cons (xm_aload) ?_
  refine x_bmn.cons (xm_iload) ?_
  refine x_bmn.cons (xm_invV ym_ZStringBuilder_charAt) ?_
  refine x_bmn.cons (xm_goto) ?_
  refine x_bmn.cons (xm_push) ?_
  refine x_bmn.cons (xm_iret) ?_
  exact x_bmn.nil
theorem is_C_byteAt : x_Is y_C_byteAt m_C_byteAt := x_is_code q4_211
def Y_C_byteAt : XMeth := x_do 5 b_C_byteAt
theorem sn_C_byteAt : x_Snd y_C_byteAt m_C_byteAt Y_C_byteAt := x_snd_of (by decide) rfl rfl is_C_byteAt k_C_byteAt
theorem ym_C_byteAt : x_Ymn Y_C_byteAt := x_ymn_of mn_C_byteAt
/- CashLinkLaw.byteAt(LCashLink;II[J)I -/
abbrev c_L_byteAt : ByteArray := method_17_code
def y_L_byteAt : MethodName := ⟨"CashLinkLaw", "byteAt", "(LCashLink;II[J)I"⟩
theorem d_L_byteAt_0 : decode c_L_byteAt 0 = .ok (.aload_n 3, 1) := by decide +kernel
theorem d_L_byteAt_1 : decode c_L_byteAt 1 = .ok (.iconst 0, 1) := by decide +kernel
theorem d_L_byteAt_2 : decode c_L_byteAt 2 = .ok (.aload_n 0, 1) := by decide +kernel
theorem d_L_byteAt_3 : decode c_L_byteAt 3 = .ok (.iload_n 1, 1) := by decide +kernel
theorem d_L_byteAt_4 : decode c_L_byteAt 4 = .ok (.iload_n 2, 1) := by decide +kernel
theorem d_L_byteAt_5 : decode c_L_byteAt 5 = .ok (.invokevirtual 68, 3) := by decide +kernel
theorem d_L_byteAt_8 : decode c_L_byteAt 8 = .ok (.i2l, 1) := by decide +kernel
theorem d_L_byteAt_9 : decode c_L_byteAt 9 = .ok (.lastore, 1) := by decide +kernel
theorem d_L_byteAt_10 : decode c_L_byteAt 10 = .ok (.goto 7, 3) := by decide +kernel
theorem d_L_byteAt_13 : decode c_L_byteAt 13 = .ok (.astore 4, 2) := by decide +kernel
theorem d_L_byteAt_15 : decode c_L_byteAt 15 = .ok (.iconst 1, 1) := by decide +kernel
theorem d_L_byteAt_16 : decode c_L_byteAt 16 = .ok (.ireturn, 1) := by decide +kernel
theorem d_L_byteAt_17 : decode c_L_byteAt 17 = .ok (.iconst 0, 1) := by decide +kernel
theorem d_L_byteAt_18 : decode c_L_byteAt 18 = .ok (.ireturn, 1) := by decide +kernel
def m_L_byteAt : XM := ("CashLinkLaw", c_L_byteAt, 5, (some .int), "byteAt", [(0, 10, 13, 43)], 9, 204)
theorem h_L_byteAt_5 : x_hok m_L_byteAt 5 [(15, 13)] := by
  intro ci h hc
  by_cases e0 : ci = 15
  · subst e0
    have hh : h = 13 := (Option.some.inj (hc.symm.trans (by rfl : x_catch [(15, 13)] 15 = some 13)))
    subst hh
    refine ⟨"java/lang/IndexOutOfBoundsException", xT15, 0, [], ⟨0, 10, 13, 43⟩, [], rfl, rfl, rfl, rfl, by decide, q3_149, ?_⟩
    intro z hz
    cases hz
  exfalso
  simp only [x_catch] at hc
  rw [if_neg (fun q => e0 q.symm)] at hc
  cases hc
def b_L_byteAt : XB := [(0, X_aload 3 1),
  (1, X_push (xv_i 0) 1),
  (2, X_aload 0 1),
  (3, X_iload 1 1),
  (4, X_iload 2 1),
  (5, X_invV 0 Y_C_byteAt 2 [(15, 13)]),
  (8, X_i2l),
  (9, X_last 1),
  (10, X_goto 17),
  (13, X_astore 4 2),
  (15, X_push (xv_i 1) 1),
  (16, X_iret),
  (17, X_push (xv_i 0) 1),
  (18, X_iret)]
set_option maxRecDepth 100000 in
theorem k_L_byteAt : x_bok m_L_byteAt b_L_byteAt := by
  unfold b_L_byteAt
  refine x_bok.cons (xs_aload_n d_L_byteAt_0 rfl) ?_
  refine x_bok.cons (xs_iconst d_L_byteAt_1 (by decide)) ?_
  refine x_bok.cons (xs_aload_n d_L_byteAt_2 rfl) ?_
  refine x_bok.cons (xs_iload_n d_L_byteAt_3 rfl) ?_
  refine x_bok.cons (xs_iload_n d_L_byteAt_4 rfl) ?_
  refine x_bok.cons (xs_invV d_L_byteAt_5 xc0 sn_C_byteAt is_C_byteAt ⟨q4_208, q4_209, q4_210, q1_1⟩ (by decide) (by decide) h_L_byteAt_5) ?_
  refine x_bok.cons (xs_i2l d_L_byteAt_8) ?_
  refine x_bok.cons (xs_last d_L_byteAt_9 rfl) ?_
  refine x_bok.cons (xs_goto d_L_byteAt_10 (by decide)) ?_
  refine x_bok.cons (xs_astore d_L_byteAt_13 (by decide)) ?_
  refine x_bok.cons (xs_iconst d_L_byteAt_15 (by decide)) ?_
  refine x_bok.cons (xs_iret d_L_byteAt_16 rfl) ?_
  refine x_bok.cons (xs_iconst d_L_byteAt_17 (by decide)) ?_
  refine x_bok.cons (xs_iret d_L_byteAt_18 rfl) ?_
  exact x_bok.nil
set_option maxRecDepth 100000 in
theorem mn_L_byteAt : x_bmn b_L_byteAt := by
  unfold b_L_byteAt
  refine x_bmn.cons (xm_aload) ?_
  refine x_bmn.cons (xm_push) ?_
  refine x_bmn.cons (xm_aload) ?_
  refine x_bmn.cons (xm_iload) ?_
  refine x_bmn.cons (xm_iload) ?_
  refine x_bmn.cons (xm_invV ym_C_byteAt) ?_
  refine x_bmn.cons (xm_i2l) ?_
  refine x_bmn.cons (xm_last) ?_
  refine x_bmn.cons (xm_goto) ?_
  refine x_bmn.cons (xm_astore) ?_
  refine x_bmn.cons (xm_push) ?_
  refine x_bmn.cons (xm_iret) ?_
  refine x_bmn.cons (xm_push) ?_
  refine x_bmn.cons (xm_iret) ?_
  exact x_bmn.nil
theorem is_L_byteAt : x_Is y_L_byteAt m_L_byteAt := x_is_with q4_207
def Y_L_byteAt : XMeth := x_do 5 b_L_byteAt
theorem sn_L_byteAt : x_Snd y_L_byteAt m_L_byteAt Y_L_byteAt := x_snd_of (by decide) rfl rfl is_L_byteAt k_L_byteAt
theorem ym_L_byteAt : x_Ymn Y_L_byteAt := x_ymn_of mn_L_byteAt
