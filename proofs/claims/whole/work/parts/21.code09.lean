/- CashLinkLaw.load(LCashLink;III[J)I -/
abbrev c_L_load : ByteArray := method_11_code
def y_L_load : MethodName := ⟨"CashLinkLaw", "load", "(LCashLink;III[J)I"⟩
theorem d_L_load_0 : decode c_L_load 0 = .ok (.aload 4, 2) := by decide +kernel
theorem d_L_load_2 : decode c_L_load 2 = .ok (.iconst 0, 1) := by decide +kernel
theorem d_L_load_3 : decode c_L_load 3 = .ok (.aload_n 0, 1) := by decide +kernel
theorem d_L_load_4 : decode c_L_load 4 = .ok (.iload_n 1, 1) := by decide +kernel
theorem d_L_load_5 : decode c_L_load 5 = .ok (.iload_n 2, 1) := by decide +kernel
theorem d_L_load_6 : decode c_L_load 6 = .ok (.iload_n 3, 1) := by decide +kernel
theorem d_L_load_7 : decode c_L_load 7 = .ok (.invokevirtual 48, 3) := by decide +kernel
theorem d_L_load_10 : decode c_L_load 10 = .ok (.i2l, 1) := by decide +kernel
theorem d_L_load_11 : decode c_L_load 11 = .ok (.lastore, 1) := by decide +kernel
theorem d_L_load_12 : decode c_L_load 12 = .ok (.goto 11, 3) := by decide +kernel
theorem d_L_load_15 : decode c_L_load 15 = .ok (.astore 5, 2) := by decide +kernel
theorem d_L_load_17 : decode c_L_load 17 = .ok (.iconst 1, 1) := by decide +kernel
theorem d_L_load_18 : decode c_L_load 18 = .ok (.ireturn, 1) := by decide +kernel
theorem d_L_load_19 : decode c_L_load 19 = .ok (.astore 5, 2) := by decide +kernel
theorem d_L_load_21 : decode c_L_load 21 = .ok (.iconst 2, 1) := by decide +kernel
theorem d_L_load_22 : decode c_L_load 22 = .ok (.ireturn, 1) := by decide +kernel
theorem d_L_load_23 : decode c_L_load 23 = .ok (.iconst 0, 1) := by decide +kernel
theorem d_L_load_24 : decode c_L_load 24 = .ok (.ireturn, 1) := by decide +kernel
def m_L_load : XM := ("CashLinkLaw", c_L_load, 6, (some .int), "load", [(0, 12, 15, 13), (0, 12, 19, 15)], 9, 156)
theorem h_L_load_7 : x_hok m_L_load 7 [(11, 15), (12, 19)] := by
  intro ci h hc
  by_cases e0 : ci = 11
  · subst e0
    have hh : h = 15 := (Option.some.inj (hc.symm.trans (by rfl : x_catch [(11, 15), (12, 19)] 11 = some 15)))
    subst hh
    refine ⟨"java/lang/IllegalArgumentException", xT11, 0, [], ⟨0, 12, 15, 13⟩, [⟨0, 12, 19, 15⟩], rfl, rfl, rfl, rfl, by decide, q1_217, ?_⟩
    intro z hz
    cases hz
  by_cases e1 : ci = 12
  · subst e1
    have hh : h = 19 := (Option.some.inj (hc.symm.trans (by rfl : x_catch [(11, 15), (12, 19)] 12 = some 19)))
    subst hh
    refine ⟨"java/lang/IllegalStateException", xT12, 0, [⟨0, 12, 15, 13⟩], ⟨0, 12, 19, 15⟩, [], rfl, rfl, rfl, rfl, by decide, q1_218, ?_⟩
    intro z hz
    simp only [List.mem_cons, List.not_mem_nil, or_false] at hz
    rcases hz with rfl
    · exact Or.inr ⟨by decide, "java/lang/IllegalArgumentException", q1_217, x_inN 0 rfl⟩
  exfalso
  simp only [x_catch] at hc
  rw [if_neg (fun q => e0 q.symm)] at hc
  rw [if_neg (fun q => e1 q.symm)] at hc
  cases hc
def b_L_load : XB := [(0, X_aload 4 2),
  (2, X_push (xv_i 0) 1),
  (3, X_aload 0 1),
  (4, X_iload 1 1),
  (5, X_iload 2 1),
  (6, X_iload 3 1),
  (7, X_invV 0 Y_C_load 3 [(11, 15), (12, 19)]),
  (10, X_i2l),
  (11, X_last 1),
  (12, X_goto 23),
  (15, X_astore 5 2),
  (17, X_push (xv_i 1) 1),
  (18, X_iret),
  (19, X_astore 5 2),
  (21, X_push (xv_i 2) 1),
  (22, X_iret),
  (23, X_push (xv_i 0) 1),
  (24, X_iret)]
set_option maxRecDepth 100000 in
theorem k_L_load : x_bok m_L_load b_L_load := by
  unfold b_L_load
  refine x_bok.cons (xs_aload d_L_load_0) ?_
  refine x_bok.cons (xs_iconst d_L_load_2 (by decide)) ?_
  refine x_bok.cons (xs_aload_n d_L_load_3 rfl) ?_
  refine x_bok.cons (xs_iload_n d_L_load_4 rfl) ?_
  refine x_bok.cons (xs_iload_n d_L_load_5 rfl) ?_
  refine x_bok.cons (xs_iload_n d_L_load_6 rfl) ?_
  refine x_bok.cons (xs_invV d_L_load_7 xc0 sn_C_load is_C_load ⟨q4_115, q4_116, q4_117, q1_1⟩ (by decide) (by decide) h_L_load_7) ?_
  refine x_bok.cons (xs_i2l d_L_load_10) ?_
  refine x_bok.cons (xs_last d_L_load_11 rfl) ?_
  refine x_bok.cons (xs_goto d_L_load_12 (by decide)) ?_
  refine x_bok.cons (xs_astore d_L_load_15 (by decide)) ?_
  refine x_bok.cons (xs_iconst d_L_load_17 (by decide)) ?_
  refine x_bok.cons (xs_iret d_L_load_18 rfl) ?_
  refine x_bok.cons (xs_astore d_L_load_19 (by decide)) ?_
  refine x_bok.cons (xs_iconst d_L_load_21 (by decide)) ?_
  refine x_bok.cons (xs_iret d_L_load_22 rfl) ?_
  refine x_bok.cons (xs_iconst d_L_load_23 (by decide)) ?_
  refine x_bok.cons (xs_iret d_L_load_24 rfl) ?_
  exact x_bok.nil
set_option maxRecDepth 100000 in
theorem mn_L_load : x_bmn b_L_load := by
  unfold b_L_load
  refine x_bmn.cons (xm_aload) ?_
  refine x_bmn.cons (xm_push) ?_
  refine x_bmn.cons (xm_aload) ?_
  refine x_bmn.cons (xm_iload) ?_
  refine x_bmn.cons (xm_iload) ?_
  refine x_bmn.cons (xm_iload) ?_
  refine x_bmn.cons (xm_invV ym_C_load) ?_
  refine x_bmn.cons (xm_i2l) ?_
  refine x_bmn.cons (xm_last) ?_
  refine x_bmn.cons (xm_goto) ?_
  refine x_bmn.cons (xm_astore) ?_
  refine x_bmn.cons (xm_push) ?_
  refine x_bmn.cons (xm_iret) ?_
  refine x_bmn.cons (xm_astore) ?_
  refine x_bmn.cons (xm_push) ?_
  refine x_bmn.cons (xm_iret) ?_
  refine x_bmn.cons (xm_push) ?_
  refine x_bmn.cons (xm_iret) ?_
  exact x_bmn.nil
theorem is_L_load : x_Is y_L_load m_L_load := x_is_with q4_114
def Y_L_load : XMeth := x_do 6 b_L_load
theorem sn_L_load : x_Snd y_L_load m_L_load Y_L_load := x_snd_of (by decide) rfl rfl is_L_load k_L_load
theorem ym_L_load : x_Ymn Y_L_load := x_ymn_of mn_L_load
/- CashLink$Journal.planFailure(II)V -/
abbrev c_J_planFailure : ByteArray := prog_5_method_7_code
def y_J_planFailure : MethodName := ⟨"CashLink$Journal", "planFailure", "(II)V"⟩
theorem d_J_planFailure_0 : decode c_J_planFailure 0 = .ok (.aload_n 0, 1) := by decide +kernel
theorem d_J_planFailure_1 : decode c_J_planFailure 1 = .ok (.iload_n 1, 1) := by decide +kernel
theorem d_J_planFailure_2 : decode c_J_planFailure 2 = .ok (.putfield 37, 3) := by decide +kernel
theorem d_J_planFailure_5 : decode c_J_planFailure 5 = .ok (.aload_n 0, 1) := by decide +kernel
theorem d_J_planFailure_6 : decode c_J_planFailure 6 = .ok (.iload_n 2, 1) := by decide +kernel
theorem d_J_planFailure_7 : decode c_J_planFailure 7 = .ok (.putfield 20, 3) := by decide +kernel
theorem d_J_planFailure_10 : decode c_J_planFailure 10 = .ok (.return_, 1) := by decide +kernel
def m_J_planFailure : XM := ("CashLink$Journal", c_J_planFailure, 3, none, "planFailure", [], 0, 0)
def b_J_planFailure : XB := [(0, X_aload 0 1),
  (1, X_iload 1 1),
  (2, X_put x_tI 4 3),
  (5, X_aload 0 1),
  (6, X_iload 2 1),
  (7, X_put x_tI 4 4),
  (10, X_vret)]
set_option maxRecDepth 100000 in
theorem k_J_planFailure : x_bok m_J_planFailure b_J_planFailure := by
  unfold b_J_planFailure
  refine x_bok.cons (xs_aload_n d_J_planFailure_0 rfl) ?_
  refine x_bok.cons (xs_iload_n d_J_planFailure_1 rfl) ?_
  refine x_bok.cons (xs_put d_J_planFailure_2 xc4 xw4 xt4 xn4 (by decide) q1_99 (Or.inl rfl) rfl rfl x_fitI) ?_
  refine x_bok.cons (xs_aload_n d_J_planFailure_5 rfl) ?_
  refine x_bok.cons (xs_iload_n d_J_planFailure_6 rfl) ?_
  refine x_bok.cons (xs_put d_J_planFailure_7 xc4 xw4 xt4 xn4 (by decide) q1_100 (Or.inl rfl) rfl rfl x_fitI) ?_
  refine x_bok.cons (xs_vret d_J_planFailure_10 rfl) ?_
  exact x_bok.nil
set_option maxRecDepth 100000 in
theorem mn_J_planFailure : x_bmn b_J_planFailure := by
  unfold b_J_planFailure
  refine x_bmn.cons (xm_aload) ?_
  refine x_bmn.cons (xm_iload) ?_
  refine x_bmn.cons (xm_put) ?_
  refine x_bmn.cons (xm_aload) ?_
  refine x_bmn.cons (xm_iload) ?_
  refine x_bmn.cons (xm_put) ?_
  refine x_bmn.cons (xm_vret) ?_
  exact x_bmn.nil
theorem is_J_planFailure : x_Is y_J_planFailure m_J_planFailure := x_is_code q4_137
def Y_J_planFailure : XMeth := x_do 3 b_J_planFailure
theorem sn_J_planFailure : x_Snd y_J_planFailure m_J_planFailure Y_J_planFailure := x_snd_of (by decide) rfl rfl is_J_planFailure k_J_planFailure
theorem ym_J_planFailure : x_Ymn Y_J_planFailure := x_ymn_of mn_J_planFailure
/- CashLink.power(III)V -/
abbrev c_C_power : ByteArray := prog_1_method_11_code
def y_C_power : MethodName := ⟨"CashLink", "power", "(III)V"⟩
theorem d_C_power_0 : decode c_C_power 0 = .ok (.iload_n 1, 1) := by decide +kernel
theorem d_C_power_1 : decode c_C_power 1 = .ok (.ifCond .lt 32, 3) := by decide +kernel
theorem d_C_power_4 : decode c_C_power 4 = .ok (.iload_n 1, 1) := by decide +kernel
theorem d_C_power_5 : decode c_C_power 5 = .ok (.iconst 4, 1) := by decide +kernel
theorem d_C_power_6 : decode c_C_power 6 = .ok (.if_icmp .gt 27, 3) := by decide +kernel
theorem d_C_power_9 : decode c_C_power 9 = .ok (.iload_n 2, 1) := by decide +kernel
theorem d_C_power_10 : decode c_C_power 10 = .ok (.ifCond .lt 23, 3) := by decide +kernel
theorem d_C_power_13 : decode c_C_power 13 = .ok (.iload_n 2, 1) := by decide +kernel
theorem d_C_power_14 : decode c_C_power 14 = .ok (.bipush 50, 2) := by decide +kernel
theorem d_C_power_16 : decode c_C_power 16 = .ok (.if_icmp .gt 17, 3) := by decide +kernel
theorem d_C_power_19 : decode c_C_power 19 = .ok (.iload_n 3, 1) := by decide +kernel
theorem d_C_power_20 : decode c_C_power 20 = .ok (.ifCond .lt 13, 3) := by decide +kernel
theorem d_C_power_23 : decode c_C_power 23 = .ok (.iload_n 3, 1) := by decide +kernel
theorem d_C_power_24 : decode c_C_power 24 = .ok (.bipush 17, 2) := by decide +kernel
theorem d_C_power_26 : decode c_C_power 26 = .ok (.if_icmp .gt 7, 3) := by decide +kernel
theorem d_C_power_29 : decode c_C_power 29 = .ok (.iconst 1, 1) := by decide +kernel
theorem d_C_power_30 : decode c_C_power 30 = .ok (.goto 4, 3) := by decide +kernel
theorem d_C_power_33 : decode c_C_power 33 = .ok (.iconst 0, 1) := by decide +kernel
theorem d_C_power_34 : decode c_C_power 34 = .ok (.invokestatic 46, 3) := by decide +kernel
theorem d_C_power_37 : decode c_C_power 37 = .ok (.iload_n 1, 1) := by decide +kernel
theorem d_C_power_38 : decode c_C_power 38 = .ok (.iconst 4, 1) := by decide +kernel
theorem d_C_power_39 : decode c_C_power 39 = .ok (.if_icmp .ne 13, 3) := by decide +kernel
theorem d_C_power_42 : decode c_C_power 42 = .ok (.aload_n 0, 1) := by decide +kernel
theorem d_C_power_43 : decode c_C_power 43 = .ok (.getfield 31, 3) := by decide +kernel
theorem d_C_power_46 : decode c_C_power 46 = .ok (.getfield 117, 3) := by decide +kernel
theorem d_C_power_49 : decode c_C_power 49 = .ok (.goto 12, 3) := by decide +kernel
theorem d_C_power_52 : decode c_C_power 52 = .ok (.aload_n 0, 1) := by decide +kernel
theorem d_C_power_53 : decode c_C_power 53 = .ok (.getfield 11, 3) := by decide +kernel
theorem d_C_power_56 : decode c_C_power 56 = .ok (.iload_n 1, 1) := by decide +kernel
theorem d_C_power_57 : decode c_C_power 57 = .ok (.aaload, 1) := by decide +kernel
theorem d_C_power_58 : decode c_C_power 58 = .ok (.getfield 121, 3) := by decide +kernel
theorem d_C_power_61 : decode c_C_power 61 = .ok (.astore 4, 2) := by decide +kernel
theorem d_C_power_63 : decode c_C_power 63 = .ok (.aload 4, 2) := by decide +kernel
theorem d_C_power_65 : decode c_C_power 65 = .ok (.iload_n 2, 1) := by decide +kernel
theorem d_C_power_66 : decode c_C_power 66 = .ok (.iload_n 3, 1) := by decide +kernel
theorem d_C_power_67 : decode c_C_power 67 = .ok (.invokevirtual 122, 3) := by decide +kernel
theorem d_C_power_70 : decode c_C_power 70 = .ok (.return_, 1) := by decide +kernel
def m_C_power : XM := ("CashLink", c_C_power, 5, none, "power", [], 7, 110)
def b_C_power : XB := [(0, X_iload 1 1),
  (1, X_if (fun x => x < 0) 33),
  (4, X_iload 1 1),
  (5, X_push (xv_i 4) 1),
  (6, X_icmp (fun x y => y < x) 33),
  (9, X_iload 2 1),
  (10, X_if (fun x => x < 0) 33),
  (13, X_iload 2 1),
  (14, X_push (xv_i 50) 2),
  (16, X_icmp (fun x y => y < x) 33),
  (19, X_iload 3 1),
  (20, X_if (fun x => x < 0) 33),
  (23, X_iload 3 1),
  (24, X_push (xv_i 17) 2),
  (26, X_icmp (fun x y => y < x) 33),
  (29, X_push (xv_i 1) 1),
  (30, X_goto 34),
  (33, X_push (xv_i 0) 1),
  (34, X_invS Y_C_allow 1 []),
  (37, X_iload 1 1),
  (38, X_push (xv_i 4) 1),
  (39, X_icmp (fun x y => ¬ x = y) 52),
  (42, X_aload 0 1),
  (43, X_get 0 1),
  (46, X_get 2 1),
  (49, X_goto 61),
  (52, X_aload 0 1),
  (53, X_get 0 2),
  (56, X_iload 1 1),
  (57, X_aald 4),
  (58, X_get 3 3),
  (61, X_astore 4 2),
  (63, X_aload 4 2),
  (65, X_iload 2 1),
  (66, X_iload 3 1),
  (67, X_invV 4 Y_J_planFailure 2 []),
  (70, X_vret)]
set_option maxRecDepth 100000 in
theorem k_C_power : x_bok m_C_power b_C_power := by
  unfold b_C_power
  refine x_bok.cons (xs_iload_n d_C_power_0 rfl) ?_
  refine x_bok.cons (xs_if_lt d_C_power_1 (by decide)) ?_
  refine x_bok.cons (xs_iload_n d_C_power_4 rfl) ?_
  refine x_bok.cons (xs_iconst d_C_power_5 (by decide)) ?_
  refine x_bok.cons (xs_icmp_gt d_C_power_6 (by decide)) ?_
  refine x_bok.cons (xs_iload_n d_C_power_9 rfl) ?_
  refine x_bok.cons (xs_if_lt d_C_power_10 (by decide)) ?_
  refine x_bok.cons (xs_iload_n d_C_power_13 rfl) ?_
  refine x_bok.cons (xs_bipush d_C_power_14 (by decide)) ?_
  refine x_bok.cons (xs_icmp_gt d_C_power_16 (by decide)) ?_
  refine x_bok.cons (xs_iload_n d_C_power_19 rfl) ?_
  refine x_bok.cons (xs_if_lt d_C_power_20 (by decide)) ?_
  refine x_bok.cons (xs_iload_n d_C_power_23 rfl) ?_
  refine x_bok.cons (xs_bipush d_C_power_24 (by decide)) ?_
  refine x_bok.cons (xs_icmp_gt d_C_power_26 (by decide)) ?_
  refine x_bok.cons (xs_iconst d_C_power_29 (by decide)) ?_
  refine x_bok.cons (xs_goto d_C_power_30 (by decide)) ?_
  refine x_bok.cons (xs_iconst d_C_power_33 (by decide)) ?_
  refine x_bok.cons (xs_invS d_C_power_34 sn_C_allow is_C_allow ⟨q1_227, q1_228, q1_1⟩ (by decide) (by decide) rfl) ?_
  refine x_bok.cons (xs_iload_n d_C_power_37 rfl) ?_
  refine x_bok.cons (xs_iconst d_C_power_38 (by decide)) ?_
  refine x_bok.cons (xs_icmp_ne d_C_power_39 (by decide)) ?_
  refine x_bok.cons (xs_aload_n d_C_power_42 rfl) ?_
  refine x_bok.cons (xs_get d_C_power_43 xc0 xw0 (by decide) q1_202 (Or.inl rfl)) ?_
  refine x_bok.cons (xs_get d_C_power_46 xc2 xw2 (by decide) q1_115 (Or.inl rfl)) ?_
  refine x_bok.cons (xs_goto d_C_power_49 (by decide)) ?_
  refine x_bok.cons (xs_aload_n d_C_power_52 rfl) ?_
  refine x_bok.cons (xs_get d_C_power_53 xc0 xw0 (by decide) q1_203 (Or.inl rfl)) ?_
  refine x_bok.cons (xs_iload_n d_C_power_56 rfl) ?_
  refine x_bok.cons (xs_aald d_C_power_57 rfl) ?_
  refine x_bok.cons (xs_get d_C_power_58 xc3 xw3 (by decide) q1_169 (Or.inl rfl)) ?_
  refine x_bok.cons (xs_astore d_C_power_61 (by decide)) ?_
  refine x_bok.cons (xs_aload d_C_power_63) ?_
  refine x_bok.cons (xs_iload_n d_C_power_65 rfl) ?_
  refine x_bok.cons (xs_iload_n d_C_power_66 rfl) ?_
  refine x_bok.cons (xs_invV d_C_power_67 xc4 sn_J_planFailure is_J_planFailure ⟨q4_134, q4_135, q4_136, q1_7⟩ (by decide) (by decide) rfl) ?_
  refine x_bok.cons (xs_vret d_C_power_70 rfl) ?_
  exact x_bok.nil
set_option maxRecDepth 100000 in
theorem mn_C_power : x_bmn b_C_power := by
  unfold b_C_power
  refine x_bmn.cons (xm_iload) ?_
  refine x_bmn.cons (xm_if) ?_
  refine x_bmn.cons (xm_iload) ?_
  refine x_bmn.cons (xm_push) ?_
  refine x_bmn.cons (xm_icmp) ?_
  refine x_bmn.cons (xm_iload) ?_
  refine x_bmn.cons (xm_if) ?_
  refine x_bmn.cons (xm_iload) ?_
  refine x_bmn.cons (xm_push) ?_
  refine x_bmn.cons (xm_icmp) ?_
  refine x_bmn.cons (xm_iload) ?_
  refine x_bmn.cons (xm_if) ?_
  refine x_bmn.cons (xm_iload) ?_
  refine x_bmn.cons (xm_push) ?_
  refine x_bmn.cons (xm_icmp) ?_
  refine x_bmn.cons (xm_push) ?_
  refine x_bmn.cons (xm_goto) ?_
  refine x_bmn.cons (xm_push) ?_
  refine x_bmn.cons (xm_invS ym_C_allow) ?_
  refine x_bmn.cons (xm_iload) ?_
  refine x_bmn.cons (xm_push) ?_
  refine x_bmn.cons (xm_icmp) ?_
  refine x_bmn.cons (xm_aload) ?_
  refine x_bmn.cons (xm_get) ?_
  refine x_bmn.cons (xm_get) ?_
  refine x_bmn.cons (xm_goto) ?_
  refine x_bmn.cons (xm_aload) ?_
  refine x_bmn.cons (xm_get) ?_
  refine x_bmn.cons (xm_iload) ?_
  refine x_bmn.cons (xm_aald) ?_
  refine x_bmn.cons (xm_get) ?_
  refine x_bmn.cons (xm_astore) ?_
  refine x_bmn.cons (xm_aload) ?_
  refine x_bmn.cons (xm_iload) ?_
  refine x_bmn.cons (xm_iload) ?_
  refine x_bmn.cons (xm_invV ym_J_planFailure) ?_
  refine x_bmn.cons (xm_vret) ?_
  exact x_bmn.nil
theorem is_C_power : x_Is y_C_power m_C_power := x_is_code q4_133
def Y_C_power : XMeth := x_do 5 b_C_power
theorem sn_C_power : x_Snd y_C_power m_C_power Y_C_power := x_snd_of (by decide) rfl rfl is_C_power k_C_power
theorem ym_C_power : x_Ymn Y_C_power := x_ymn_of mn_C_power
/- CashLinkLaw.power(LCashLink;III)I -/
abbrev c_L_power : ByteArray := method_12_code
def y_L_power : MethodName := ⟨"CashLinkLaw", "power", "(LCashLink;III)I"⟩
theorem d_L_power_0 : decode c_L_power 0 = .ok (.aload_n 0, 1) := by decide +kernel
theorem d_L_power_1 : decode c_L_power 1 = .ok (.iload_n 1, 1) := by decide +kernel
theorem d_L_power_2 : decode c_L_power 2 = .ok (.iload_n 2, 1) := by decide +kernel
theorem d_L_power_3 : decode c_L_power 3 = .ok (.iload_n 3, 1) := by decide +kernel
theorem d_L_power_4 : decode c_L_power 4 = .ok (.invokevirtual 52, 3) := by decide +kernel
theorem d_L_power_7 : decode c_L_power 7 = .ok (.goto 7, 3) := by decide +kernel
theorem d_L_power_10 : decode c_L_power 10 = .ok (.astore 4, 2) := by decide +kernel
theorem d_L_power_12 : decode c_L_power 12 = .ok (.iconst 1, 1) := by decide +kernel
theorem d_L_power_13 : decode c_L_power 13 = .ok (.ireturn, 1) := by decide +kernel
theorem d_L_power_14 : decode c_L_power 14 = .ok (.iconst 0, 1) := by decide +kernel
theorem d_L_power_15 : decode c_L_power 15 = .ok (.ireturn, 1) := by decide +kernel
def m_L_power : XM := ("CashLinkLaw", c_L_power, 5, (some .int), "power", [(0, 7, 10, 13)], 8, 134)
theorem h_L_power_4 : x_hok m_L_power 4 [(11, 10)] := by
  intro ci h hc
  by_cases e0 : ci = 11
  · subst e0
    have hh : h = 10 := (Option.some.inj (hc.symm.trans (by rfl : x_catch [(11, 10)] 11 = some 10)))
    subst hh
    refine ⟨"java/lang/IllegalArgumentException", xT11, 0, [], ⟨0, 7, 10, 13⟩, [], rfl, rfl, rfl, rfl, by decide, q1_217, ?_⟩
    intro z hz
    cases hz
  exfalso
  simp only [x_catch] at hc
  rw [if_neg (fun q => e0 q.symm)] at hc
  cases hc
def b_L_power : XB := [(0, X_aload 0 1),
  (1, X_iload 1 1),
  (2, X_iload 2 1),
  (3, X_iload 3 1),
  (4, X_invV 0 Y_C_power 3 [(11, 10)]),
  (7, X_goto 14),
  (10, X_astore 4 2),
  (12, X_push (xv_i 1) 1),
  (13, X_iret),
  (14, X_push (xv_i 0) 1),
  (15, X_iret)]
set_option maxRecDepth 100000 in
theorem k_L_power : x_bok m_L_power b_L_power := by
  unfold b_L_power
  refine x_bok.cons (xs_aload_n d_L_power_0 rfl) ?_
  refine x_bok.cons (xs_iload_n d_L_power_1 rfl) ?_
  refine x_bok.cons (xs_iload_n d_L_power_2 rfl) ?_
  refine x_bok.cons (xs_iload_n d_L_power_3 rfl) ?_
  refine x_bok.cons (xs_invV d_L_power_4 xc0 sn_C_power is_C_power ⟨q4_130, q4_131, q4_132, q1_1⟩ (by decide) (by decide) h_L_power_4) ?_
  refine x_bok.cons (xs_goto d_L_power_7 (by decide)) ?_
  refine x_bok.cons (xs_astore d_L_power_10 (by decide)) ?_
  refine x_bok.cons (xs_iconst d_L_power_12 (by decide)) ?_
  refine x_bok.cons (xs_iret d_L_power_13 rfl) ?_
  refine x_bok.cons (xs_iconst d_L_power_14 (by decide)) ?_
  refine x_bok.cons (xs_iret d_L_power_15 rfl) ?_
  exact x_bok.nil
set_option maxRecDepth 100000 in
theorem mn_L_power : x_bmn b_L_power := by
  unfold b_L_power
  refine x_bmn.cons (xm_aload) ?_
  refine x_bmn.cons (xm_iload) ?_
  refine x_bmn.cons (xm_iload) ?_
  refine x_bmn.cons (xm_iload) ?_
  refine x_bmn.cons (xm_invV ym_C_power) ?_
  refine x_bmn.cons (xm_goto) ?_
  refine x_bmn.cons (xm_astore) ?_
  refine x_bmn.cons (xm_push) ?_
  refine x_bmn.cons (xm_iret) ?_
  refine x_bmn.cons (xm_push) ?_
  refine x_bmn.cons (xm_iret) ?_
  exact x_bmn.nil
theorem is_L_power : x_Is y_L_power m_L_power := x_is_with q4_129
def Y_L_power : XMeth := x_do 5 b_L_power
theorem sn_L_power : x_Snd y_L_power m_L_power Y_L_power := x_snd_of (by decide) rfl rfl is_L_power k_L_power
theorem ym_L_power : x_Ymn Y_L_power := x_ymn_of mn_L_power
/- CashLink$Journal.turnOn()V -/
abbrev c_J_turnOn : ByteArray := prog_5_method_6_code
def y_J_turnOn : MethodName := ⟨"CashLink$Journal", "turnOn", "()V"⟩
theorem d_J_turnOn_0 : decode c_J_turnOn 0 = .ok (.aload_n 0, 1) := by decide +kernel
theorem d_J_turnOn_1 : decode c_J_turnOn 1 = .ok (.iconst 1, 1) := by decide +kernel
theorem d_J_turnOn_2 : decode c_J_turnOn 2 = .ok (.putfield 16, 3) := by decide +kernel
theorem d_J_turnOn_5 : decode c_J_turnOn 5 = .ok (.return_, 1) := by decide +kernel
def m_J_turnOn : XM := ("CashLink$Journal", c_J_turnOn, 1, none, "turnOn", [], 0, 0)
def b_J_turnOn : XB := [(0, X_aload 0 1),
  (1, X_push (xv_i 1) 1),
  (2, X_put x_tZ 4 2),
  (5, X_vret)]
set_option maxRecDepth 100000 in
theorem k_J_turnOn : x_bok m_J_turnOn b_J_turnOn := by
  unfold b_J_turnOn
  refine x_bok.cons (xs_aload_n d_J_turnOn_0 rfl) ?_
  refine x_bok.cons (xs_iconst d_J_turnOn_1 (by decide)) ?_
  refine x_bok.cons (xs_put d_J_turnOn_2 xc4 xw4 xt4 xn4 (by decide) q1_98 (Or.inl rfl) rfl rfl x_fitZ) ?_
  refine x_bok.cons (xs_vret d_J_turnOn_5 rfl) ?_
  exact x_bok.nil
set_option maxRecDepth 100000 in
theorem mn_J_turnOn : x_bmn b_J_turnOn := by
  unfold b_J_turnOn
  refine x_bmn.cons (xm_aload) ?_
  refine x_bmn.cons (xm_push) ?_
  refine x_bmn.cons (xm_put) ?_
  refine x_bmn.cons (xm_vret) ?_
  exact x_bmn.nil
theorem is_J_turnOn : x_Is y_J_turnOn m_J_turnOn := x_is_code q4_152
def Y_J_turnOn : XMeth := x_do 1 b_J_turnOn
theorem sn_J_turnOn : x_Snd y_J_turnOn m_J_turnOn Y_J_turnOn := x_snd_of (by decide) rfl rfl is_J_turnOn k_J_turnOn
theorem ym_J_turnOn : x_Ymn Y_J_turnOn := x_ymn_of mn_J_turnOn
/- CashLink$Bank.turnOn()I -/
abbrev c_B_turnOn : ByteArray := prog_2_method_2_code
def y_B_turnOn : MethodName := ⟨"CashLink$Bank", "turnOn", "()I"⟩
theorem d_B_turnOn_0 : decode c_B_turnOn 0 = .ok (.aload_n 0, 1) := by decide +kernel
theorem d_B_turnOn_1 : decode c_B_turnOn 1 = .ok (.getfield 16, 3) := by decide +kernel
theorem d_B_turnOn_4 : decode c_B_turnOn 4 = .ok (.invokevirtual 28, 3) := by decide +kernel
theorem d_B_turnOn_7 : decode c_B_turnOn 7 = .ok (.aload_n 0, 1) := by decide +kernel
theorem d_B_turnOn_8 : decode c_B_turnOn 8 = .ok (.getfield 16, 3) := by decide +kernel
theorem d_B_turnOn_11 : decode c_B_turnOn 11 = .ok (.invokevirtual 31, 3) := by decide +kernel
theorem d_B_turnOn_14 : decode c_B_turnOn 14 = .ok (.ireturn, 1) := by decide +kernel
def m_B_turnOn : XM := ("CashLink$Bank", c_B_turnOn, 1, (some .int), "turnOn", [], 2, 40)
def b_B_turnOn : XB := [(0, X_aload 0 1),
  (1, X_get 2 1),
  (4, X_invV 4 Y_J_turnOn 0 []),
  (7, X_aload 0 1),
  (8, X_get 2 1),
  (11, X_invV 4 Y_J_size 0 []),
  (14, X_iret)]
set_option maxRecDepth 100000 in
theorem k_B_turnOn : x_bok m_B_turnOn b_B_turnOn := by
  unfold b_B_turnOn
  refine x_bok.cons (xs_aload_n d_B_turnOn_0 rfl) ?_
  refine x_bok.cons (xs_get d_B_turnOn_1 xc2 xw2 (by decide) q1_114 (Or.inl rfl)) ?_
  refine x_bok.cons (xs_invV d_B_turnOn_4 xc4 sn_J_turnOn is_J_turnOn ⟨q4_149, q4_150, q4_151, q1_7⟩ (by decide) (by decide) rfl) ?_
  refine x_bok.cons (xs_aload_n d_B_turnOn_7 rfl) ?_
  refine x_bok.cons (xs_get d_B_turnOn_8 xc2 xw2 (by decide) q1_114 (Or.inl rfl)) ?_
  refine x_bok.cons (xs_invV d_B_turnOn_11 xc4 sn_J_size is_J_size ⟨q3_236, q3_131, q3_132, q1_7⟩ (by decide) (by decide) rfl) ?_
  refine x_bok.cons (xs_iret d_B_turnOn_14 rfl) ?_
  exact x_bok.nil
set_option maxRecDepth 100000 in
theorem mn_B_turnOn : x_bmn b_B_turnOn := by
  unfold b_B_turnOn
  refine x_bmn.cons (xm_aload) ?_
  refine x_bmn.cons (xm_get) ?_
  refine x_bmn.cons (xm_invV ym_J_turnOn) ?_
  refine x_bmn.cons (xm_aload) ?_
  refine x_bmn.cons (xm_get) ?_
  refine x_bmn.cons (xm_invV ym_J_size) ?_
  refine x_bmn.cons (xm_iret) ?_
  exact x_bmn.nil
theorem is_B_turnOn : x_Is y_B_turnOn m_B_turnOn := x_is_code q4_148
def Y_B_turnOn : XMeth := x_do 1 b_B_turnOn
theorem sn_B_turnOn : x_Snd y_B_turnOn m_B_turnOn Y_B_turnOn := x_snd_of (by decide) rfl rfl is_B_turnOn k_B_turnOn
theorem ym_B_turnOn : x_Ymn Y_B_turnOn := x_ymn_of mn_B_turnOn
/- java/util/ArrayList.clear()V -/
abbrev c_A_clear : ByteArray := prog_35_method_40_code
def y_A_clear : MethodName := ⟨"java/util/ArrayList", "clear", "()V"⟩
theorem d_A_clear_0 : decode c_A_clear 0 = .ok (.aload_n 0, 1) := by decide +kernel
theorem d_A_clear_1 : decode c_A_clear 1 = .ok (.dup, 1) := by decide +kernel
theorem d_A_clear_2 : decode c_A_clear 2 = .ok (.getfield 63, 3) := by decide +kernel
theorem d_A_clear_5 : decode c_A_clear 5 = .ok (.iconst 1, 1) := by decide +kernel
theorem d_A_clear_6 : decode c_A_clear 6 = .ok (.iadd, 1) := by decide +kernel
theorem d_A_clear_7 : decode c_A_clear 7 = .ok (.putfield 63, 3) := by decide +kernel
theorem d_A_clear_10 : decode c_A_clear 10 = .ok (.aload_n 0, 1) := by decide +kernel
theorem d_A_clear_11 : decode c_A_clear 11 = .ok (.getfield 9, 3) := by decide +kernel
theorem d_A_clear_14 : decode c_A_clear 14 = .ok (.astore_n 1, 1) := by decide +kernel
theorem d_A_clear_15 : decode c_A_clear 15 = .ok (.aload_n 0, 1) := by decide +kernel
theorem d_A_clear_16 : decode c_A_clear 16 = .ok (.getfield 48, 3) := by decide +kernel
theorem d_A_clear_19 : decode c_A_clear 19 = .ok (.istore_n 2, 1) := by decide +kernel
theorem d_A_clear_20 : decode c_A_clear 20 = .ok (.aload_n 0, 1) := by decide +kernel
theorem d_A_clear_21 : decode c_A_clear 21 = .ok (.iconst 0, 1) := by decide +kernel
theorem d_A_clear_22 : decode c_A_clear 22 = .ok (.dup_x1, 1) := by decide +kernel
theorem d_A_clear_23 : decode c_A_clear 23 = .ok (.putfield 48, 3) := by decide +kernel
theorem d_A_clear_26 : decode c_A_clear 26 = .ok (.istore_n 3, 1) := by decide +kernel
theorem d_A_clear_27 : decode c_A_clear 27 = .ok (.iload_n 3, 1) := by decide +kernel
theorem d_A_clear_28 : decode c_A_clear 28 = .ok (.iload_n 2, 1) := by decide +kernel
theorem d_A_clear_29 : decode c_A_clear 29 = .ok (.if_icmp .ge 13, 3) := by decide +kernel
theorem d_A_clear_32 : decode c_A_clear 32 = .ok (.aload_n 1, 1) := by decide +kernel
theorem d_A_clear_33 : decode c_A_clear 33 = .ok (.iload_n 3, 1) := by decide +kernel
theorem d_A_clear_34 : decode c_A_clear 34 = .ok (.aconst_null, 1) := by decide +kernel
theorem d_A_clear_35 : decode c_A_clear 35 = .ok (.aastore, 1) := by decide +kernel
theorem d_A_clear_36 : decode c_A_clear 36 = .ok (.iinc 3 1, 3) := by decide +kernel
theorem d_A_clear_39 : decode c_A_clear 39 = .ok (.goto (-12), 3) := by decide +kernel
theorem d_A_clear_42 : decode c_A_clear 42 = .ok (.return_, 1) := by decide +kernel
def m_A_clear : XM := ("java/util/ArrayList", c_A_clear, 4, none, "clear", [], 0, 0)
def b_A_clear : XB := [(0, X_aload 0 1),
  (1, X_dup),
  (2, X_get 8 2),
  (5, X_push (xv_i 1) 1),
  (6, X_bin (fun x y => x + y)),
  (7, X_put x_tI 8 2),
  (10, X_aload 0 1),
  (11, X_get 8 0),
  (14, X_astore 1 1),
  (15, X_aload 0 1),
  (16, X_get 8 1),
  (19, X_istore 2 1),
  (20, X_aload 0 1),
  (21, X_push (xv_i 0) 1),
  (22, X_dup_x1),
  (23, X_put x_tI 8 1),
  (26, X_istore 3 1),
  (27, X_iload 3 1),
  (28, X_iload 2 1),
  (29, X_icmp (fun x y => y ≤ x) 42),
  (32, X_aload 1 1),
  (33, X_iload 3 1),
  (34, X_push xv_n 1),
  (35, X_aastD),
  (36, X_iinc 3 1),
  (39, X_goto 27),
  (42, X_vret)]
set_option maxRecDepth 100000 in
theorem k_A_clear : x_bok m_A_clear b_A_clear := by
  unfold b_A_clear
  refine x_bok.cons (xs_aload_n d_A_clear_0 rfl) ?_
  refine x_bok.cons (xs_dup d_A_clear_1) ?_
  refine x_bok.cons (xs_get d_A_clear_2 xc8 xw8 (by decide) q1_69 (Or.inr q1_70)) ?_
  refine x_bok.cons (xs_iconst d_A_clear_5 (by decide)) ?_
  refine x_bok.cons (xs_iadd d_A_clear_6) ?_
  refine x_bok.cons (xs_put d_A_clear_7 xc8 xw8 xt8 xn8 (by decide) q1_69 (Or.inr q1_70) rfl rfl x_fitI) ?_
  refine x_bok.cons (xs_aload_n d_A_clear_10 rfl) ?_
  refine x_bok.cons (xs_get d_A_clear_11 xc8 xw8 (by decide) q1_66 (Or.inl rfl)) ?_
  refine x_bok.cons (xs_astore_n d_A_clear_14 rfl (by decide)) ?_
  refine x_bok.cons (xs_aload_n d_A_clear_15 rfl) ?_
  refine x_bok.cons (xs_get d_A_clear_16 xc8 xw8 (by decide) q1_67 (Or.inl rfl)) ?_
  refine x_bok.cons (xs_istore_n d_A_clear_19 rfl (by decide)) ?_
  refine x_bok.cons (xs_aload_n d_A_clear_20 rfl) ?_
  refine x_bok.cons (xs_iconst d_A_clear_21 (by decide)) ?_
  refine x_bok.cons (xs_dup_x1 d_A_clear_22) ?_
  refine x_bok.cons (xs_put d_A_clear_23 xc8 xw8 xt8 xn8 (by decide) q1_67 (Or.inl rfl) rfl rfl x_fitI) ?_
  refine x_bok.cons (xs_istore_n d_A_clear_26 rfl (by decide)) ?_
  refine x_bok.cons (xs_iload_n d_A_clear_27 rfl) ?_
  refine x_bok.cons (xs_iload_n d_A_clear_28 rfl) ?_
  refine x_bok.cons (xs_icmp_ge d_A_clear_29 (by decide)) ?_
  refine x_bok.cons (xs_aload_n d_A_clear_32 rfl) ?_
  refine x_bok.cons (xs_iload_n d_A_clear_33 rfl) ?_
  refine x_bok.cons (xs_null d_A_clear_34) ?_
  refine x_bok.cons (xs_aastD d_A_clear_35) ?_
  refine x_bok.cons (xs_iinc d_A_clear_36 (by decide) (by decide)) ?_
  refine x_bok.cons (xs_goto d_A_clear_39 (by decide)) ?_
  refine x_bok.cons (xs_vret d_A_clear_42 rfl) ?_
  exact x_bok.nil
set_option maxRecDepth 100000 in
theorem mn_A_clear : x_bmn b_A_clear := by
  unfold b_A_clear
  refine x_bmn.cons (xm_aload) ?_
  refine x_bmn.cons (xm_dup) ?_
  refine x_bmn.cons (xm_get) ?_
  refine x_bmn.cons (xm_push) ?_
  refine x_bmn.cons (xm_bin) ?_
  refine x_bmn.cons (xm_put) ?_
  refine x_bmn.cons (xm_aload) ?_
  refine x_bmn.cons (xm_get) ?_
  refine x_bmn.cons (xm_astore) ?_
  refine x_bmn.cons (xm_aload) ?_
  refine x_bmn.cons (xm_get) ?_
  refine x_bmn.cons (xm_istore) ?_
  refine x_bmn.cons (xm_aload) ?_
  refine x_bmn.cons (xm_push) ?_
  refine x_bmn.cons (xm_dup_x1) ?_
  refine x_bmn.cons (xm_put) ?_
  refine x_bmn.cons (xm_istore) ?_
  refine x_bmn.cons (xm_iload) ?_
  refine x_bmn.cons (xm_iload) ?_
  refine x_bmn.cons (xm_icmp) ?_
  refine x_bmn.cons (xm_aload) ?_
  refine x_bmn.cons (xm_iload) ?_
  refine x_bmn.cons (xm_push) ?_
  refine x_bmn.cons (xm_aastD) ?_
  refine x_bmn.cons (xm_iinc) ?_
  refine x_bmn.cons (xm_goto) ?_
  refine x_bmn.cons (xm_vret) ?_
  exact x_bmn.nil
theorem is_A_clear : x_Is y_A_clear m_A_clear := x_is_code q4_165
def Y_A_clear : XMeth := x_do 4 b_A_clear
theorem sn_A_clear : x_Snd y_A_clear m_A_clear Y_A_clear := x_snd_of (by decide) rfl rfl is_A_clear k_A_clear
theorem ym_A_clear : x_Ymn Y_A_clear := x_ymn_of mn_A_clear
/- CashLink$Machine.recall()V -/
abbrev c_M_recall : ByteArray := prog_6_method_17_code
def y_M_recall : MethodName := ⟨"CashLink$Machine", "recall", "()V"⟩
theorem d_M_recall_0 : decode c_M_recall 0 = .ok (.aload_n 0, 1) := by decide +kernel
theorem d_M_recall_1 : decode c_M_recall 1 = .ok (.iconst 0, 1) := by decide +kernel
theorem d_M_recall_2 : decode c_M_recall 2 = .ok (.putfield 96, 3) := by decide +kernel
theorem d_M_recall_5 : decode c_M_recall 5 = .ok (.aload_n 0, 1) := by decide +kernel
theorem d_M_recall_6 : decode c_M_recall 6 = .ok (.getfield 37, 3) := by decide +kernel
theorem d_M_recall_9 : decode c_M_recall 9 = .ok (.invokevirtual 213, 3) := by decide +kernel
theorem d_M_recall_12 : decode c_M_recall 12 = .ok (.iconst 0, 1) := by decide +kernel
theorem d_M_recall_13 : decode c_M_recall 13 = .ok (.istore_n 1, 1) := by decide +kernel
theorem d_M_recall_14 : decode c_M_recall 14 = .ok (.iload_n 1, 1) := by decide +kernel
theorem d_M_recall_15 : decode c_M_recall 15 = .ok (.aload_n 0, 1) := by decide +kernel
theorem d_M_recall_16 : decode c_M_recall 16 = .ok (.getfield 14, 3) := by decide +kernel
theorem d_M_recall_19 : decode c_M_recall 19 = .ok (.invokevirtual 142, 3) := by decide +kernel
theorem d_M_recall_22 : decode c_M_recall 22 = .ok (.if_icmp .ge 81, 3) := by decide +kernel
theorem d_M_recall_25 : decode c_M_recall 25 = .ok (.aload_n 0, 1) := by decide +kernel
theorem d_M_recall_26 : decode c_M_recall 26 = .ok (.getfield 14, 3) := by decide +kernel
theorem d_M_recall_29 : decode c_M_recall 29 = .ok (.iload_n 1, 1) := by decide +kernel
theorem d_M_recall_30 : decode c_M_recall 30 = .ok (.invokevirtual 143, 3) := by decide +kernel
theorem d_M_recall_33 : decode c_M_recall 33 = .ok (.astore_n 2, 1) := by decide +kernel
theorem d_M_recall_34 : decode c_M_recall 34 = .ok (.aload_n 2, 1) := by decide +kernel
theorem d_M_recall_35 : decode c_M_recall 35 = .ok (.invokevirtual 147, 3) := by decide +kernel
theorem d_M_recall_38 : decode c_M_recall 38 = .ok (.iconst 1, 1) := by decide +kernel
theorem d_M_recall_39 : decode c_M_recall 39 = .ok (.if_icmp .ne 22, 3) := by decide +kernel
theorem d_M_recall_42 : decode c_M_recall 42 = .ok (.aload_n 0, 1) := by decide +kernel
theorem d_M_recall_43 : decode c_M_recall 43 = .ok (.aload_n 2, 1) := by decide +kernel
theorem d_M_recall_44 : decode c_M_recall 44 = .ok (.invokevirtual 134, 3) := by decide +kernel
theorem d_M_recall_47 : decode c_M_recall 47 = .ok (.putfield 96, 3) := by decide +kernel
theorem d_M_recall_50 : decode c_M_recall 50 = .ok (.aload_n 0, 1) := by decide +kernel
theorem d_M_recall_51 : decode c_M_recall 51 = .ok (.aload_n 2, 1) := by decide +kernel
theorem d_M_recall_52 : decode c_M_recall 52 = .ok (.invokevirtual 136, 3) := by decide +kernel
theorem d_M_recall_55 : decode c_M_recall 55 = .ok (.putfield 106, 3) := by decide +kernel
theorem d_M_recall_58 : decode c_M_recall 58 = .ok (.goto 39, 3) := by decide +kernel
theorem d_M_recall_61 : decode c_M_recall 61 = .ok (.aload_n 2, 1) := by decide +kernel
theorem d_M_recall_62 : decode c_M_recall 62 = .ok (.invokevirtual 147, 3) := by decide +kernel
theorem d_M_recall_65 : decode c_M_recall 65 = .ok (.iconst 4, 1) := by decide +kernel
theorem d_M_recall_66 : decode c_M_recall 66 = .ok (.if_icmp .ne 15, 3) := by decide +kernel
theorem d_M_recall_69 : decode c_M_recall 69 = .ok (.aload_n 0, 1) := by decide +kernel
theorem d_M_recall_70 : decode c_M_recall 70 = .ok (.getfield 37, 3) := by decide +kernel
theorem d_M_recall_73 : decode c_M_recall 73 = .ok (.aload_n 2, 1) := by decide +kernel
theorem d_M_recall_74 : decode c_M_recall 74 = .ok (.invokevirtual 191, 3) := by decide +kernel
theorem d_M_recall_77 : decode c_M_recall 77 = .ok (.pop, 1) := by decide +kernel
theorem d_M_recall_78 : decode c_M_recall 78 = .ok (.goto 19, 3) := by decide +kernel
theorem d_M_recall_81 : decode c_M_recall 81 = .ok (.aload_n 2, 1) := by decide +kernel
theorem d_M_recall_82 : decode c_M_recall 82 = .ok (.invokevirtual 147, 3) := by decide +kernel
theorem d_M_recall_85 : decode c_M_recall 85 = .ok (.iconst 5, 1) := by decide +kernel
theorem d_M_recall_86 : decode c_M_recall 86 = .ok (.if_icmp .ne 11, 3) := by decide +kernel
theorem d_M_recall_89 : decode c_M_recall 89 = .ok (.aload_n 0, 1) := by decide +kernel
theorem d_M_recall_90 : decode c_M_recall 90 = .ok (.aload_n 2, 1) := by decide +kernel
theorem d_M_recall_91 : decode c_M_recall 91 = .ok (.invokevirtual 134, 3) := by decide +kernel
theorem d_M_recall_94 : decode c_M_recall 94 = .ok (.invokevirtual 198, 3) := by decide +kernel
theorem d_M_recall_97 : decode c_M_recall 97 = .ok (.iinc 1 1, 3) := by decide +kernel
theorem d_M_recall_100 : decode c_M_recall 100 = .ok (.goto (-86), 3) := by decide +kernel
theorem d_M_recall_103 : decode c_M_recall 103 = .ok (.return_, 1) := by decide +kernel
def m_M_recall : XM := ("CashLink$Machine", c_M_recall, 3, none, "recall", [], 7, 157)
def b_M_recall : XB := [(0, X_aload 0 1),
  (1, X_push (xv_i 0) 1),
  (2, X_put x_tI 3 8),
  (5, X_aload 0 1),
  (6, X_get 3 10),
  (9, X_invV 8 Y_A_clear 0 []),
  (12, X_push (xv_i 0) 1),
  (13, X_istore 1 1),
  (14, X_iload 1 1),
  (15, X_aload 0 1),
  (16, X_get 3 3),
  (19, X_invV 4 Y_J_size 0 []),
  (22, X_icmp (fun x y => y ≤ x) 103),
  (25, X_aload 0 1),
  (26, X_get 3 3),
  (29, X_iload 1 1),
  (30, X_invV 4 Y_J_entry 1 []),
  (33, X_astore 2 1),
  (34, X_aload 2 1),
  (35, X_invV 6 Y_E_kind 0 []),
  (38, X_push (xv_i 1) 1),
  (39, X_icmp (fun x y => ¬ x = y) 61),
  (42, X_aload 0 1),
  (43, X_aload 2 1),
  (44, X_invV 6 Y_E_trace 0 []),
  (47, X_put x_tI 3 8),
  (50, X_aload 0 1),
  (51, X_aload 2 1),
  (52, X_invV 6 Y_E_value 0 []),
  (55, X_put x_tI 3 9),
  (58, X_goto 97),
  (61, X_aload 2 1),
  (62, X_invV 6 Y_E_kind 0 []),
  (65, X_push (xv_i 4) 1),
  (66, X_icmp (fun x y => ¬ x = y) 81),
  (69, X_aload 0 1),
  (70, X_get 3 10),
  (73, X_aload 2 1),
  (74, X_invV 8 Y_A_add 1 []),
  (77, X_pop),
  (78, X_goto 97),
  (81, X_aload 2 1),
  (82, X_invV 6 Y_E_kind 0 []),
  (85, X_push (xv_i 5) 1),
  (86, X_icmp (fun x y => ¬ x = y) 97),
  (89, X_aload 0 1),
  (90, X_aload 2 1),
  (91, X_invV 6 Y_E_trace 0 []),
  (94, X_invV 3 Y_M_forgetVoid 1 []),
  (97, X_iinc 1 1),
  (100, X_goto 14),
  (103, X_vret)]
set_option maxRecDepth 100000 in
theorem k_M_recall : x_bok m_M_recall b_M_recall := by
  unfold b_M_recall
  refine x_bok.cons (xs_aload_n d_M_recall_0 rfl) ?_
  refine x_bok.cons (xs_iconst d_M_recall_1 (by decide)) ?_
  refine x_bok.cons (xs_put d_M_recall_2 xc3 xw3 xt3 xn3 (by decide) q1_175 (Or.inl rfl) rfl rfl x_fitI) ?_
  refine x_bok.cons (xs_aload_n d_M_recall_5 rfl) ?_
  refine x_bok.cons (xs_get d_M_recall_6 xc3 xw3 (by decide) q1_177 (Or.inl rfl)) ?_
  refine x_bok.cons (xs_invV d_M_recall_9 xc8 sn_A_clear is_A_clear ⟨q4_162, q4_163, q4_164, q1_5⟩ (by decide) (by decide) rfl) ?_
  refine x_bok.cons (xs_iconst d_M_recall_12 (by decide)) ?_
  refine x_bok.cons (xs_istore_n d_M_recall_13 rfl (by decide)) ?_
  refine x_bok.cons (xs_iload_n d_M_recall_14 rfl) ?_
  refine x_bok.cons (xs_aload_n d_M_recall_15 rfl) ?_
  refine x_bok.cons (xs_get d_M_recall_16 xc3 xw3 (by decide) q1_168 (Or.inl rfl)) ?_
  refine x_bok.cons (xs_invV d_M_recall_19 xc4 sn_J_size is_J_size ⟨q3_130, q3_131, q3_132, q1_7⟩ (by decide) (by decide) rfl) ?_
  refine x_bok.cons (xs_icmp_ge d_M_recall_22 (by decide)) ?_
  refine x_bok.cons (xs_aload_n d_M_recall_25 rfl) ?_
  refine x_bok.cons (xs_get d_M_recall_26 xc3 xw3 (by decide) q1_168 (Or.inl rfl)) ?_
  refine x_bok.cons (xs_iload_n d_M_recall_29 rfl) ?_
  refine x_bok.cons (xs_invV d_M_recall_30 xc4 sn_J_entry is_J_entry ⟨q3_134, q3_135, q3_136, q1_7⟩ (by decide) (by decide) rfl) ?_
  refine x_bok.cons (xs_astore_n d_M_recall_33 rfl (by decide)) ?_
  refine x_bok.cons (xs_aload_n d_M_recall_34 rfl) ?_
  refine x_bok.cons (xs_invV d_M_recall_35 xc6 sn_E_kind is_E_kind ⟨q3_140, q3_141, q3_142, q1_21⟩ (by decide) (by decide) rfl) ?_
  refine x_bok.cons (xs_iconst d_M_recall_38 (by decide)) ?_
  refine x_bok.cons (xs_icmp_ne d_M_recall_39 (by decide)) ?_
  refine x_bok.cons (xs_aload_n d_M_recall_42 rfl) ?_
  refine x_bok.cons (xs_aload_n d_M_recall_43 rfl) ?_
  refine x_bok.cons (xs_invV d_M_recall_44 xc6 sn_E_trace is_E_trace ⟨q3_103, q3_104, q3_105, q1_21⟩ (by decide) (by decide) rfl) ?_
  refine x_bok.cons (xs_put d_M_recall_47 xc3 xw3 xt3 xn3 (by decide) q1_175 (Or.inl rfl) rfl rfl x_fitI) ?_
  refine x_bok.cons (xs_aload_n d_M_recall_50 rfl) ?_
  refine x_bok.cons (xs_aload_n d_M_recall_51 rfl) ?_
  refine x_bok.cons (xs_invV d_M_recall_52 xc6 sn_E_value is_E_value ⟨q3_107, q3_108, q3_109, q1_21⟩ (by decide) (by decide) rfl) ?_
  refine x_bok.cons (xs_put d_M_recall_55 xc3 xw3 xt3 xn3 (by decide) q1_176 (Or.inl rfl) rfl rfl x_fitI) ?_
  refine x_bok.cons (xs_goto d_M_recall_58 (by decide)) ?_
  refine x_bok.cons (xs_aload_n d_M_recall_61 rfl) ?_
  refine x_bok.cons (xs_invV d_M_recall_62 xc6 sn_E_kind is_E_kind ⟨q3_140, q3_141, q3_142, q1_21⟩ (by decide) (by decide) rfl) ?_
  refine x_bok.cons (xs_iconst d_M_recall_65 (by decide)) ?_
  refine x_bok.cons (xs_icmp_ne d_M_recall_66 (by decide)) ?_
  refine x_bok.cons (xs_aload_n d_M_recall_69 rfl) ?_
  refine x_bok.cons (xs_get d_M_recall_70 xc3 xw3 (by decide) q1_177 (Or.inl rfl)) ?_
  refine x_bok.cons (xs_aload_n d_M_recall_73 rfl) ?_
  refine x_bok.cons (xs_invV d_M_recall_74 xc8 sn_A_add is_A_add ⟨q3_75, q2_183, q2_184, q1_5⟩ (by decide) (by decide) rfl) ?_
  refine x_bok.cons (xs_pop d_M_recall_77) ?_
  refine x_bok.cons (xs_goto d_M_recall_78 (by decide)) ?_
  refine x_bok.cons (xs_aload_n d_M_recall_81 rfl) ?_
  refine x_bok.cons (xs_invV d_M_recall_82 xc6 sn_E_kind is_E_kind ⟨q3_140, q3_141, q3_142, q1_21⟩ (by decide) (by decide) rfl) ?_
  refine x_bok.cons (xs_iconst d_M_recall_85 (by decide)) ?_
  refine x_bok.cons (xs_icmp_ne d_M_recall_86 (by decide)) ?_
  refine x_bok.cons (xs_aload_n d_M_recall_89 rfl) ?_
  refine x_bok.cons (xs_aload_n d_M_recall_90 rfl) ?_
  refine x_bok.cons (xs_invV d_M_recall_91 xc6 sn_E_trace is_E_trace ⟨q3_103, q3_104, q3_105, q1_21⟩ (by decide) (by decide) rfl) ?_
  refine x_bok.cons (xs_invV d_M_recall_94 xc3 sn_M_forgetVoid is_M_forgetVoid ⟨q4_62, q4_64, (x_sel (x_p2 (List.mem_of_getElem? (i := 1) rfl))), q1_8⟩ (by decide) (by decide) rfl) ?_
  refine x_bok.cons (xs_iinc d_M_recall_97 (by decide) (by decide)) ?_
  refine x_bok.cons (xs_goto d_M_recall_100 (by decide)) ?_
  refine x_bok.cons (xs_vret d_M_recall_103 rfl) ?_
  exact x_bok.nil
set_option maxRecDepth 100000 in
theorem mn_M_recall : x_bmn b_M_recall := by
  unfold b_M_recall
  refine x_bmn.cons (xm_aload) ?_
  refine x_bmn.cons (xm_push) ?_
  refine x_bmn.cons (xm_put) ?_
  refine x_bmn.cons (xm_aload) ?_
  refine x_bmn.cons (xm_get) ?_
  refine x_bmn.cons (xm_invV ym_A_clear) ?_
  refine x_bmn.cons (xm_push) ?_
  refine x_bmn.cons (xm_istore) ?_
  refine x_bmn.cons (xm_iload) ?_
  refine x_bmn.cons (xm_aload) ?_
  refine x_bmn.cons (xm_get) ?_
  refine x_bmn.cons (xm_invV ym_J_size) ?_
  refine x_bmn.cons (xm_icmp) ?_
  refine x_bmn.cons (xm_aload) ?_
  refine x_bmn.cons (xm_get) ?_
  refine x_bmn.cons (xm_iload) ?_
  refine x_bmn.cons (xm_invV ym_J_entry) ?_
  refine x_bmn.cons (xm_astore) ?_
  refine x_bmn.cons (xm_aload) ?_
  refine x_bmn.cons (xm_invV ym_E_kind) ?_
  refine x_bmn.cons (xm_push) ?_
  refine x_bmn.cons (xm_icmp) ?_
  refine x_bmn.cons (xm_aload) ?_
  refine x_bmn.cons (xm_aload) ?_
  refine x_bmn.cons (xm_invV ym_E_trace) ?_
  refine x_bmn.cons (xm_put) ?_
  refine x_bmn.cons (xm_aload) ?_
  refine x_bmn.cons (xm_aload) ?_
  refine x_bmn.cons (xm_invV ym_E_value) ?_
  refine x_bmn.cons (xm_put) ?_
  refine x_bmn.cons (xm_goto) ?_
  refine x_bmn.cons (xm_aload) ?_
  refine x_bmn.cons (xm_invV ym_E_kind) ?_
  refine x_bmn.cons (xm_push) ?_
  refine x_bmn.cons (xm_icmp) ?_
  refine x_bmn.cons (xm_aload) ?_
  refine x_bmn.cons (xm_get) ?_
  refine x_bmn.cons (xm_aload) ?_
  refine x_bmn.cons (xm_invV ym_A_add) ?_
  refine x_bmn.cons (xm_pop) ?_
  refine x_bmn.cons (xm_goto) ?_
  refine x_bmn.cons (xm_aload) ?_
  refine x_bmn.cons (xm_invV ym_E_kind) ?_
  refine x_bmn.cons (xm_push) ?_
  refine x_bmn.cons (xm_icmp) ?_
  refine x_bmn.cons (xm_aload) ?_
  refine x_bmn.cons (xm_aload) ?_
  refine x_bmn.cons (xm_invV ym_E_trace) ?_
  refine x_bmn.cons (xm_invV ym_M_forgetVoid) ?_
  refine x_bmn.cons (xm_iinc) ?_
  refine x_bmn.cons (xm_goto) ?_
  refine x_bmn.cons (xm_vret) ?_
  exact x_bmn.nil
theorem is_M_recall : x_Is y_M_recall m_M_recall := x_is_code q4_161
def Y_M_recall : XMeth := x_do 3 b_M_recall
theorem sn_M_recall : x_Snd y_M_recall m_M_recall Y_M_recall := x_snd_of (by decide) rfl rfl is_M_recall k_M_recall
theorem ym_M_recall : x_Ymn Y_M_recall := x_ymn_of mn_M_recall
/- CashLink$Machine.has(I)Z -/
abbrev c_M_has : ByteArray := prog_6_method_19_code
def y_M_has : MethodName := ⟨"CashLink$Machine", "has", "(I)Z"⟩
theorem d_M_has_0 : decode c_M_has 0 = .ok (.aload_n 0, 1) := by decide +kernel
theorem d_M_has_1 : decode c_M_has 1 = .ok (.getfield 14, 3) := by decide +kernel
theorem d_M_has_4 : decode c_M_has 4 = .ok (.iload_n 1, 1) := by decide +kernel
theorem d_M_has_5 : decode c_M_has 5 = .ok (.aload_n 0, 1) := by decide +kernel
theorem d_M_has_6 : decode c_M_has 6 = .ok (.getfield 41, 3) := by decide +kernel
theorem d_M_has_9 : decode c_M_has 9 = .ok (.aload_n 0, 1) := by decide +kernel
theorem d_M_has_10 : decode c_M_has 10 = .ok (.getfield 96, 3) := by decide +kernel
theorem d_M_has_13 : decode c_M_has 13 = .ok (.invokevirtual 219, 3) := by decide +kernel
theorem d_M_has_16 : decode c_M_has 16 = .ok (.ifnull 7, 3) := by decide +kernel
theorem d_M_has_19 : decode c_M_has 19 = .ok (.iconst 1, 1) := by decide +kernel
theorem d_M_has_20 : decode c_M_has 20 = .ok (.goto 4, 3) := by decide +kernel
theorem d_M_has_23 : decode c_M_has 23 = .ok (.iconst 0, 1) := by decide +kernel
theorem d_M_has_24 : decode c_M_has 24 = .ok (.ireturn, 1) := by decide +kernel
def m_M_has : XM := ("CashLink$Machine", c_M_has, 2, (some .boolean), "has", [], 4, 89)
def b_M_has : XB := [(0, X_aload 0 1),
  (1, X_get 3 3),
  (4, X_iload 1 1),
  (5, X_aload 0 1),
  (6, X_get 3 0),
  (9, X_aload 0 1),
  (10, X_get 3 8),
  (13, X_invV 4 Y_J_find 3 []),
  (16, X_ifnull 23),
  (19, X_push (xv_i 1) 1),
  (20, X_goto 24),
  (23, X_push (xv_i 0) 1),
  (24, X_zret)]
set_option maxRecDepth 100000 in
theorem k_M_has : x_bok m_M_has b_M_has := by
  unfold b_M_has
  refine x_bok.cons (xs_aload_n d_M_has_0 rfl) ?_
  refine x_bok.cons (xs_get d_M_has_1 xc3 xw3 (by decide) q1_168 (Or.inl rfl)) ?_
  refine x_bok.cons (xs_iload_n d_M_has_4 rfl) ?_
  refine x_bok.cons (xs_aload_n d_M_has_5 rfl) ?_
  refine x_bok.cons (xs_get d_M_has_6 xc3 xw3 (by decide) q1_165 (Or.inl rfl)) ?_
  refine x_bok.cons (xs_aload_n d_M_has_9 rfl) ?_
  refine x_bok.cons (xs_get d_M_has_10 xc3 xw3 (by decide) q1_175 (Or.inl rfl)) ?_
  refine x_bok.cons (xs_invV d_M_has_13 xc4 sn_J_find is_J_find ⟨q4_174, q3_211, q3_212, q1_7⟩ (by decide) (by decide) rfl) ?_
  refine x_bok.cons (xs_ifnull d_M_has_16 (by decide)) ?_
  refine x_bok.cons (xs_iconst d_M_has_19 (by decide)) ?_
  refine x_bok.cons (xs_goto d_M_has_20 (by decide)) ?_
  refine x_bok.cons (xs_iconst d_M_has_23 (by decide)) ?_
  refine x_bok.cons (xs_zret d_M_has_24 rfl) ?_
  exact x_bok.nil
set_option maxRecDepth 100000 in
theorem mn_M_has : x_bmn b_M_has := by
  unfold b_M_has
  refine x_bmn.cons (xm_aload) ?_
  refine x_bmn.cons (xm_get) ?_
  refine x_bmn.cons (xm_iload) ?_
  refine x_bmn.cons (xm_aload) ?_
  refine x_bmn.cons (xm_get) ?_
  refine x_bmn.cons (xm_aload) ?_
  refine x_bmn.cons (xm_get) ?_
  refine x_bmn.cons (xm_invV ym_J_find) ?_
  refine x_bmn.cons (xm_ifnull) ?_
  refine x_bmn.cons (xm_push) ?_
  refine x_bmn.cons (xm_goto) ?_
  refine x_bmn.cons (xm_push) ?_
  refine x_bmn.cons (xm_zret) ?_
  exact x_bmn.nil
theorem is_M_has : x_Is y_M_has m_M_has := x_is_code q4_173
def Y_M_has : XMeth := x_do 2 b_M_has
theorem sn_M_has : x_Snd y_M_has m_M_has Y_M_has := x_snd_of (by decide) rfl rfl is_M_has k_M_has
theorem ym_M_has : x_Ymn Y_M_has := x_ymn_of mn_M_has
/- CashLink$Machine.finishLast()V -/
abbrev c_M_finishLast : ByteArray := prog_6_method_18_code
def y_M_finishLast : MethodName := ⟨"CashLink$Machine", "finishLast", "()V"⟩
theorem d_M_finishLast_0 : decode c_M_finishLast 0 = .ok (.aload_n 0, 1) := by decide +kernel
theorem d_M_finishLast_1 : decode c_M_finishLast 1 = .ok (.getfield 96, 3) := by decide +kernel
theorem d_M_finishLast_4 : decode c_M_finishLast 4 = .ok (.ifCond .eq 19, 3) := by decide +kernel
theorem d_M_finishLast_7 : decode c_M_finishLast 7 = .ok (.aload_n 0, 1) := by decide +kernel
theorem d_M_finishLast_8 : decode c_M_finishLast 8 = .ok (.iconst 4, 1) := by decide +kernel
theorem d_M_finishLast_9 : decode c_M_finishLast 9 = .ok (.invokevirtual 216, 3) := by decide +kernel
theorem d_M_finishLast_12 : decode c_M_finishLast 12 = .ok (.ifCond .ne 11, 3) := by decide +kernel
theorem d_M_finishLast_15 : decode c_M_finishLast 15 = .ok (.aload_n 0, 1) := by decide +kernel
theorem d_M_finishLast_16 : decode c_M_finishLast 16 = .ok (.iconst 5, 1) := by decide +kernel
theorem d_M_finishLast_17 : decode c_M_finishLast 17 = .ok (.invokevirtual 216, 3) := by decide +kernel
theorem d_M_finishLast_20 : decode c_M_finishLast 20 = .ok (.ifCond .eq 4, 3) := by decide +kernel
theorem d_M_finishLast_23 : decode c_M_finishLast 23 = .ok (.return_, 1) := by decide +kernel
theorem d_M_finishLast_24 : decode c_M_finishLast 24 = .ok (.aload_n 0, 1) := by decide +kernel
theorem d_M_finishLast_25 : decode c_M_finishLast 25 = .ok (.getfield 14, 3) := by decide +kernel
theorem d_M_finishLast_28 : decode c_M_finishLast 28 = .ok (.iconst 3, 1) := by decide +kernel
theorem d_M_finishLast_29 : decode c_M_finishLast 29 = .ok (.aload_n 0, 1) := by decide +kernel
theorem d_M_finishLast_30 : decode c_M_finishLast 30 = .ok (.getfield 41, 3) := by decide +kernel
theorem d_M_finishLast_33 : decode c_M_finishLast 33 = .ok (.aload_n 0, 1) := by decide +kernel
theorem d_M_finishLast_34 : decode c_M_finishLast 34 = .ok (.getfield 96, 3) := by decide +kernel
theorem d_M_finishLast_37 : decode c_M_finishLast 37 = .ok (.invokevirtual 219, 3) := by decide +kernel
theorem d_M_finishLast_40 : decode c_M_finishLast 40 = .ok (.astore_n 1, 1) := by decide +kernel
theorem d_M_finishLast_41 : decode c_M_finishLast 41 = .ok (.aload_n 1, 1) := by decide +kernel
theorem d_M_finishLast_42 : decode c_M_finishLast 42 = .ok (.ifnull 14, 3) := by decide +kernel
theorem d_M_finishLast_45 : decode c_M_finishLast 45 = .ok (.aload_n 0, 1) := by decide +kernel
theorem d_M_finishLast_46 : decode c_M_finishLast 46 = .ok (.aload_n 1, 1) := by decide +kernel
theorem d_M_finishLast_47 : decode c_M_finishLast 47 = .ok (.invokevirtual 136, 3) := by decide +kernel
theorem d_M_finishLast_50 : decode c_M_finishLast 50 = .ok (.invokevirtual 124, 3) := by decide +kernel
theorem d_M_finishLast_53 : decode c_M_finishLast 53 = .ok (.goto 23, 3) := by decide +kernel
theorem d_M_finishLast_56 : decode c_M_finishLast 56 = .ok (.aload_n 0, 1) := by decide +kernel
theorem d_M_finishLast_57 : decode c_M_finishLast 57 = .ok (.iconst 2, 1) := by decide +kernel
theorem d_M_finishLast_58 : decode c_M_finishLast 58 = .ok (.invokevirtual 216, 3) := by decide +kernel
theorem d_M_finishLast_61 : decode c_M_finishLast 61 = .ok (.ifCond .eq 10, 3) := by decide +kernel
theorem d_M_finishLast_64 : decode c_M_finishLast 64 = .ok (.aload_n 0, 1) := by decide +kernel
theorem d_M_finishLast_65 : decode c_M_finishLast 65 = .ok (.invokevirtual 185, 3) := by decide +kernel
theorem d_M_finishLast_68 : decode c_M_finishLast 68 = .ok (.goto 8, 3) := by decide +kernel
theorem d_M_finishLast_71 : decode c_M_finishLast 71 = .ok (.aload_n 0, 1) := by decide +kernel
theorem d_M_finishLast_72 : decode c_M_finishLast 72 = .ok (.iconst 0, 1) := by decide +kernel
theorem d_M_finishLast_73 : decode c_M_finishLast 73 = .ok (.invokevirtual 124, 3) := by decide +kernel
theorem d_M_finishLast_76 : decode c_M_finishLast 76 = .ok (.return_, 1) := by decide +kernel
def m_M_finishLast : XM := ("CashLink$Machine", c_M_finishLast, 2, none, "finishLast", [], 10, 227)
def b_M_finishLast : XB := [(0, X_aload 0 1),
  (1, X_get 3 8),
  (4, X_if (fun x => x = 0) 23),
  (7, X_aload 0 1),
  (8, X_push (xv_i 4) 1),
  (9, X_invV 3 Y_M_has 1 []),
  (12, X_if (fun x => ¬ x = 0) 23),
  (15, X_aload 0 1),
  (16, X_push (xv_i 5) 1),
  (17, X_invV 3 Y_M_has 1 []),
  (20, X_if (fun x => x = 0) 24),
  (23, X_vret),
  (24, X_aload 0 1),
  (25, X_get 3 3),
  (28, X_push (xv_i 3) 1),
  (29, X_aload 0 1),
  (30, X_get 3 0),
  (33, X_aload 0 1),
  (34, X_get 3 8),
  (37, X_invV 4 Y_J_find 3 []),
  (40, X_astore 1 1),
  (41, X_aload 1 1),
  (42, X_ifnull 56),
  (45, X_aload 0 1),
  (46, X_aload 1 1),
  (47, X_invV 6 Y_E_value 0 []),
  (50, X_invV 3 Y_M_voidRest 1 []),
  (53, X_goto 76),
  (56, X_aload 0 1),
  (57, X_push (xv_i 2) 1),
  (58, X_invV 3 Y_M_has 1 []),
  (61, X_if (fun x => x = 0) 71),
  (64, X_aload 0 1),
  (65, X_invV 3 Y_M_endPayment 0 []),
  (68, X_goto 76),
  (71, X_aload 0 1),
  (72, X_push (xv_i 0) 1),
  (73, X_invV 3 Y_M_voidRest 1 []),
  (76, X_vret)]
set_option maxRecDepth 100000 in
theorem k_M_finishLast : x_bok m_M_finishLast b_M_finishLast := by
  unfold b_M_finishLast
  refine x_bok.cons (xs_aload_n d_M_finishLast_0 rfl) ?_
  refine x_bok.cons (xs_get d_M_finishLast_1 xc3 xw3 (by decide) q1_175 (Or.inl rfl)) ?_
  refine x_bok.cons (xs_if_eq d_M_finishLast_4 (by decide)) ?_
  refine x_bok.cons (xs_aload_n d_M_finishLast_7 rfl) ?_
  refine x_bok.cons (xs_iconst d_M_finishLast_8 (by decide)) ?_
  refine x_bok.cons (xs_invV d_M_finishLast_9 xc3 sn_M_has is_M_has ⟨q4_170, q4_172, (x_sel (x_p2 (List.mem_of_getElem? (i := 8) rfl))), q1_8⟩ (by decide) (by decide) rfl) ?_
  refine x_bok.cons (xs_if_ne d_M_finishLast_12 (by decide)) ?_
  refine x_bok.cons (xs_aload_n d_M_finishLast_15 rfl) ?_
  refine x_bok.cons (xs_iconst d_M_finishLast_16 (by decide)) ?_
  refine x_bok.cons (xs_invV d_M_finishLast_17 xc3 sn_M_has is_M_has ⟨q4_170, q4_172, (x_sel (x_p2 (List.mem_of_getElem? (i := 8) rfl))), q1_8⟩ (by decide) (by decide) rfl) ?_
  refine x_bok.cons (xs_if_eq d_M_finishLast_20 (by decide)) ?_
  refine x_bok.cons (xs_vret d_M_finishLast_23 rfl) ?_
  refine x_bok.cons (xs_aload_n d_M_finishLast_24 rfl) ?_
  refine x_bok.cons (xs_get d_M_finishLast_25 xc3 xw3 (by decide) q1_168 (Or.inl rfl)) ?_
  refine x_bok.cons (xs_iconst d_M_finishLast_28 (by decide)) ?_
  refine x_bok.cons (xs_aload_n d_M_finishLast_29 rfl) ?_
  refine x_bok.cons (xs_get d_M_finishLast_30 xc3 xw3 (by decide) q1_165 (Or.inl rfl)) ?_
  refine x_bok.cons (xs_aload_n d_M_finishLast_33 rfl) ?_
  refine x_bok.cons (xs_get d_M_finishLast_34 xc3 xw3 (by decide) q1_175 (Or.inl rfl)) ?_
  refine x_bok.cons (xs_invV d_M_finishLast_37 xc4 sn_J_find is_J_find ⟨q4_174, q3_211, q3_212, q1_7⟩ (by decide) (by decide) rfl) ?_
  refine x_bok.cons (xs_astore_n d_M_finishLast_40 rfl (by decide)) ?_
  refine x_bok.cons (xs_aload_n d_M_finishLast_41 rfl) ?_
  refine x_bok.cons (xs_ifnull d_M_finishLast_42 (by decide)) ?_
  refine x_bok.cons (xs_aload_n d_M_finishLast_45 rfl) ?_
  refine x_bok.cons (xs_aload_n d_M_finishLast_46 rfl) ?_
  refine x_bok.cons (xs_invV d_M_finishLast_47 xc6 sn_E_value is_E_value ⟨q3_107, q3_108, q3_109, q1_21⟩ (by decide) (by decide) rfl) ?_
  refine x_bok.cons (xs_invV d_M_finishLast_50 xc3 sn_M_voidRest is_M_voidRest ⟨q3_67, q3_69, (x_sel (x_p1 (List.mem_of_getElem? (i := 5) rfl))), q1_8⟩ (by decide) (by decide) rfl) ?_
  refine x_bok.cons (xs_goto d_M_finishLast_53 (by decide)) ?_
  refine x_bok.cons (xs_aload_n d_M_finishLast_56 rfl) ?_
  refine x_bok.cons (xs_iconst d_M_finishLast_57 (by decide)) ?_
  refine x_bok.cons (xs_invV d_M_finishLast_58 xc3 sn_M_has is_M_has ⟨q4_170, q4_172, (x_sel (x_p2 (List.mem_of_getElem? (i := 8) rfl))), q1_8⟩ (by decide) (by decide) rfl) ?_
  refine x_bok.cons (xs_if_eq d_M_finishLast_61 (by decide)) ?_
  refine x_bok.cons (xs_aload_n d_M_finishLast_64 rfl) ?_
  refine x_bok.cons (xs_invV d_M_finishLast_65 xc3 sn_M_endPayment is_M_endPayment ⟨q4_97, q4_99, (x_sel (x_p2 (List.mem_of_getElem? (i := 5) rfl))), q1_8⟩ (by decide) (by decide) rfl) ?_
  refine x_bok.cons (xs_goto d_M_finishLast_68 (by decide)) ?_
  refine x_bok.cons (xs_aload_n d_M_finishLast_71 rfl) ?_
  refine x_bok.cons (xs_iconst d_M_finishLast_72 (by decide)) ?_
  refine x_bok.cons (xs_invV d_M_finishLast_73 xc3 sn_M_voidRest is_M_voidRest ⟨q3_67, q3_69, (x_sel (x_p1 (List.mem_of_getElem? (i := 5) rfl))), q1_8⟩ (by decide) (by decide) rfl) ?_
  refine x_bok.cons (xs_vret d_M_finishLast_76 rfl) ?_
  exact x_bok.nil
set_option maxRecDepth 100000 in
theorem mn_M_finishLast : x_bmn b_M_finishLast := by
  unfold b_M_finishLast
  refine x_bmn.cons (xm_aload) ?_
  refine x_bmn.cons (xm_get) ?_
  refine x_bmn.cons (xm_if) ?_
  refine x_bmn.cons (xm_aload) ?_
  refine x_bmn.cons (xm_push) ?_
  refine x_bmn.cons (xm_invV ym_M_has) ?_
  refine x_bmn.cons (xm_if) ?_
  refine x_bmn.cons (xm_aload) ?_
  refine x_bmn.cons (xm_push) ?_
  refine x_bmn.cons (xm_invV ym_M_has) ?_
  refine x_bmn.cons (xm_if) ?_
  refine x_bmn.cons (xm_vret) ?_
  refine x_bmn.cons (xm_aload) ?_
  refine x_bmn.cons (xm_get) ?_
  refine x_bmn.cons (xm_push) ?_
  refine x_bmn.cons (xm_aload) ?_
  refine x_bmn.cons (xm_get) ?_
  refine x_bmn.cons (xm_aload) ?_
  refine x_bmn.cons (xm_get) ?_
  refine x_bmn.cons (xm_invV ym_J_find) ?_
  refine x_bmn.cons (xm_astore) ?_
  refine x_bmn.cons (xm_aload) ?_
  refine x_bmn.cons (xm_ifnull) ?_
  refine x_bmn.cons (xm_aload) ?_
  refine x_bmn.cons (xm_aload) ?_
  refine x_bmn.cons (xm_invV ym_E_value) ?_
  refine x_bmn.cons (xm_invV ym_M_voidRest) ?_
  refine x_bmn.cons (xm_goto) ?_
  refine x_bmn.cons (xm_aload) ?_
  refine x_bmn.cons (xm_push) ?_
  refine x_bmn.cons (xm_invV ym_M_has) ?_
  refine x_bmn.cons (xm_if) ?_
  refine x_bmn.cons (xm_aload) ?_
  refine x_bmn.cons (xm_invV ym_M_endPayment) ?_
  refine x_bmn.cons (xm_goto) ?_
  refine x_bmn.cons (xm_aload) ?_
  refine x_bmn.cons (xm_push) ?_
  refine x_bmn.cons (xm_invV ym_M_voidRest) ?_
  refine x_bmn.cons (xm_vret) ?_
  exact x_bmn.nil
theorem is_M_finishLast : x_Is y_M_finishLast m_M_finishLast := x_is_code q4_169
def Y_M_finishLast : XMeth := x_do 2 b_M_finishLast
theorem sn_M_finishLast : x_Snd y_M_finishLast m_M_finishLast Y_M_finishLast := x_snd_of (by decide) rfl rfl is_M_finishLast k_M_finishLast
theorem ym_M_finishLast : x_Ymn Y_M_finishLast := x_ymn_of mn_M_finishLast
