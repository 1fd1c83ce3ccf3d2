/- CashLink.mix(III)I -/
abbrev c_C_mix : ByteArray := prog_1_method_17_code
def y_C_mix : MethodName := ⟨"CashLink", "mix", "(III)I"⟩
theorem d_C_mix_0 : decode c_C_mix 0 = .ok (.aload_n 0, 1) := by decide +kernel
theorem d_C_mix_1 : decode c_C_mix 1 = .ok (.iload_n 1, 1) := by decide +kernel
theorem d_C_mix_2 : decode c_C_mix 2 = .ok (.invokevirtual 38, 3) := by decide +kernel
theorem d_C_mix_5 : decode c_C_mix 5 = .ok (.astore 4, 2) := by decide +kernel
theorem d_C_mix_7 : decode c_C_mix 7 = .ok (.iload_n 3, 1) := by decide +kernel
theorem d_C_mix_8 : decode c_C_mix 8 = .ok (.invokestatic 108, 3) := by decide +kernel
theorem d_C_mix_11 : decode c_C_mix 11 = .ok (.ifCond .eq 18, 3) := by decide +kernel
theorem d_C_mix_14 : decode c_C_mix 14 = .ok (.iload_n 2, 1) := by decide +kernel
theorem d_C_mix_15 : decode c_C_mix 15 = .ok (.ifCond .lt 14, 3) := by decide +kernel
theorem d_C_mix_18 : decode c_C_mix 18 = .ok (.iload_n 2, 1) := by decide +kernel
theorem d_C_mix_19 : decode c_C_mix 19 = .ok (.sipush 1000, 3) := by decide +kernel
theorem d_C_mix_22 : decode c_C_mix 22 = .ok (.if_icmp .gt 7, 3) := by decide +kernel
theorem d_C_mix_25 : decode c_C_mix 25 = .ok (.iconst 1, 1) := by decide +kernel
theorem d_C_mix_26 : decode c_C_mix 26 = .ok (.goto 4, 3) := by decide +kernel
theorem d_C_mix_29 : decode c_C_mix 29 = .ok (.iconst 0, 1) := by decide +kernel
theorem d_C_mix_30 : decode c_C_mix 30 = .ok (.invokestatic 46, 3) := by decide +kernel
theorem d_C_mix_33 : decode c_C_mix 33 = .ok (.aload 4, 2) := by decide +kernel
theorem d_C_mix_35 : decode c_C_mix 35 = .ok (.getfield 100, 3) := by decide +kernel
theorem d_C_mix_38 : decode c_C_mix 38 = .ok (.iload_n 2, 1) := by decide +kernel
theorem d_C_mix_39 : decode c_C_mix 39 = .ok (.invokevirtual 157, 3) := by decide +kernel
theorem d_C_mix_42 : decode c_C_mix 42 = .ok (.istore 5, 2) := by decide +kernel
theorem d_C_mix_44 : decode c_C_mix 44 = .ok (.iload 5, 2) := by decide +kernel
theorem d_C_mix_46 : decode c_C_mix 46 = .ok (.iconst (-1), 1) := by decide +kernel
theorem d_C_mix_47 : decode c_C_mix 47 = .ok (.if_icmp .ne 7, 3) := by decide +kernel
theorem d_C_mix_50 : decode c_C_mix 50 = .ok (.iconst (-1), 1) := by decide +kernel
theorem d_C_mix_51 : decode c_C_mix 51 = .ok (.goto 9, 3) := by decide +kernel
theorem d_C_mix_54 : decode c_C_mix 54 = .ok (.iload 5, 2) := by decide +kernel
theorem d_C_mix_56 : decode c_C_mix 56 = .ok (.iload_n 3, 1) := by decide +kernel
theorem d_C_mix_57 : decode c_C_mix 57 = .ok (.invokestatic 160, 3) := by decide +kernel
theorem d_C_mix_60 : decode c_C_mix 60 = .ok (.ireturn, 1) := by decide +kernel
def m_C_mix : XM := ("CashLink", c_C_mix, 6, (some .int), "mix", [], 8, 131)
def b_C_mix : XB := [(0, X_aload 0 1),
  (1, X_iload 1 1),
  (2, X_invV 0 Y_C_machineAt 1 []),
  (5, X_astore 4 2),
  (7, X_iload 3 1),
  (8, X_invS Y_C_isCassette 1 []),
  (11, X_if (fun x => x = 0) 29),
  (14, X_iload 2 1),
  (15, X_if (fun x => x < 0) 29),
  (18, X_iload 2 1),
  (19, X_push (xv_i 1000) 3),
  (22, X_icmp (fun x y => y < x) 29),
  (25, X_push (xv_i 1) 1),
  (26, X_goto 30),
  (29, X_push (xv_i 0) 1),
  (30, X_invS Y_C_allow 1 []),
  (33, X_aload 4 2),
  (35, X_get 3 4),
  (38, X_iload 2 1),
  (39, X_invV 5 Y_D_mixOf 1 []),
  (42, X_istore 5 2),
  (44, X_iload 5 2),
  (46, X_push (xv_i (-1)) 1),
  (47, X_icmp (fun x y => ¬ x = y) 54),
  (50, X_push (xv_i (-1)) 1),
  (51, X_goto 60),
  (54, X_iload 5 2),
  (56, X_iload 3 1),
  (57, X_invS Y_D_notesIn 2 []),
  (60, X_iret)]
set_option maxRecDepth 100000 in
theorem k_C_mix : x_bok m_C_mix b_C_mix := by
  unfold b_C_mix
  refine x_bok.cons (xs_aload_n d_C_mix_0 rfl) ?_
  refine x_bok.cons (xs_iload_n d_C_mix_1 rfl) ?_
  refine x_bok.cons (xs_invV d_C_mix_2 xc0 sn_C_machineAt is_C_machineAt ⟨q1_223, q1_225, (x_sel (x_p1 (List.mem_of_getElem? (i := 0) rfl))), q1_1⟩ (by decide) (by decide) rfl) ?_
  refine x_bok.cons (xs_astore d_C_mix_5 (by decide)) ?_
  refine x_bok.cons (xs_iload_n d_C_mix_7 rfl) ?_
  refine x_bok.cons (xs_invS d_C_mix_8 sn_C_isCassette is_C_isCassette ⟨q4_119, q4_120, q1_1⟩ (by decide) (by decide) rfl) ?_
  refine x_bok.cons (xs_if_eq d_C_mix_11 (by decide)) ?_
  refine x_bok.cons (xs_iload_n d_C_mix_14 rfl) ?_
  refine x_bok.cons (xs_if_lt d_C_mix_15 (by decide)) ?_
  refine x_bok.cons (xs_iload_n d_C_mix_18 rfl) ?_
  refine x_bok.cons (xs_sipush d_C_mix_19 (by decide)) ?_
  refine x_bok.cons (xs_icmp_gt d_C_mix_22 (by decide)) ?_
  refine x_bok.cons (xs_iconst d_C_mix_25 (by decide)) ?_
  refine x_bok.cons (xs_goto d_C_mix_26 (by decide)) ?_
  refine x_bok.cons (xs_iconst d_C_mix_29 (by decide)) ?_
  refine x_bok.cons (xs_invS d_C_mix_30 sn_C_allow is_C_allow ⟨q1_227, q1_228, q1_1⟩ (by decide) (by decide) rfl) ?_
  refine x_bok.cons (xs_aload d_C_mix_33) ?_
  refine x_bok.cons (xs_get d_C_mix_35 xc3 xw3 (by decide) q1_171 (Or.inl rfl)) ?_
  refine x_bok.cons (xs_iload_n d_C_mix_38 rfl) ?_
  refine x_bok.cons (xs_invV d_C_mix_39 xc5 sn_D_mixOf is_D_mixOf ⟨q5_174, q2_119, q2_120, q1_9⟩ (by decide) (by decide) rfl) ?_
  refine x_bok.cons (xs_istore d_C_mix_42 (by decide)) ?_
  refine x_bok.cons (xs_iload d_C_mix_44) ?_
  refine x_bok.cons (xs_iconst d_C_mix_46 (by decide)) ?_
  refine x_bok.cons (xs_icmp_ne d_C_mix_47 (by decide)) ?_
  refine x_bok.cons (xs_iconst d_C_mix_50 (by decide)) ?_
  refine x_bok.cons (xs_goto d_C_mix_51 (by decide)) ?_
  refine x_bok.cons (xs_iload d_C_mix_54) ?_
  refine x_bok.cons (xs_iload_n d_C_mix_56 rfl) ?_
  refine x_bok.cons (xs_invS d_C_mix_57 sn_D_notesIn is_D_notesIn ⟨q5_175, q4_93, q1_9⟩ (by decide) (by decide) rfl) ?_
  refine x_bok.cons (xs_iret d_C_mix_60 rfl) ?_
  exact x_bok.nil
set_option maxRecDepth 100000 in
theorem mn_C_mix : x_bmn b_C_mix := by
  unfold b_C_mix
  refine x_bmn.cons (xm_aload) ?_
  refine x_bmn.cons (xm_iload) ?_
  refine x_bmn.cons (xm_invV ym_C_machineAt) ?_
  refine x_bmn.cons (xm_astore) ?_
  refine x_bmn.cons (xm_iload) ?_
  refine x_bmn.cons (xm_invS ym_C_isCassette) ?_
  refine x_bmn.cons (xm_if) ?_
  refine x_bmn.cons (xm_iload) ?_
  refine x_bmn.cons (xm_if) ?_
  refine x_bmn.cons (xm_iload) ?_
  refine x_bmn.cons (xm_push) ?_
  refine x_bmn.cons (xm_icmp) ?_
  refine x_bmn.cons (xm_push) ?_
  refine x_bmn.cons (xm_goto) ?_
  refine x_bmn.cons (xm_push) ?_
  refine x_bmn.cons (xm_invS ym_C_allow) ?_
  refine x_bmn.cons (xm_aload) ?_
  refine x_bmn.cons (xm_get) ?_
  refine x_bmn.cons (xm_iload) ?_
  refine x_bmn.cons (xm_invV ym_D_mixOf) ?_
  refine x_bmn.cons (xm_istore) ?_
  refine x_bmn.cons (xm_iload) ?_
  refine x_bmn.cons (xm_push) ?_
  refine x_bmn.cons (xm_icmp) ?_
  refine x_bmn.cons (xm_push) ?_
  refine x_bmn.cons (xm_goto) ?_
  refine x_bmn.cons (xm_iload) ?_
  refine x_bmn.cons (xm_iload) ?_
  refine x_bmn.cons (xm_invS ym_D_notesIn) ?_
  refine x_bmn.cons (xm_iret) ?_
  exact x_bmn.nil
theorem is_C_mix : x_Is y_C_mix m_C_mix := x_is_code q5_173
def Y_C_mix : XMeth := x_do 6 b_C_mix
theorem sn_C_mix : x_Snd y_C_mix m_C_mix Y_C_mix := x_snd_of (by decide) rfl rfl is_C_mix k_C_mix
theorem ym_C_mix : x_Ymn Y_C_mix := x_ymn_of mn_C_mix
/- CashLinkLaw.mix(LCashLink;III[J)I -/
abbrev c_L_mix : ByteArray := method_18_code
def y_L_mix : MethodName := ⟨"CashLinkLaw", "mix", "(LCashLink;III[J)I"⟩
theorem d_L_mix_0 : decode c_L_mix 0 = .ok (.aload 4, 2) := by decide +kernel
theorem d_L_mix_2 : decode c_L_mix 2 = .ok (.iconst 0, 1) := by decide +kernel
theorem d_L_mix_3 : decode c_L_mix 3 = .ok (.aload_n 0, 1) := by decide +kernel
theorem d_L_mix_4 : decode c_L_mix 4 = .ok (.iload_n 1, 1) := by decide +kernel
theorem d_L_mix_5 : decode c_L_mix 5 = .ok (.iload_n 2, 1) := by decide +kernel
theorem d_L_mix_6 : decode c_L_mix 6 = .ok (.iload_n 3, 1) := by decide +kernel
theorem d_L_mix_7 : decode c_L_mix 7 = .ok (.invokevirtual 71, 3) := by decide +kernel
theorem d_L_mix_10 : decode c_L_mix 10 = .ok (.i2l, 1) := by decide +kernel
theorem d_L_mix_11 : decode c_L_mix 11 = .ok (.lastore, 1) := by decide +kernel
theorem d_L_mix_12 : decode c_L_mix 12 = .ok (.goto 7, 3) := by decide +kernel
theorem d_L_mix_15 : decode c_L_mix 15 = .ok (.astore 5, 2) := by decide +kernel
theorem d_L_mix_17 : decode c_L_mix 17 = .ok (.iconst 1, 1) := by decide +kernel
theorem d_L_mix_18 : decode c_L_mix 18 = .ok (.ireturn, 1) := by decide +kernel
theorem d_L_mix_19 : decode c_L_mix 19 = .ok (.iconst 0, 1) := by decide +kernel
theorem d_L_mix_20 : decode c_L_mix 20 = .ok (.ireturn, 1) := by decide +kernel
def m_L_mix : XM := ("CashLinkLaw", c_L_mix, 6, (some .int), "mix", [(0, 12, 15, 13)], 9, 156)
theorem h_L_mix_7 : x_hok m_L_mix 7 [(11, 15)] := by
  intro ci h hc
  by_cases e0 : ci = 11
  · subst e0
    have hh : h = 15 := (Option.some.inj (hc.symm.trans (by rfl : x_catch [(11, 15)] 11 = some 15)))
    subst hh
    refine ⟨"java/lang/IllegalArgumentException", xT11, 0, [], ⟨0, 12, 15, 13⟩, [], rfl, rfl, rfl, rfl, by decide, q1_217, ?_⟩
    intro z hz
    cases hz
  exfalso
  simp only [x_catch] at hc
  rw [if_neg (fun q => e0 q.symm)] at hc
  cases hc
def b_L_mix : XB := [(0, X_aload 4 2),
  (2, X_push (xv_i 0) 1),
  (3, X_aload 0 1),
  (4, X_iload 1 1),
  (5, X_iload 2 1),
  (6, X_iload 3 1),
  (7, X_invV 0 Y_C_mix 3 [(11, 15)]),
  (10, X_i2l),
  (11, X_last 1),
  (12, X_goto 19),
  (15, X_astore 5 2),
  (17, X_push (xv_i 1) 1),
  (18, X_iret),
  (19, X_push (xv_i 0) 1),
  (20, X_iret)]
set_option maxRecDepth 100000 in
theorem k_L_mix : x_bok m_L_mix b_L_mix := by
  unfold b_L_mix
  refine x_bok.cons (xs_aload d_L_mix_0) ?_
  refine x_bok.cons (xs_iconst d_L_mix_2 (by decide)) ?_
  refine x_bok.cons (xs_aload_n d_L_mix_3 rfl) ?_
  refine x_bok.cons (xs_iload_n d_L_mix_4 rfl) ?_
  refine x_bok.cons (xs_iload_n d_L_mix_5 rfl) ?_
  refine x_bok.cons (xs_iload_n d_L_mix_6 rfl) ?_
  refine x_bok.cons (xs_invV d_L_mix_7 xc0 sn_C_mix is_C_mix ⟨q5_170, q5_171, q5_172, q1_1⟩ (by decide) (by decide) h_L_mix_7) ?_
  refine x_bok.cons (xs_i2l d_L_mix_10) ?_
  refine x_bok.cons (xs_last d_L_mix_11 rfl) ?_
  refine x_bok.cons (xs_goto d_L_mix_12 (by decide)) ?_
  refine x_bok.cons (xs_astore d_L_mix_15 (by decide)) ?_
  refine x_bok.cons (xs_iconst d_L_mix_17 (by decide)) ?_
  refine x_bok.cons (xs_iret d_L_mix_18 rfl) ?_
  refine x_bok.cons (xs_iconst d_L_mix_19 (by decide)) ?_
  refine x_bok.cons (xs_iret d_L_mix_20 rfl) ?_
  exact x_bok.nil
set_option maxRecDepth 100000 in
theorem mn_L_mix : x_bmn b_L_mix := by
  unfold b_L_mix
  refine x_bmn.cons (xm_aload) ?_
  refine x_bmn.cons (xm_push) ?_
  refine x_bmn.cons (xm_aload) ?_
  refine x_bmn.cons (xm_iload) ?_
  refine x_bmn.cons (xm_iload) ?_
  refine x_bmn.cons (xm_iload) ?_
  refine x_bmn.cons (xm_invV ym_C_mix) ?_
  refine x_bmn.cons (xm_i2l) ?_
  refine x_bmn.cons (xm_last) ?_
  refine x_bmn.cons (xm_goto) ?_
  refine x_bmn.cons (xm_astore) ?_
  refine x_bmn.cons (xm_push) ?_
  refine x_bmn.cons (xm_iret) ?_
  refine x_bmn.cons (xm_push) ?_
  refine x_bmn.cons (xm_iret) ?_
  exact x_bmn.nil
theorem is_L_mix : x_Is y_L_mix m_L_mix := x_is_with q5_169
def Y_L_mix : XMeth := x_do 6 b_L_mix
theorem sn_L_mix : x_Snd y_L_mix m_L_mix Y_L_mix := x_snd_of (by decide) rfl rfl is_L_mix k_L_mix
theorem ym_L_mix : x_Ymn Y_L_mix := x_ymn_of mn_L_mix
/- CashLink.allBalances()I -/
abbrev c_C_allBalances : ByteArray := prog_1_method_21_code
def y_C_allBalances : MethodName := ⟨"CashLink", "allBalances", "()I"⟩
theorem d_C_allBalances_0 : decode c_C_allBalances 0 = .ok (.iconst 0, 1) := by decide +kernel
theorem d_C_allBalances_1 : decode c_C_allBalances 1 = .ok (.istore_n 1, 1) := by decide +kernel
theorem d_C_allBalances_2 : decode c_C_allBalances 2 = .ok (.iconst 0, 1) := by decide +kernel
theorem d_C_allBalances_3 : decode c_C_allBalances 3 = .ok (.istore_n 2, 1) := by decide +kernel
theorem d_C_allBalances_4 : decode c_C_allBalances 4 = .ok (.iload_n 2, 1) := by decide +kernel
theorem d_C_allBalances_5 : decode c_C_allBalances 5 = .ok (.sipush 200, 3) := by decide +kernel
theorem d_C_allBalances_8 : decode c_C_allBalances 8 = .ok (.if_icmp .ge 20, 3) := by decide +kernel
theorem d_C_allBalances_11 : decode c_C_allBalances 11 = .ok (.iload_n 1, 1) := by decide +kernel
theorem d_C_allBalances_12 : decode c_C_allBalances 12 = .ok (.aload_n 0, 1) := by decide +kernel
theorem d_C_allBalances_13 : decode c_C_allBalances 13 = .ok (.getfield 31, 3) := by decide +kernel
theorem d_C_allBalances_16 : decode c_C_allBalances 16 = .ok (.iload_n 2, 1) := by decide +kernel
theorem d_C_allBalances_17 : decode c_C_allBalances 17 = .ok (.invokevirtual 134, 3) := by decide +kernel
theorem d_C_allBalances_20 : decode c_C_allBalances 20 = .ok (.iadd, 1) := by decide +kernel
theorem d_C_allBalances_21 : decode c_C_allBalances 21 = .ok (.istore_n 1, 1) := by decide +kernel
theorem d_C_allBalances_22 : decode c_C_allBalances 22 = .ok (.iinc 2 1, 3) := by decide +kernel
theorem d_C_allBalances_25 : decode c_C_allBalances 25 = .ok (.goto (-21), 3) := by decide +kernel
theorem d_C_allBalances_28 : decode c_C_allBalances 28 = .ok (.iload_n 1, 1) := by decide +kernel
theorem d_C_allBalances_29 : decode c_C_allBalances 29 = .ok (.ireturn, 1) := by decide +kernel
def m_C_allBalances : XM := ("CashLink", c_C_allBalances, 3, (some .int), "allBalances", [], 5, 107)
def b_C_allBalances : XB := [(0, X_push (xv_i 0) 1),
  (1, X_istore 1 1),
  (2, X_push (xv_i 0) 1),
  (3, X_istore 2 1),
  (4, X_iload 2 1),
  (5, X_push (xv_i 200) 3),
  (8, X_icmp (fun x y => y ≤ x) 28),
  (11, X_iload 1 1),
  (12, X_aload 0 1),
  (13, X_get 0 1),
  (16, X_iload 2 1),
  (17, X_invV 2 Y_B_balanceOf 1 []),
  (20, X_bin (fun x y => x + y)),
  (21, X_istore 1 1),
  (22, X_iinc 2 1),
  (25, X_goto 4),
  (28, X_iload 1 1),
  (29, X_iret)]
set_option maxRecDepth 100000 in
theorem k_C_allBalances : x_bok m_C_allBalances b_C_allBalances := by
  unfold b_C_allBalances
  refine x_bok.cons (xs_iconst d_C_allBalances_0 (by decide)) ?_
  refine x_bok.cons (xs_istore_n d_C_allBalances_1 rfl (by decide)) ?_
  refine x_bok.cons (xs_iconst d_C_allBalances_2 (by decide)) ?_
  refine x_bok.cons (xs_istore_n d_C_allBalances_3 rfl (by decide)) ?_
  refine x_bok.cons (xs_iload_n d_C_allBalances_4 rfl) ?_
  refine x_bok.cons (xs_sipush d_C_allBalances_5 (by decide)) ?_
  refine x_bok.cons (xs_icmp_ge d_C_allBalances_8 (by decide)) ?_
  refine x_bok.cons (xs_iload_n d_C_allBalances_11 rfl) ?_
  refine x_bok.cons (xs_aload_n d_C_allBalances_12 rfl) ?_
  refine x_bok.cons (xs_get d_C_allBalances_13 xc0 xw0 (by decide) q1_202 (Or.inl rfl)) ?_
  refine x_bok.cons (xs_iload_n d_C_allBalances_16 rfl) ?_
  refine x_bok.cons (xs_invV d_C_allBalances_17 xc2 sn_B_balanceOf is_B_balanceOf ⟨q4_197, q3_233, q3_234, q1_6⟩ (by decide) (by decide) rfl) ?_
  refine x_bok.cons (xs_iadd d_C_allBalances_20) ?_
  refine x_bok.cons (xs_istore_n d_C_allBalances_21 rfl (by decide)) ?_
  refine x_bok.cons (xs_iinc d_C_allBalances_22 (by decide) (by decide)) ?_
  refine x_bok.cons (xs_goto d_C_allBalances_25 (by decide)) ?_
  refine x_bok.cons (xs_iload_n d_C_allBalances_28 rfl) ?_
  refine x_bok.cons (xs_iret d_C_allBalances_29 rfl) ?_
  exact x_bok.nil
set_option maxRecDepth 100000 in
theorem mn_C_allBalances : x_bmn b_C_allBalances := by
  unfold b_C_allBalances
  refine x_bmn.cons (xm_push) ?_
  refine x_bmn.cons (xm_istore) ?_
  refine x_bmn.cons (xm_push) ?_
  refine x_bmn.cons (xm_istore) ?_
  refine x_bmn.cons (xm_iload) ?_
  refine x_bmn.cons (xm_push) ?_
  refine x_bmn.cons (xm_icmp) ?_
  refine x_bmn.cons (xm_iload) ?_
  refine x_bmn.cons (xm_aload) ?_
  refine x_bmn.cons (xm_get) ?_
  refine x_bmn.cons (xm_iload) ?_
  refine x_bmn.cons (xm_invV ym_B_balanceOf) ?_
  refine x_bmn.cons (xm_bin) ?_
  refine x_bmn.cons (xm_istore) ?_
  refine x_bmn.cons (xm_iinc) ?_
  refine x_bmn.cons (xm_goto) ?_
  refine x_bmn.cons (xm_iload) ?_
  refine x_bmn.cons (xm_iret) ?_
  exact x_bmn.nil
theorem is_C_allBalances : x_Is y_C_allBalances m_C_allBalances := x_is_code q5_188
def Y_C_allBalances : XMeth := x_do 3 b_C_allBalances
theorem sn_C_allBalances : x_Snd y_C_allBalances m_C_allBalances Y_C_allBalances := x_snd_of (by decide) rfl rfl is_C_allBalances k_C_allBalances
theorem ym_C_allBalances : x_Ymn Y_C_allBalances := x_ymn_of mn_C_allBalances
/- CashLink.accountsOff(Z)I -/
abbrev c_C_accountsOff : ByteArray := prog_1_method_22_code
def y_C_accountsOff : MethodName := ⟨"CashLink", "accountsOff", "(Z)I"⟩
theorem d_C_accountsOff_0 : decode c_C_accountsOff 0 = .ok (.iconst 0, 1) := by decide +kernel
theorem d_C_accountsOff_1 : decode c_C_accountsOff 1 = .ok (.istore_n 2, 1) := by decide +kernel
theorem d_C_accountsOff_2 : decode c_C_accountsOff 2 = .ok (.iconst 0, 1) := by decide +kernel
theorem d_C_accountsOff_3 : decode c_C_accountsOff 3 = .ok (.istore_n 3, 1) := by decide +kernel
theorem d_C_accountsOff_4 : decode c_C_accountsOff 4 = .ok (.iload_n 3, 1) := by decide +kernel
theorem d_C_accountsOff_5 : decode c_C_accountsOff 5 = .ok (.sipush 200, 3) := by decide +kernel
theorem d_C_accountsOff_8 : decode c_C_accountsOff 8 = .ok (.if_icmp .ge 47, 3) := by decide +kernel
theorem d_C_accountsOff_11 : decode c_C_accountsOff 11 = .ok (.aload_n 0, 1) := by decide +kernel
theorem d_C_accountsOff_12 : decode c_C_accountsOff 12 = .ok (.getfield 31, 3) := by decide +kernel
theorem d_C_accountsOff_15 : decode c_C_accountsOff 15 = .ok (.iload_n 3, 1) := by decide +kernel
theorem d_C_accountsOff_16 : decode c_C_accountsOff 16 = .ok (.invokevirtual 134, 3) := by decide +kernel
theorem d_C_accountsOff_19 : decode c_C_accountsOff 19 = .ok (.aload_n 0, 1) := by decide +kernel
theorem d_C_accountsOff_20 : decode c_C_accountsOff 20 = .ok (.getfield 22, 3) := by decide +kernel
theorem d_C_accountsOff_23 : decode c_C_accountsOff 23 = .ok (.iload_n 3, 1) := by decide +kernel
theorem d_C_accountsOff_24 : decode c_C_accountsOff 24 = .ok (.iaload, 1) := by decide +kernel
theorem d_C_accountsOff_25 : decode c_C_accountsOff 25 = .ok (.iadd, 1) := by decide +kernel
theorem d_C_accountsOff_26 : decode c_C_accountsOff 26 = .ok (.sipush 500, 3) := by decide +kernel
theorem d_C_accountsOff_29 : decode c_C_accountsOff 29 = .ok (.isub, 1) := by decide +kernel
theorem d_C_accountsOff_30 : decode c_C_accountsOff 30 = .ok (.istore 4, 2) := by decide +kernel
theorem d_C_accountsOff_32 : decode c_C_accountsOff 32 = .ok (.iload 4, 2) := by decide +kernel
theorem d_C_accountsOff_34 : decode c_C_accountsOff 34 = .ok (.ifCond .gt 12, 3) := by decide +kernel
theorem d_C_accountsOff_37 : decode c_C_accountsOff 37 = .ok (.iload_n 1, 1) := by decide +kernel
theorem d_C_accountsOff_38 : decode c_C_accountsOff 38 = .ok (.ifCond .eq 11, 3) := by decide +kernel
theorem d_C_accountsOff_41 : decode c_C_accountsOff 41 = .ok (.iload 4, 2) := by decide +kernel
theorem d_C_accountsOff_43 : decode c_C_accountsOff 43 = .ok (.ifCond .ge 6, 3) := by decide +kernel
theorem d_C_accountsOff_46 : decode c_C_accountsOff 46 = .ok (.iinc 2 1, 3) := by decide +kernel
theorem d_C_accountsOff_49 : decode c_C_accountsOff 49 = .ok (.iinc 3 1, 3) := by decide +kernel
theorem d_C_accountsOff_52 : decode c_C_accountsOff 52 = .ok (.goto (-48), 3) := by decide +kernel
theorem d_C_accountsOff_55 : decode c_C_accountsOff 55 = .ok (.iload_n 2, 1) := by decide +kernel
theorem d_C_accountsOff_56 : decode c_C_accountsOff 56 = .ok (.ireturn, 1) := by decide +kernel
def m_C_accountsOff : XM := ("CashLink", c_C_accountsOff, 5, (some .int), "accountsOff", [], 5, 107)
def b_C_accountsOff : XB := [(0, X_push (xv_i 0) 1),
  (1, X_istore 2 1),
  (2, X_push (xv_i 0) 1),
  (3, X_istore 3 1),
  (4, X_iload 3 1),
  (5, X_push (xv_i 200) 3),
  (8, X_icmp (fun x y => y ≤ x) 55),
  (11, X_aload 0 1),
  (12, X_get 0 1),
  (15, X_iload 3 1),
  (16, X_invV 2 Y_B_balanceOf 1 []),
  (19, X_aload 0 1),
  (20, X_get 0 3),
  (23, X_iload 3 1),
  (24, X_ald 0),
  (25, X_bin (fun x y => x + y)),
  (26, X_push (xv_i 500) 3),
  (29, X_bin (fun x y => x - y)),
  (30, X_istore 4 2),
  (32, X_iload 4 2),
  (34, X_if (fun x => 0 < x) 46),
  (37, X_iload 1 1),
  (38, X_if (fun x => x = 0) 49),
  (41, X_iload 4 2),
  (43, X_if (fun x => 0 ≤ x) 49),
  (46, X_iinc 2 1),
  (49, X_iinc 3 1),
  (52, X_goto 4),
  (55, X_iload 2 1),
  (56, X_iret)]
set_option maxRecDepth 100000 in
theorem k_C_accountsOff : x_bok m_C_accountsOff b_C_accountsOff := by
  unfold b_C_accountsOff
  refine x_bok.cons (xs_iconst d_C_accountsOff_0 (by decide)) ?_
  refine x_bok.cons (xs_istore_n d_C_accountsOff_1 rfl (by decide)) ?_
  refine x_bok.cons (xs_iconst d_C_accountsOff_2 (by decide)) ?_
  refine x_bok.cons (xs_istore_n d_C_accountsOff_3 rfl (by decide)) ?_
  refine x_bok.cons (xs_iload_n d_C_accountsOff_4 rfl) ?_
  refine x_bok.cons (xs_sipush d_C_accountsOff_5 (by decide)) ?_
  refine x_bok.cons (xs_icmp_ge d_C_accountsOff_8 (by decide)) ?_
  refine x_bok.cons (xs_aload_n d_C_accountsOff_11 rfl) ?_
  refine x_bok.cons (xs_get d_C_accountsOff_12 xc0 xw0 (by decide) q1_202 (Or.inl rfl)) ?_
  refine x_bok.cons (xs_iload_n d_C_accountsOff_15 rfl) ?_
  refine x_bok.cons (xs_invV d_C_accountsOff_16 xc2 sn_B_balanceOf is_B_balanceOf ⟨q4_197, q3_233, q3_234, q1_6⟩ (by decide) (by decide) rfl) ?_
  refine x_bok.cons (xs_aload_n d_C_accountsOff_19 rfl) ?_
  refine x_bok.cons (xs_get d_C_accountsOff_20 xc0 xw0 (by decide) q1_204 (Or.inl rfl)) ?_
  refine x_bok.cons (xs_iload_n d_C_accountsOff_23 rfl) ?_
  refine x_bok.cons (xs_iald d_C_accountsOff_24 rfl) ?_
  refine x_bok.cons (xs_iadd d_C_accountsOff_25) ?_
  refine x_bok.cons (xs_sipush d_C_accountsOff_26 (by decide)) ?_
  refine x_bok.cons (xs_isub d_C_accountsOff_29) ?_
  refine x_bok.cons (xs_istore d_C_accountsOff_30 (by decide)) ?_
  refine x_bok.cons (xs_iload d_C_accountsOff_32) ?_
  refine x_bok.cons (xs_if_gt d_C_accountsOff_34 (by decide)) ?_
  refine x_bok.cons (xs_iload_n d_C_accountsOff_37 rfl) ?_
  refine x_bok.cons (xs_if_eq d_C_accountsOff_38 (by decide)) ?_
  refine x_bok.cons (xs_iload d_C_accountsOff_41) ?_
  refine x_bok.cons (xs_if_ge d_C_accountsOff_43 (by decide)) ?_
  refine x_bok.cons (xs_iinc d_C_accountsOff_46 (by decide) (by decide)) ?_
  refine x_bok.cons (xs_iinc d_C_accountsOff_49 (by decide) (by decide)) ?_
  refine x_bok.cons (xs_goto d_C_accountsOff_52 (by decide)) ?_
  refine x_bok.cons (xs_iload_n d_C_accountsOff_55 rfl) ?_
  refine x_bok.cons (xs_iret d_C_accountsOff_56 rfl) ?_
  exact x_bok.nil
set_option maxRecDepth 100000 in
theorem mn_C_accountsOff : x_bmn b_C_accountsOff := by
  unfold b_C_accountsOff
  refine x_bmn.cons (xm_push) ?_
  refine x_bmn.cons (xm_istore) ?_
  refine x_bmn.cons (xm_push) ?_
  refine x_bmn.cons (xm_istore) ?_
  refine x_bmn.cons (xm_iload) ?_
  refine x_bmn.cons (xm_push) ?_
  refine x_bmn.cons (xm_icmp) ?_
  refine x_bmn.cons (xm_aload) ?_
  refine x_bmn.cons (xm_get) ?_
  refine x_bmn.cons (xm_iload) ?_
  refine x_bmn.cons (xm_invV ym_B_balanceOf) ?_
  refine x_bmn.cons (xm_aload) ?_
  refine x_bmn.cons (xm_get) ?_
  refine x_bmn.cons (xm_iload) ?_
  refine x_bmn.cons (xm_ald) ?_
  refine x_bmn.cons (xm_bin) ?_
  refine x_bmn.cons (xm_push) ?_
  refine x_bmn.cons (xm_bin) ?_
  refine x_bmn.cons (xm_istore) ?_
  refine x_bmn.cons (xm_iload) ?_
  refine x_bmn.cons (xm_if) ?_
  refine x_bmn.cons (xm_iload) ?_
  refine x_bmn.cons (xm_if) ?_
  refine x_bmn.cons (xm_iload) ?_
  refine x_bmn.cons (xm_if) ?_
  refine x_bmn.cons (xm_iinc) ?_
  refine x_bmn.cons (xm_iinc) ?_
  refine x_bmn.cons (xm_goto) ?_
  refine x_bmn.cons (xm_iload) ?_
  refine x_bmn.cons (xm_iret) ?_
  exact x_bmn.nil
theorem is_C_accountsOff : x_Is y_C_accountsOff m_C_accountsOff := x_is_code q5_192
def Y_C_accountsOff : XMeth := x_do 5 b_C_accountsOff
theorem sn_C_accountsOff : x_Snd y_C_accountsOff m_C_accountsOff Y_C_accountsOff := x_snd_of (by decide) rfl rfl is_C_accountsOff k_C_accountsOff
theorem ym_C_accountsOff : x_Ymn Y_C_accountsOff := x_ymn_of mn_C_accountsOff
/- CashLink.isQuiet()Z -/
abbrev c_C_isQuiet : ByteArray := prog_1_method_23_code
def y_C_isQuiet : MethodName := ⟨"CashLink", "isQuiet", "()Z"⟩
theorem d_C_isQuiet_0 : decode c_C_isQuiet 0 = .ok (.iconst 0, 1) := by decide +kernel
theorem d_C_isQuiet_1 : decode c_C_isQuiet 1 = .ok (.istore_n 1, 1) := by decide +kernel
theorem d_C_isQuiet_2 : decode c_C_isQuiet 2 = .ok (.iload_n 1, 1) := by decide +kernel
theorem d_C_isQuiet_3 : decode c_C_isQuiet 3 = .ok (.iconst 4, 1) := by decide +kernel
theorem d_C_isQuiet_4 : decode c_C_isQuiet 4 = .ok (.if_icmp .ge 23, 3) := by decide +kernel
theorem d_C_isQuiet_7 : decode c_C_isQuiet 7 = .ok (.aload_n 0, 1) := by decide +kernel
theorem d_C_isQuiet_8 : decode c_C_isQuiet 8 = .ok (.getfield 11, 3) := by decide +kernel
theorem d_C_isQuiet_11 : decode c_C_isQuiet 11 = .ok (.iload_n 1, 1) := by decide +kernel
theorem d_C_isQuiet_12 : decode c_C_isQuiet 12 = .ok (.aaload, 1) := by decide +kernel
theorem d_C_isQuiet_13 : decode c_C_isQuiet 13 = .ok (.invokevirtual 191, 3) := by decide +kernel
theorem d_C_isQuiet_16 : decode c_C_isQuiet 16 = .ok (.ifCond .ne 5, 3) := by decide +kernel
theorem d_C_isQuiet_19 : decode c_C_isQuiet 19 = .ok (.iconst 0, 1) := by decide +kernel
theorem d_C_isQuiet_20 : decode c_C_isQuiet 20 = .ok (.ireturn, 1) := by decide +kernel
theorem d_C_isQuiet_21 : decode c_C_isQuiet 21 = .ok (.iinc 1 1, 3) := by decide +kernel
theorem d_C_isQuiet_24 : decode c_C_isQuiet 24 = .ok (.goto (-22), 3) := by decide +kernel
theorem d_C_isQuiet_27 : decode c_C_isQuiet 27 = .ok (.iconst 1, 1) := by decide +kernel
theorem d_C_isQuiet_28 : decode c_C_isQuiet 28 = .ok (.ireturn, 1) := by decide +kernel
def m_C_isQuiet : XM := ("CashLink", c_C_isQuiet, 2, (some .boolean), "isQuiet", [], 2, 40)
def b_C_isQuiet : XB := [(0, X_push (xv_i 0) 1),
  (1, X_istore 1 1),
  (2, X_iload 1 1),
  (3, X_push (xv_i 4) 1),
  (4, X_icmp (fun x y => y ≤ x) 27),
  (7, X_aload 0 1),
  (8, X_get 0 2),
  (11, X_iload 1 1),
  (12, X_aald 4),
  (13, X_invV 3 Y_M_isQuiet 0 []),
  (16, X_if (fun x => ¬ x = 0) 21),
  (19, X_push (xv_i 0) 1),
  (20, X_zret),
  (21, X_iinc 1 1),
  (24, X_goto 2),
  (27, X_push (xv_i 1) 1),
  (28, X_zret)]
set_option maxRecDepth 100000 in
theorem k_C_isQuiet : x_bok m_C_isQuiet b_C_isQuiet := by
  unfold b_C_isQuiet
  refine x_bok.cons (xs_iconst d_C_isQuiet_0 (by decide)) ?_
  refine x_bok.cons (xs_istore_n d_C_isQuiet_1 rfl (by decide)) ?_
  refine x_bok.cons (xs_iload_n d_C_isQuiet_2 rfl) ?_
  refine x_bok.cons (xs_iconst d_C_isQuiet_3 (by decide)) ?_
  refine x_bok.cons (xs_icmp_ge d_C_isQuiet_4 (by decide)) ?_
  refine x_bok.cons (xs_aload_n d_C_isQuiet_7 rfl) ?_
  refine x_bok.cons (xs_get d_C_isQuiet_8 xc0 xw0 (by decide) q1_203 (Or.inl rfl)) ?_
  refine x_bok.cons (xs_iload_n d_C_isQuiet_11 rfl) ?_
  refine x_bok.cons (xs_aald d_C_isQuiet_12 rfl) ?_
  refine x_bok.cons (xs_invV d_C_isQuiet_13 xc3 sn_M_isQuiet is_M_isQuiet ⟨q5_197, q3_123, q3_124, q1_8⟩ (by decide) (by decide) rfl) ?_
  refine x_bok.cons (xs_if_ne d_C_isQuiet_16 (by decide)) ?_
  refine x_bok.cons (xs_iconst d_C_isQuiet_19 (by decide)) ?_
  refine x_bok.cons (xs_zret d_C_isQuiet_20 rfl) ?_
  refine x_bok.cons (xs_iinc d_C_isQuiet_21 (by decide) (by decide)) ?_
  refine x_bok.cons (xs_goto d_C_isQuiet_24 (by decide)) ?_
  refine x_bok.cons (xs_iconst d_C_isQuiet_27 (by decide)) ?_
  refine x_bok.cons (xs_zret d_C_isQuiet_28 rfl) ?_
  exact x_bok.nil
set_option maxRecDepth 100000 in
theorem mn_C_isQuiet : x_bmn b_C_isQuiet := by
  unfold b_C_isQuiet
  refine x_bmn.cons (xm_push) ?_
  refine x_bmn.cons (xm_istore) ?_
  refine x_bmn.cons (xm_iload) ?_
  refine x_bmn.cons (xm_push) ?_
  refine x_bmn.cons (xm_icmp) ?_
  refine x_bmn.cons (xm_aload) ?_
  refine x_bmn.cons (xm_get) ?_
  refine x_bmn.cons (xm_iload) ?_
  refine x_bmn.cons (xm_aald) ?_
  refine x_bmn.cons (xm_invV ym_M_isQuiet) ?_
  refine x_bmn.cons (xm_if) ?_
  refine x_bmn.cons (xm_push) ?_
  refine x_bmn.cons (xm_zret) ?_
  refine x_bmn.cons (xm_iinc) ?_
  refine x_bmn.cons (xm_goto) ?_
  refine x_bmn.cons (xm_push) ?_
  refine x_bmn.cons (xm_zret) ?_
  exact x_bmn.nil
theorem is_C_isQuiet : x_Is y_C_isQuiet m_C_isQuiet := x_is_code q5_196
def Y_C_isQuiet : XMeth := x_do 2 b_C_isQuiet
theorem sn_C_isQuiet : x_Snd y_C_isQuiet m_C_isQuiet Y_C_isQuiet := x_snd_of (by decide) rfl rfl is_C_isQuiet k_C_isQuiet
theorem ym_C_isQuiet : x_Ymn Y_C_isQuiet := x_ymn_of mn_C_isQuiet
/- CashLink.count(I)I -/
abbrev c_C_count : ByteArray := prog_1_method_18_code
def y_C_count : MethodName := ⟨"CashLink", "count", "(I)I"⟩
theorem d_C_count_0 : decode c_C_count 0 = .ok (.iload_n 1, 1) := by decide +kernel
theorem d_C_count_1 : decode c_C_count 1 = .ok (.tableswitch 117 0 6 #[43, 51, 70, 81, 86, 92, 109], 43) := by decide +kernel
theorem d_C_count_44 : decode c_C_count 44 = .ok (.aload_n 0, 1) := by decide +kernel
theorem d_C_count_45 : decode c_C_count 45 = .ok (.getfield 18, 3) := by decide +kernel
theorem d_C_count_48 : decode c_C_count 48 = .ok (.invokevirtual 75, 3) := by decide +kernel
theorem d_C_count_51 : decode c_C_count 51 = .ok (.ireturn, 1) := by decide +kernel
theorem d_C_count_52 : decode c_C_count 52 = .ok (.aload_n 0, 1) := by decide +kernel
theorem d_C_count_53 : decode c_C_count 53 = .ok (.getfield 31, 3) := by decide +kernel
theorem d_C_count_56 : decode c_C_count 56 = .ok (.getfield 117, 3) := by decide +kernel
theorem d_C_count_59 : decode c_C_count 59 = .ok (.invokevirtual 163, 3) := by decide +kernel
theorem d_C_count_62 : decode c_C_count 62 = .ok (.ifCond .eq 7, 3) := by decide +kernel
theorem d_C_count_65 : decode c_C_count 65 = .ok (.iconst 1, 1) := by decide +kernel
theorem d_C_count_66 : decode c_C_count 66 = .ok (.goto 4, 3) := by decide +kernel
theorem d_C_count_69 : decode c_C_count 69 = .ok (.iconst 0, 1) := by decide +kernel
theorem d_C_count_70 : decode c_C_count 70 = .ok (.ireturn, 1) := by decide +kernel
theorem d_C_count_71 : decode c_C_count 71 = .ok (.aload_n 0, 1) := by decide +kernel
theorem d_C_count_72 : decode c_C_count 72 = .ok (.getfield 31, 3) := by decide +kernel
theorem d_C_count_75 : decode c_C_count 75 = .ok (.getfield 117, 3) := by decide +kernel
theorem d_C_count_78 : decode c_C_count 78 = .ok (.invokevirtual 167, 3) := by decide +kernel
theorem d_C_count_81 : decode c_C_count 81 = .ok (.ireturn, 1) := by decide +kernel
theorem d_C_count_82 : decode c_C_count 82 = .ok (.aload_n 0, 1) := by decide +kernel
theorem d_C_count_83 : decode c_C_count 83 = .ok (.invokevirtual 168, 3) := by decide +kernel
theorem d_C_count_86 : decode c_C_count 86 = .ok (.ireturn, 1) := by decide +kernel
theorem d_C_count_87 : decode c_C_count 87 = .ok (.aload_n 0, 1) := by decide +kernel
theorem d_C_count_88 : decode c_C_count 88 = .ok (.iconst 0, 1) := by decide +kernel
theorem d_C_count_89 : decode c_C_count 89 = .ok (.invokevirtual 171, 3) := by decide +kernel
theorem d_C_count_92 : decode c_C_count 92 = .ok (.ireturn, 1) := by decide +kernel
theorem d_C_count_93 : decode c_C_count 93 = .ok (.aload_n 0, 1) := by decide +kernel
theorem d_C_count_94 : decode c_C_count 94 = .ok (.invokevirtual 175, 3) := by decide +kernel
theorem d_C_count_97 : decode c_C_count 97 = .ok (.ifCond .eq 11, 3) := by decide +kernel
theorem d_C_count_100 : decode c_C_count 100 = .ok (.aload_n 0, 1) := by decide +kernel
theorem d_C_count_101 : decode c_C_count 101 = .ok (.iconst 1, 1) := by decide +kernel
theorem d_C_count_102 : decode c_C_count 102 = .ok (.invokevirtual 171, 3) := by decide +kernel
theorem d_C_count_105 : decode c_C_count 105 = .ok (.goto 4, 3) := by decide +kernel
theorem d_C_count_108 : decode c_C_count 108 = .ok (.iconst 0, 1) := by decide +kernel
theorem d_C_count_109 : decode c_C_count 109 = .ok (.ireturn, 1) := by decide +kernel
theorem d_C_count_110 : decode c_C_count 110 = .ok (.aload_n 0, 1) := by decide +kernel
theorem d_C_count_111 : decode c_C_count 111 = .ok (.getfield 31, 3) := by decide +kernel
theorem d_C_count_114 : decode c_C_count 114 = .ok (.getfield 178, 3) := by decide +kernel
theorem d_C_count_117 : decode c_C_count 117 = .ok (.ireturn, 1) := by decide +kernel
theorem d_C_count_118 : decode c_C_count 118 = .ok (.new 181, 3) := by decide +kernel
theorem d_C_count_121 : decode c_C_count 121 = .ok (.dup, 1) := by decide +kernel
theorem d_C_count_122 : decode c_C_count 122 = .ok (.ldc 183, 2) := by decide +kernel
theorem d_C_count_124 : decode c_C_count 124 = .ok (.invokespecial 185, 3) := by decide +kernel
theorem d_C_count_127 : decode c_C_count 127 = .ok (.athrow, 1) := by decide +kernel
def m_C_count : XM := ("CashLink", c_C_count, 2, (some .int), "count", [], 6, 131)
def b_C_count : XB := [(0, X_iload 1 1),
  (1, X_sw [(0, 44), (1, 52), (2, 71), (3, 82), (4, 87), (5, 93), (6, 110)] 118),
  (44, X_aload 0 1),
  (45, X_get 0 0),
  (48, X_invV 1 Y_N_size 0 []),
  (51, X_iret),
  (52, X_aload 0 1),
  (53, X_get 0 1),
  (56, X_get 2 1),
  (59, X_invV 4 Y_J_isOn 0 []),
  (62, X_if (fun x => x = 0) 69),
  (65, X_push (xv_i 1) 1),
  (66, X_goto 70),
  (69, X_push (xv_i 0) 1),
  (70, X_iret),
  (71, X_aload 0 1),
  (72, X_get 0 1),
  (75, X_get 2 1),
  (78, X_invV 4 Y_J_size 0 []),
  (81, X_iret),
  (82, X_aload 0 1),
  (83, X_invV 0 Y_C_allBalances 0 []),
  (86, X_iret),
  (87, X_aload 0 1),
  (88, X_push (xv_i 0) 1),
  (89, X_invV 0 Y_C_accountsOff 1 []),
  (92, X_iret),
  (93, X_aload 0 1),
  (94, X_invV 0 Y_C_isQuiet 0 []),
  (97, X_if (fun x => x = 0) 108),
  (100, X_aload 0 1),
  (101, X_push (xv_i 1) 1),
  (102, X_invV 0 Y_C_accountsOff 1 []),
  (105, X_goto 109),
  (108, X_push (xv_i 0) 1),
  (109, X_iret),
  (110, X_aload 0 1),
  (111, X_get 0 1),
  (114, X_get 2 4),
  (117, X_iret),
  (118, X_tn 11)]
set_option maxRecDepth 100000 in
theorem k_C_count : x_bok m_C_count b_C_count := by
  unfold b_C_count
  refine x_bok.cons (xs_iload_n d_C_count_0 rfl) ?_
  refine x_bok.cons (xs_tsw d_C_count_1 (by decide) (by decide) (x_swall 0 7 _ (by decide))) ?_
  refine x_bok.cons (xs_aload_n d_C_count_44 rfl) ?_
  refine x_bok.cons (xs_get d_C_count_45 xc0 xw0 (by decide) q1_201 (Or.inl rfl)) ?_
  refine x_bok.cons (xs_invV d_C_count_48 xc1 sn_N_size is_N_size ⟨q3_158, q3_159, q3_160, q1_2⟩ (by decide) (by decide) rfl) ?_
  refine x_bok.cons (xs_iret d_C_count_51 rfl) ?_
  refine x_bok.cons (xs_aload_n d_C_count_52 rfl) ?_
  refine x_bok.cons (xs_get d_C_count_53 xc0 xw0 (by decide) q1_202 (Or.inl rfl)) ?_
  refine x_bok.cons (xs_get d_C_count_56 xc2 xw2 (by decide) q1_115 (Or.inl rfl)) ?_
  refine x_bok.cons (xs_invV d_C_count_59 xc4 sn_J_isOn is_J_isOn ⟨q5_183, q2_68, q2_69, q1_7⟩ (by decide) (by decide) rfl) ?_
  refine x_bok.cons (xs_if_eq d_C_count_62 (by decide)) ?_
  refine x_bok.cons (xs_iconst d_C_count_65 (by decide)) ?_
  refine x_bok.cons (xs_goto d_C_count_66 (by decide)) ?_
  refine x_bok.cons (xs_iconst d_C_count_69 (by decide)) ?_
  refine x_bok.cons (xs_iret d_C_count_70 rfl) ?_
  refine x_bok.cons (xs_aload_n d_C_count_71 rfl) ?_
  refine x_bok.cons (xs_get d_C_count_72 xc0 xw0 (by decide) q1_202 (Or.inl rfl)) ?_
  refine x_bok.cons (xs_get d_C_count_75 xc2 xw2 (by decide) q1_115 (Or.inl rfl)) ?_
  refine x_bok.cons (xs_invV d_C_count_78 xc4 sn_J_size is_J_size ⟨q5_184, q3_131, q3_132, q1_7⟩ (by decide) (by decide) rfl) ?_
  refine x_bok.cons (xs_iret d_C_count_81 rfl) ?_
  refine x_bok.cons (xs_aload_n d_C_count_82 rfl) ?_
  refine x_bok.cons (xs_invV d_C_count_83 xc0 sn_C_allBalances is_C_allBalances ⟨q5_185, q5_187, (x_sel (x_p2 (List.mem_of_getElem? (i := 10) rfl))), q1_1⟩ (by decide) (by decide) rfl) ?_
  refine x_bok.cons (xs_iret d_C_count_86 rfl) ?_
  refine x_bok.cons (xs_aload_n d_C_count_87 rfl) ?_
  refine x_bok.cons (xs_iconst d_C_count_88 (by decide)) ?_
  refine x_bok.cons (xs_invV d_C_count_89 xc0 sn_C_accountsOff is_C_accountsOff ⟨q5_189, q5_191, (x_sel (x_p2 (List.mem_of_getElem? (i := 11) rfl))), q1_1⟩ (by decide) (by decide) rfl) ?_
  refine x_bok.cons (xs_iret d_C_count_92 rfl) ?_
  refine x_bok.cons (xs_aload_n d_C_count_93 rfl) ?_
  refine x_bok.cons (xs_invV d_C_count_94 xc0 sn_C_isQuiet is_C_isQuiet ⟨q5_193, q5_195, (x_sel (x_p2 (List.mem_of_getElem? (i := 12) rfl))), q1_1⟩ (by decide) (by decide) rfl) ?_
  refine x_bok.cons (xs_if_eq d_C_count_97 (by decide)) ?_
  refine x_bok.cons (xs_aload_n d_C_count_100 rfl) ?_
  refine x_bok.cons (xs_iconst d_C_count_101 (by decide)) ?_
  refine x_bok.cons (xs_invV d_C_count_102 xc0 sn_C_accountsOff is_C_accountsOff ⟨q5_189, q5_191, (x_sel (x_p2 (List.mem_of_getElem? (i := 11) rfl))), q1_1⟩ (by decide) (by decide) rfl) ?_
  refine x_bok.cons (xs_goto d_C_count_105 (by decide)) ?_
  refine x_bok.cons (xs_iconst d_C_count_108 (by decide)) ?_
  refine x_bok.cons (xs_iret d_C_count_109 rfl) ?_
  refine x_bok.cons (xs_aload_n d_C_count_110 rfl) ?_
  refine x_bok.cons (xs_get d_C_count_111 xc0 xw0 (by decide) q1_202 (Or.inl rfl)) ?_
  refine x_bok.cons (xs_get d_C_count_114 xc2 xw2 (by decide) q1_119 (Or.inl rfl)) ?_
  refine x_bok.cons (xs_iret d_C_count_117 rfl) ?_
  refine x_bok.cons (xs_tnS (names := ["java/lang/RuntimeException", "java/lang/Exception"]) d_C_count_118 d_C_count_121 d_C_count_122 d_C_count_124 d_C_count_127 xc11 rfl (by decide +kernel) (by decide +kernel) (List.mem_of_getElem? (i := 6) rfl) x_exin (by decide +kernel) rfl (by decide)) ?_
  exact x_bok.nil
set_option maxRecDepth 100000 in
theorem mn_C_count : x_bmn b_C_count := by
  unfold b_C_count
  refine x_bmn.cons (xm_iload) ?_
  refine x_bmn.cons (xm_sw) ?_
  refine x_bmn.cons (xm_aload) ?_
  refine x_bmn.cons (xm_get) ?_
  refine x_bmn.cons (xm_invV ym_N_size) ?_
  refine x_bmn.cons (xm_iret) ?_
  refine x_bmn.cons (xm_aload) ?_
  refine x_bmn.cons (xm_get) ?_
  refine x_bmn.cons (xm_get) ?_
  refine x_bmn.cons (xm_invV ym_J_isOn) ?_
  refine x_bmn.cons (xm_if) ?_
  refine x_bmn.cons (xm_push) ?_
  refine x_bmn.cons (xm_goto) ?_
  refine x_bmn.cons (xm_push) ?_
  refine x_bmn.cons (xm_iret) ?_
  refine x_bmn.cons (xm_aload) ?_
  refine x_bmn.cons (xm_get) ?_
  refine x_bmn.cons (xm_get) ?_
  refine x_bmn.cons (xm_invV ym_J_size) ?_
  refine x_bmn.cons (xm_iret) ?_
  refine x_bmn.cons (xm_aload) ?_
  refine x_bmn.cons (xm_invV ym_C_allBalances) ?_
  refine x_bmn.cons (xm_iret) ?_
  refine x_bmn.cons (xm_aload) ?_
  refine x_bmn.cons (xm_push) ?_
  refine x_bmn.cons (xm_invV ym_C_accountsOff) ?_
  refine x_bmn.cons (xm_iret) ?_
  refine x_bmn.cons (xm_aload) ?_
  refine x_bmn.cons (xm_invV ym_C_isQuiet) ?_
  refine x_bmn.cons (xm_if) ?_
  refine x_bmn.cons (xm_aload) ?_
  refine x_bmn.cons (xm_push) ?_
  refine x_bmn.cons (xm_invV ym_C_accountsOff) ?_
  refine x_bmn.cons (xm_goto) ?_
  refine x_bmn.cons (xm_push) ?_
  refine x_bmn.cons (xm_iret) ?_
  refine x_bmn.cons (xm_aload) ?_
  refine x_bmn.cons (xm_get) ?_
  refine x_bmn.cons (xm_get) ?_
  refine x_bmn.cons (xm_iret) ?_
  refine x_bmn.cons (xm_tn) ?_
  exact x_bmn.nil
theorem is_C_count : x_Is y_C_count m_C_count := x_is_code q5_182
def Y_C_count : XMeth := x_do 2 b_C_count
theorem sn_C_count : x_Snd y_C_count m_C_count Y_C_count := x_snd_of (by decide) rfl rfl is_C_count k_C_count
theorem ym_C_count : x_Ymn Y_C_count := x_ymn_of mn_C_count
/- CashLinkLaw.count(LCashLink;I[J)I -/
abbrev c_L_count : ByteArray := method_19_code
def y_L_count : MethodName := ⟨"CashLinkLaw", "count", "(LCashLink;I[J)I"⟩
theorem d_L_count_0 : decode c_L_count 0 = .ok (.aload_n 2, 1) := by decide +kernel
theorem d_L_count_1 : decode c_L_count 1 = .ok (.iconst 0, 1) := by decide +kernel
theorem d_L_count_2 : decode c_L_count 2 = .ok (.aload_n 0, 1) := by decide +kernel
theorem d_L_count_3 : decode c_L_count 3 = .ok (.iload_n 1, 1) := by decide +kernel
theorem d_L_count_4 : decode c_L_count 4 = .ok (.invokevirtual 74, 3) := by decide +kernel
theorem d_L_count_7 : decode c_L_count 7 = .ok (.i2l, 1) := by decide +kernel
theorem d_L_count_8 : decode c_L_count 8 = .ok (.lastore, 1) := by decide +kernel
theorem d_L_count_9 : decode c_L_count 9 = .ok (.goto 6, 3) := by decide +kernel
theorem d_L_count_12 : decode c_L_count 12 = .ok (.astore_n 3, 1) := by decide +kernel
theorem d_L_count_13 : decode c_L_count 13 = .ok (.iconst 1, 1) := by decide +kernel
theorem d_L_count_14 : decode c_L_count 14 = .ok (.ireturn, 1) := by decide +kernel
theorem d_L_count_15 : decode c_L_count 15 = .ok (.iconst 0, 1) := by decide +kernel
theorem d_L_count_16 : decode c_L_count 16 = .ok (.ireturn, 1) := by decide +kernel
def m_L_count : XM := ("CashLinkLaw", c_L_count, 4, (some .int), "count", [(0, 9, 12, 13)], 7, 152)
theorem h_L_count_4 : x_hok m_L_count 4 [(11, 12)] := by
  intro ci h hc
  by_cases e0 : ci = 11
  · subst e0
    have hh : h = 12 := (Option.some.inj (hc.symm.trans (by rfl : x_catch [(11, 12)] 11 = some 12)))
    subst hh
    refine ⟨"java/lang/IllegalArgumentException", xT11, 0, [], ⟨0, 9, 12, 13⟩, [], rfl, rfl, rfl, rfl, by decide, q1_217, ?_⟩
    intro z hz
    cases hz
  exfalso
  simp only [x_catch] at hc
  rw [if_neg (fun q => e0 q.symm)] at hc
  cases hc
def b_L_count : XB := [(0, X_aload 2 1),
  (1, X_push (xv_i 0) 1),
  (2, X_aload 0 1),
  (3, X_iload 1 1),
  (4, X_invV 0 Y_C_count 1 [(11, 12)]),
  (7, X_i2l),
  (8, X_last 1),
  (9, X_goto 15),
  (12, X_astore 3 1),
  (13, X_push (xv_i 1) 1),
  (14, X_iret),
  (15, X_push (xv_i 0) 1),
  (16, X_iret)]
set_option maxRecDepth 100000 in
theorem k_L_count : x_bok m_L_count b_L_count := by
  unfold b_L_count
  refine x_bok.cons (xs_aload_n d_L_count_0 rfl) ?_
  refine x_bok.cons (xs_iconst d_L_count_1 (by decide)) ?_
  refine x_bok.cons (xs_aload_n d_L_count_2 rfl) ?_
  refine x_bok.cons (xs_iload_n d_L_count_3 rfl) ?_
  refine x_bok.cons (xs_invV d_L_count_4 xc0 sn_C_count is_C_count ⟨q5_179, q5_180, q5_181, q1_1⟩ (by decide) (by decide) h_L_count_4) ?_
  refine x_bok.cons (xs_i2l d_L_count_7) ?_
  refine x_bok.cons (xs_last d_L_count_8 rfl) ?_
  refine x_bok.cons (xs_goto d_L_count_9 (by decide)) ?_
  refine x_bok.cons (xs_astore_n d_L_count_12 rfl (by decide)) ?_
  refine x_bok.cons (xs_iconst d_L_count_13 (by decide)) ?_
  refine x_bok.cons (xs_iret d_L_count_14 rfl) ?_
  refine x_bok.cons (xs_iconst d_L_count_15 (by decide)) ?_
  refine x_bok.cons (xs_iret d_L_count_16 rfl) ?_
  exact x_bok.nil
set_option maxRecDepth 100000 in
theorem mn_L_count : x_bmn b_L_count := by
  unfold b_L_count
  refine x_bmn.cons (xm_aload) ?_
  refine x_bmn.cons (xm_push) ?_
  refine x_bmn.cons (xm_aload) ?_
  refine x_bmn.cons (xm_iload) ?_
  refine x_bmn.cons (xm_invV ym_C_count) ?_
  refine x_bmn.cons (xm_i2l) ?_
  refine x_bmn.cons (xm_last) ?_
  refine x_bmn.cons (xm_goto) ?_
  refine x_bmn.cons (xm_astore) ?_
  refine x_bmn.cons (xm_push) ?_
  refine x_bmn.cons (xm_iret) ?_
  refine x_bmn.cons (xm_push) ?_
  refine x_bmn.cons (xm_iret) ?_
  exact x_bmn.nil
theorem is_L_count : x_Is y_L_count m_L_count := x_is_with q5_178
def Y_L_count : XMeth := x_do 4 b_L_count
theorem sn_L_count : x_Snd y_L_count m_L_count Y_L_count := x_snd_of (by decide) rfl rfl is_L_count k_L_count
theorem ym_L_count : x_Ymn Y_L_count := x_ymn_of mn_L_count
