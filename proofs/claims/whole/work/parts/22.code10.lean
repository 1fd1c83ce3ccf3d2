/- CashLink$Machine.turnOn()I -/
abbrev c_M_turnOn : ByteArray := prog_6_method_16_code
def y_M_turnOn : MethodName := ⟨"CashLink$Machine", "turnOn", "()I"⟩
theorem d_M_turnOn_0 : decode c_M_turnOn 0 = .ok (.aload_n 0, 1) := by decide +kernel
theorem d_M_turnOn_1 : decode c_M_turnOn 1 = .ok (.getfield 14, 3) := by decide +kernel
theorem d_M_turnOn_4 : decode c_M_turnOn 4 = .ok (.invokevirtual 142, 3) := by decide +kernel
theorem d_M_turnOn_7 : decode c_M_turnOn 7 = .ok (.istore_n 1, 1) := by decide +kernel
theorem d_M_turnOn_8 : decode c_M_turnOn 8 = .ok (.aload_n 0, 1) := by decide +kernel
theorem d_M_turnOn_9 : decode c_M_turnOn 9 = .ok (.getfield 14, 3) := by decide +kernel
theorem d_M_turnOn_12 : decode c_M_turnOn 12 = .ok (.invokevirtual 204, 3) := by decide +kernel
theorem d_M_turnOn_15 : decode c_M_turnOn 15 = .ok (.aload_n 0, 1) := by decide +kernel
theorem d_M_turnOn_16 : decode c_M_turnOn 16 = .ok (.getstatic 25, 3) := by decide +kernel
theorem d_M_turnOn_19 : decode c_M_turnOn 19 = .ok (.putfield 31, 3) := by decide +kernel
theorem d_M_turnOn_22 : decode c_M_turnOn 22 = .ok (.aload_n 0, 1) := by decide +kernel
theorem d_M_turnOn_23 : decode c_M_turnOn 23 = .ok (.invokevirtual 207, 3) := by decide +kernel
theorem d_M_turnOn_26 : decode c_M_turnOn 26 = .ok (.aload_n 0, 1) := by decide +kernel
theorem d_M_turnOn_27 : decode c_M_turnOn 27 = .ok (.invokevirtual 210, 3) := by decide +kernel
theorem d_M_turnOn_30 : decode c_M_turnOn 30 = .ok (.iload_n 1, 1) := by decide +kernel
theorem d_M_turnOn_31 : decode c_M_turnOn 31 = .ok (.ireturn, 1) := by decide +kernel
def m_M_turnOn : XM := ("CashLink$Machine", c_M_turnOn, 2, (some .int), "turnOn", [], 11, 248)
def b_M_turnOn : XB := [(0, X_aload 0 1),
  (1, X_get 3 3),
  (4, X_invV 4 Y_J_size 0 []),
  (7, X_istore 1 1),
  (8, X_aload 0 1),
  (9, X_get 3 3),
  (12, X_invV 4 Y_J_turnOn 0 []),
  (15, X_aload 0 1),
  (16, X_push (xv_r 49 0) 3),
  (19, X_put x_tR 3 5),
  (22, X_aload 0 1),
  (23, X_invV 3 Y_M_recall 0 []),
  (26, X_aload 0 1),
  (27, X_invV 3 Y_M_finishLast 0 []),
  (30, X_iload 1 1),
  (31, X_iret)]
set_option maxRecDepth 100000 in
theorem k_M_turnOn : x_bok m_M_turnOn b_M_turnOn := by
  unfold b_M_turnOn
  refine x_bok.cons (xs_aload_n d_M_turnOn_0 rfl) ?_
  refine x_bok.cons (xs_get d_M_turnOn_1 xc3 xw3 (by decide) q1_168 (Or.inl rfl)) ?_
  refine x_bok.cons (xs_invV d_M_turnOn_4 xc4 sn_J_size is_J_size ⟨q3_130, q3_131, q3_132, q1_7⟩ (by decide) (by decide) rfl) ?_
  refine x_bok.cons (xs_istore_n d_M_turnOn_7 rfl (by decide)) ?_
  refine x_bok.cons (xs_aload_n d_M_turnOn_8 rfl) ?_
  refine x_bok.cons (xs_get d_M_turnOn_9 xc3 xw3 (by decide) q1_168 (Or.inl rfl)) ?_
  refine x_bok.cons (xs_invV d_M_turnOn_12 xc4 sn_J_turnOn is_J_turnOn ⟨q4_157, q4_150, q4_151, q1_7⟩ (by decide) (by decide) rfl) ?_
  refine x_bok.cons (xs_aload_n d_M_turnOn_15 rfl) ?_
  refine x_bok.cons (xs_gets d_M_turnOn_16 (List.mem_of_getElem? (i := 0) rfl) q1_161 (Or.inl rfl)) ?_
  refine x_bok.cons (xs_put d_M_turnOn_19 xc3 xw3 xt3 xn3 (by decide) q1_172 (Or.inl rfl) rfl rfl x_fitO) ?_
  refine x_bok.cons (xs_aload_n d_M_turnOn_22 rfl) ?_
  refine x_bok.cons (xs_invV d_M_turnOn_23 xc3 sn_M_recall is_M_recall ⟨q4_158, q4_160, (x_sel (x_p2 (List.mem_of_getElem? (i := 6) rfl))), q1_8⟩ (by decide) (by decide) rfl) ?_
  refine x_bok.cons (xs_aload_n d_M_turnOn_26 rfl) ?_
  refine x_bok.cons (xs_invV d_M_turnOn_27 xc3 sn_M_finishLast is_M_finishLast ⟨q4_166, q4_168, (x_sel (x_p2 (List.mem_of_getElem? (i := 7) rfl))), q1_8⟩ (by decide) (by decide) rfl) ?_
  refine x_bok.cons (xs_iload_n d_M_turnOn_30 rfl) ?_
  refine x_bok.cons (xs_iret d_M_turnOn_31 rfl) ?_
  exact x_bok.nil
set_option maxRecDepth 100000 in
theorem mn_M_turnOn : x_bmn b_M_turnOn := by
  unfold b_M_turnOn
  refine x_bmn.cons (xm_aload) ?_
  refine x_bmn.cons (xm_get) ?_
  refine x_bmn.cons (xm_invV ym_J_size) ?_
  refine x_bmn.cons (xm_istore) ?_
  refine x_bmn.cons (xm_aload) ?_
  refine x_bmn.cons (xm_get) ?_
  refine x_bmn.cons (xm_invV ym_J_turnOn) ?_
  refine x_bmn.cons (xm_aload) ?_
  refine x_bmn.cons (xm_push) ?_
  refine x_bmn.cons (xm_put) ?_
  refine x_bmn.cons (xm_aload) ?_
  refine x_bmn.cons (xm_invV ym_M_recall) ?_
  refine x_bmn.cons (xm_aload) ?_
  refine x_bmn.cons (xm_invV ym_M_finishLast) ?_
  refine x_bmn.cons (xm_iload) ?_
  refine x_bmn.cons (xm_iret) ?_
  exact x_bmn.nil
theorem is_M_turnOn : x_Is y_M_turnOn m_M_turnOn := x_is_code q4_156
def Y_M_turnOn : XMeth := x_do 2 b_M_turnOn
theorem sn_M_turnOn : x_Snd y_M_turnOn m_M_turnOn Y_M_turnOn := x_snd_of (by decide) rfl rfl is_M_turnOn k_M_turnOn
theorem ym_M_turnOn : x_Ymn Y_M_turnOn := x_ymn_of mn_M_turnOn
/- CashLink.on(I)I -/
abbrev c_C_on : ByteArray := prog_1_method_12_code
def y_C_on : MethodName := ⟨"CashLink", "on", "(I)I"⟩
theorem d_C_on_0 : decode c_C_on 0 = .ok (.iload_n 1, 1) := by decide +kernel
theorem d_C_on_1 : decode c_C_on 1 = .ok (.iconst 4, 1) := by decide +kernel
theorem d_C_on_2 : decode c_C_on 2 = .ok (.if_icmp .ne 13, 3) := by decide +kernel
theorem d_C_on_5 : decode c_C_on 5 = .ok (.aload_n 0, 1) := by decide +kernel
theorem d_C_on_6 : decode c_C_on 6 = .ok (.getfield 31, 3) := by decide +kernel
theorem d_C_on_9 : decode c_C_on 9 = .ok (.invokevirtual 126, 3) := by decide +kernel
theorem d_C_on_12 : decode c_C_on 12 = .ok (.goto 11, 3) := by decide +kernel
theorem d_C_on_15 : decode c_C_on 15 = .ok (.aload_n 0, 1) := by decide +kernel
theorem d_C_on_16 : decode c_C_on 16 = .ok (.iload_n 1, 1) := by decide +kernel
theorem d_C_on_17 : decode c_C_on 17 = .ok (.invokevirtual 38, 3) := by decide +kernel
theorem d_C_on_20 : decode c_C_on 20 = .ok (.invokevirtual 129, 3) := by decide +kernel
theorem d_C_on_23 : decode c_C_on 23 = .ok (.ireturn, 1) := by decide +kernel
def m_C_on : XM := ("CashLink", c_C_on, 2, (some .int), "on", [], 12, 269)
def b_C_on : XB := [(0, X_iload 1 1),
  (1, X_push (xv_i 4) 1),
  (2, X_icmp (fun x y => ¬ x = y) 15),
  (5, X_aload 0 1),
  (6, X_get 0 1),
  (9, X_invV 2 Y_B_turnOn 0 []),
  (12, X_goto 23),
  (15, X_aload 0 1),
  (16, X_iload 1 1),
  (17, X_invV 0 Y_C_machineAt 1 []),
  (20, X_invV 3 Y_M_turnOn 0 []),
  (23, X_iret)]
set_option maxRecDepth 100000 in
theorem k_C_on : x_bok m_C_on b_C_on := by
  unfold b_C_on
  refine x_bok.cons (xs_iload_n d_C_on_0 rfl) ?_
  refine x_bok.cons (xs_iconst d_C_on_1 (by decide)) ?_
  refine x_bok.cons (xs_icmp_ne d_C_on_2 (by decide)) ?_
  refine x_bok.cons (xs_aload_n d_C_on_5 rfl) ?_
  refine x_bok.cons (xs_get d_C_on_6 xc0 xw0 (by decide) q1_202 (Or.inl rfl)) ?_
  refine x_bok.cons (xs_invV d_C_on_9 xc2 sn_B_turnOn is_B_turnOn ⟨q4_145, q4_146, q4_147, q1_6⟩ (by decide) (by decide) rfl) ?_
  refine x_bok.cons (xs_goto d_C_on_12 (by decide)) ?_
  refine x_bok.cons (xs_aload_n d_C_on_15 rfl) ?_
  refine x_bok.cons (xs_iload_n d_C_on_16 rfl) ?_
  refine x_bok.cons (xs_invV d_C_on_17 xc0 sn_C_machineAt is_C_machineAt ⟨q1_223, q1_225, (x_sel (x_p1 (List.mem_of_getElem? (i := 0) rfl))), q1_1⟩ (by decide) (by decide) rfl) ?_
  refine x_bok.cons (xs_invV d_C_on_20 xc3 sn_M_turnOn is_M_turnOn ⟨q4_153, q4_154, q4_155, q1_8⟩ (by decide) (by decide) rfl) ?_
  refine x_bok.cons (xs_iret d_C_on_23 rfl) ?_
  exact x_bok.nil
set_option maxRecDepth 100000 in
theorem mn_C_on : x_bmn b_C_on := by
  unfold b_C_on
  refine x_bmn.cons (xm_iload) ?_
  refine x_bmn.cons (xm_push) ?_
  refine x_bmn.cons (xm_icmp) ?_
  refine x_bmn.cons (xm_aload) ?_
  refine x_bmn.cons (xm_get) ?_
  refine x_bmn.cons (xm_invV ym_B_turnOn) ?_
  refine x_bmn.cons (xm_goto) ?_
  refine x_bmn.cons (xm_aload) ?_
  refine x_bmn.cons (xm_iload) ?_
  refine x_bmn.cons (xm_invV ym_C_machineAt) ?_
  refine x_bmn.cons (xm_invV ym_M_turnOn) ?_
  refine x_bmn.cons (xm_iret) ?_
  exact x_bmn.nil
theorem is_C_on : x_Is y_C_on m_C_on := x_is_code q4_144
def Y_C_on : XMeth := x_do 2 b_C_on
theorem sn_C_on : x_Snd y_C_on m_C_on Y_C_on := x_snd_of (by decide) rfl rfl is_C_on k_C_on
theorem ym_C_on : x_Ymn Y_C_on := x_ymn_of mn_C_on
/- CashLinkLaw.on(LCashLink;I[J)I -/
abbrev c_L_on : ByteArray := method_13_code
def y_L_on : MethodName := ⟨"CashLinkLaw", "on", "(LCashLink;I[J)I"⟩
theorem d_L_on_0 : decode c_L_on 0 = .ok (.aload_n 2, 1) := by decide +kernel
theorem d_L_on_1 : decode c_L_on 1 = .ok (.iconst 0, 1) := by decide +kernel
theorem d_L_on_2 : decode c_L_on 2 = .ok (.aload_n 0, 1) := by decide +kernel
theorem d_L_on_3 : decode c_L_on 3 = .ok (.iload_n 1, 1) := by decide +kernel
theorem d_L_on_4 : decode c_L_on 4 = .ok (.invokevirtual 56, 3) := by decide +kernel
theorem d_L_on_7 : decode c_L_on 7 = .ok (.i2l, 1) := by decide +kernel
theorem d_L_on_8 : decode c_L_on 8 = .ok (.lastore, 1) := by decide +kernel
theorem d_L_on_9 : decode c_L_on 9 = .ok (.goto 9, 3) := by decide +kernel
theorem d_L_on_12 : decode c_L_on 12 = .ok (.astore_n 3, 1) := by decide +kernel
theorem d_L_on_13 : decode c_L_on 13 = .ok (.iconst 1, 1) := by decide +kernel
theorem d_L_on_14 : decode c_L_on 14 = .ok (.ireturn, 1) := by decide +kernel
theorem d_L_on_15 : decode c_L_on 15 = .ok (.astore_n 3, 1) := by decide +kernel
theorem d_L_on_16 : decode c_L_on 16 = .ok (.iconst 2, 1) := by decide +kernel
theorem d_L_on_17 : decode c_L_on 17 = .ok (.ireturn, 1) := by decide +kernel
theorem d_L_on_18 : decode c_L_on 18 = .ok (.iconst 0, 1) := by decide +kernel
theorem d_L_on_19 : decode c_L_on 19 = .ok (.ireturn, 1) := by decide +kernel
def m_L_on : XM := ("CashLinkLaw", c_L_on, 4, (some .int), "on", [(0, 9, 12, 13), (0, 9, 15, 27)], 13, 290)
theorem h_L_on_4 : x_hok m_L_on 4 [(11, 12), (14, 15)] := by
  intro ci h hc
  by_cases e0 : ci = 11
  · subst e0
    have hh : h = 12 := (Option.some.inj (hc.symm.trans (by rfl : x_catch [(11, 12), (14, 15)] 11 = some 12)))
    subst hh
    refine ⟨"java/lang/IllegalArgumentException", xT11, 0, [], ⟨0, 9, 12, 13⟩, [⟨0, 9, 15, 27⟩], rfl, rfl, rfl, rfl, by decide, q1_217, ?_⟩
    intro z hz
    cases hz
  by_cases e1 : ci = 14
  · subst e1
    have hh : h = 15 := (Option.some.inj (hc.symm.trans (by rfl : x_catch [(11, 12), (14, 15)] 14 = some 15)))
    subst hh
    refine ⟨"java/lang/ArithmeticException", xT14, 0, [⟨0, 9, 12, 13⟩], ⟨0, 9, 15, 27⟩, [], rfl, rfl, rfl, rfl, by decide, q2_109, ?_⟩
    intro z hz
    simp only [List.mem_cons, List.not_mem_nil, or_false] at hz
    rcases hz with rfl
    · exact Or.inr ⟨by decide, "java/lang/IllegalArgumentException", q1_217, x_inN 2 rfl⟩
  exfalso
  simp only [x_catch] at hc
  rw [if_neg (fun q => e0 q.symm)] at hc
  rw [if_neg (fun q => e1 q.symm)] at hc
  cases hc
def b_L_on : XB := [(0, X_aload 2 1),
  (1, X_push (xv_i 0) 1),
  (2, X_aload 0 1),
  (3, X_iload 1 1),
  (4, X_invV 0 Y_C_on 1 [(11, 12), (14, 15)]),
  (7, X_i2l),
  (8, X_last 1),
  (9, X_goto 18),
  (12, X_astore 3 1),
  (13, X_push (xv_i 1) 1),
  (14, X_iret),
  (15, X_astore 3 1),
  (16, X_push (xv_i 2) 1),
  (17, X_iret),
  (18, X_push (xv_i 0) 1),
  (19, X_iret)]
set_option maxRecDepth 100000 in
theorem k_L_on : x_bok m_L_on b_L_on := by
  unfold b_L_on
  refine x_bok.cons (xs_aload_n d_L_on_0 rfl) ?_
  refine x_bok.cons (xs_iconst d_L_on_1 (by decide)) ?_
  refine x_bok.cons (xs_aload_n d_L_on_2 rfl) ?_
  refine x_bok.cons (xs_iload_n d_L_on_3 rfl) ?_
  refine x_bok.cons (xs_invV d_L_on_4 xc0 sn_C_on is_C_on ⟨q4_141, q4_142, q4_143, q1_1⟩ (by decide) (by decide) h_L_on_4) ?_
  refine x_bok.cons (xs_i2l d_L_on_7) ?_
  refine x_bok.cons (xs_last d_L_on_8 rfl) ?_
  refine x_bok.cons (xs_goto d_L_on_9 (by decide)) ?_
  refine x_bok.cons (xs_astore_n d_L_on_12 rfl (by decide)) ?_
  refine x_bok.cons (xs_iconst d_L_on_13 (by decide)) ?_
  refine x_bok.cons (xs_iret d_L_on_14 rfl) ?_
  refine x_bok.cons (xs_astore_n d_L_on_15 rfl (by decide)) ?_
  refine x_bok.cons (xs_iconst d_L_on_16 (by decide)) ?_
  refine x_bok.cons (xs_iret d_L_on_17 rfl) ?_
  refine x_bok.cons (xs_iconst d_L_on_18 (by decide)) ?_
  refine x_bok.cons (xs_iret d_L_on_19 rfl) ?_
  exact x_bok.nil
set_option maxRecDepth 100000 in
theorem mn_L_on : x_bmn b_L_on := by
  unfold b_L_on
  refine x_bmn.cons (xm_aload) ?_
  refine x_bmn.cons (xm_push) ?_
  refine x_bmn.cons (xm_aload) ?_
  refine x_bmn.cons (xm_iload) ?_
  refine x_bmn.cons (xm_invV ym_C_on) ?_
  refine x_bmn.cons (xm_i2l) ?_
  refine x_bmn.cons (xm_last) ?_
  refine x_bmn.cons (xm_goto) ?_
  refine x_bmn.cons (xm_astore) ?_
  refine x_bmn.cons (xm_push) ?_
  refine x_bmn.cons (xm_iret) ?_
  refine x_bmn.cons (xm_astore) ?_
  refine x_bmn.cons (xm_push) ?_
  refine x_bmn.cons (xm_iret) ?_
  refine x_bmn.cons (xm_push) ?_
  refine x_bmn.cons (xm_iret) ?_
  exact x_bmn.nil
theorem is_L_on : x_Is y_L_on m_L_on := x_is_with q4_140
def Y_L_on : XMeth := x_do 4 b_L_on
theorem sn_L_on : x_Snd y_L_on m_L_on Y_L_on := x_snd_of (by decide) rfl rfl is_L_on k_L_on
theorem ym_L_on : x_Ymn Y_L_on := x_ymn_of mn_L_on
/- CashLink$Machine.tell(I)I -/
abbrev c_M_tell : ByteArray := prog_6_method_21_code
def y_M_tell : MethodName := ⟨"CashLink$Machine", "tell", "(I)I"⟩
theorem d_M_tell_0 : decode c_M_tell 0 = .ok (.iload_n 1, 1) := by decide +kernel
theorem d_M_tell_1 : decode c_M_tell 1 = .ok (.iconst 3, 1) := by decide +kernel
theorem d_M_tell_2 : decode c_M_tell 2 = .ok (.if_icmp .ne 11, 3) := by decide +kernel
theorem d_M_tell_5 : decode c_M_tell 5 = .ok (.aload_n 0, 1) := by decide +kernel
theorem d_M_tell_6 : decode c_M_tell 6 = .ok (.getfield 14, 3) := by decide +kernel
theorem d_M_tell_9 : decode c_M_tell 9 = .ok (.invokevirtual 142, 3) := by decide +kernel
theorem d_M_tell_12 : decode c_M_tell 12 = .ok (.ireturn, 1) := by decide +kernel
theorem d_M_tell_13 : decode c_M_tell 13 = .ok (.aload_n 0, 1) := by decide +kernel
theorem d_M_tell_14 : decode c_M_tell 14 = .ok (.getfield 14, 3) := by decide +kernel
theorem d_M_tell_17 : decode c_M_tell 17 = .ok (.invokevirtual 53, 3) := by decide +kernel
theorem d_M_tell_20 : decode c_M_tell 20 = .ok (.ifCond .ne 13, 3) := by decide +kernel
theorem d_M_tell_23 : decode c_M_tell 23 = .ok (.iload_n 1, 1) := by decide +kernel
theorem d_M_tell_24 : decode c_M_tell 24 = .ok (.ifCond .ne 7, 3) := by decide +kernel
theorem d_M_tell_27 : decode c_M_tell 27 = .ok (.iconst 0, 1) := by decide +kernel
theorem d_M_tell_28 : decode c_M_tell 28 = .ok (.goto 4, 3) := by decide +kernel
theorem d_M_tell_31 : decode c_M_tell 31 = .ok (.iconst (-1), 1) := by decide +kernel
theorem d_M_tell_32 : decode c_M_tell 32 = .ok (.ireturn, 1) := by decide +kernel
theorem d_M_tell_33 : decode c_M_tell 33 = .ok (.iload_n 1, 1) := by decide +kernel
theorem d_M_tell_34 : decode c_M_tell 34 = .ok (.ifCond .ne 11, 3) := by decide +kernel
theorem d_M_tell_37 : decode c_M_tell 37 = .ok (.aload_n 0, 1) := by decide +kernel
theorem d_M_tell_38 : decode c_M_tell 38 = .ok (.getfield 31, 3) := by decide +kernel
theorem d_M_tell_41 : decode c_M_tell 41 = .ok (.getfield 226, 3) := by decide +kernel
theorem d_M_tell_44 : decode c_M_tell 44 = .ok (.ireturn, 1) := by decide +kernel
theorem d_M_tell_45 : decode c_M_tell 45 = .ok (.iload_n 1, 1) := by decide +kernel
theorem d_M_tell_46 : decode c_M_tell 46 = .ok (.iconst 1, 1) := by decide +kernel
theorem d_M_tell_47 : decode c_M_tell 47 = .ok (.if_icmp .ne 10, 3) := by decide +kernel
theorem d_M_tell_50 : decode c_M_tell 50 = .ok (.aload_n 0, 1) := by decide +kernel
theorem d_M_tell_51 : decode c_M_tell 51 = .ok (.getfield 96, 3) := by decide +kernel
theorem d_M_tell_54 : decode c_M_tell 54 = .ok (.goto 10, 3) := by decide +kernel
theorem d_M_tell_57 : decode c_M_tell 57 = .ok (.aload_n 0, 1) := by decide +kernel
theorem d_M_tell_58 : decode c_M_tell 58 = .ok (.getfield 37, 3) := by decide +kernel
theorem d_M_tell_61 : decode c_M_tell 61 = .ok (.invokevirtual 79, 3) := by decide +kernel
theorem d_M_tell_64 : decode c_M_tell 64 = .ok (.ireturn, 1) := by decide +kernel
def m_M_tell : XM := ("CashLink$Machine", c_M_tell, 2, (some .int), "tell", [], 2, 40)
def b_M_tell : XB := [(0, X_iload 1 1),
  (1, X_push (xv_i 3) 1),
  (2, X_icmp (fun x y => ¬ x = y) 13),
  (5, X_aload 0 1),
  (6, X_get 3 3),
  (9, X_invV 4 Y_J_size 0 []),
  (12, X_iret),
  (13, X_aload 0 1),
  (14, X_get 3 3),
  (17, X_invV 4 Y_J_isOn 0 []),
  (20, X_if (fun x => ¬ x = 0) 33),
  (23, X_iload 1 1),
  (24, X_if (fun x => ¬ x = 0) 31),
  (27, X_push (xv_i 0) 1),
  (28, X_goto 32),
  (31, X_push (xv_i (-1)) 1),
  (32, X_iret),
  (33, X_iload 1 1),
  (34, X_if (fun x => ¬ x = 0) 45),
  (37, X_aload 0 1),
  (38, X_get 3 5),
  (41, X_getE 20 0),
  (44, X_iret),
  (45, X_iload 1 1),
  (46, X_push (xv_i 1) 1),
  (47, X_icmp (fun x y => ¬ x = y) 57),
  (50, X_aload 0 1),
  (51, X_get 3 8),
  (54, X_goto 64),
  (57, X_aload 0 1),
  (58, X_get 3 10),
  (61, X_invV 8 Y_A_size 0 []),
  (64, X_iret)]
set_option maxRecDepth 100000 in
theorem k_M_tell : x_bok m_M_tell b_M_tell := by
  unfold b_M_tell
  refine x_bok.cons (xs_iload_n d_M_tell_0 rfl) ?_
  refine x_bok.cons (xs_iconst d_M_tell_1 (by decide)) ?_
  refine x_bok.cons (xs_icmp_ne d_M_tell_2 (by decide)) ?_
  refine x_bok.cons (xs_aload_n d_M_tell_5 rfl) ?_
  refine x_bok.cons (xs_get d_M_tell_6 xc3 xw3 (by decide) q1_168 (Or.inl rfl)) ?_
  refine x_bok.cons (xs_invV d_M_tell_9 xc4 sn_J_size is_J_size ⟨q3_130, q3_131, q3_132, q1_7⟩ (by decide) (by decide) rfl) ?_
  refine x_bok.cons (xs_iret d_M_tell_12 rfl) ?_
  refine x_bok.cons (xs_aload_n d_M_tell_13 rfl) ?_
  refine x_bok.cons (xs_get d_M_tell_14 xc3 xw3 (by decide) q1_168 (Or.inl rfl)) ?_
  refine x_bok.cons (xs_invV d_M_tell_17 xc4 sn_J_isOn is_J_isOn ⟨q2_67, q2_68, q2_69, q1_7⟩ (by decide) (by decide) rfl) ?_
  refine x_bok.cons (xs_if_ne d_M_tell_20 (by decide)) ?_
  refine x_bok.cons (xs_iload_n d_M_tell_23 rfl) ?_
  refine x_bok.cons (xs_if_ne d_M_tell_24 (by decide)) ?_
  refine x_bok.cons (xs_iconst d_M_tell_27 (by decide)) ?_
  refine x_bok.cons (xs_goto d_M_tell_28 (by decide)) ?_
  refine x_bok.cons (xs_iconst d_M_tell_31 (by decide)) ?_
  refine x_bok.cons (xs_iret d_M_tell_32 rfl) ?_
  refine x_bok.cons (xs_iload_n d_M_tell_33 rfl) ?_
  refine x_bok.cons (xs_if_ne d_M_tell_34 (by decide)) ?_
  refine x_bok.cons (xs_aload_n d_M_tell_37 rfl) ?_
  refine x_bok.cons (xs_get d_M_tell_38 xc3 xw3 (by decide) q1_172 (Or.inl rfl)) ?_
  refine x_bok.cons (xs_getE d_M_tell_41 rfl q7_22 (Or.inl rfl)) ?_
  refine x_bok.cons (xs_iret d_M_tell_44 rfl) ?_
  refine x_bok.cons (xs_iload_n d_M_tell_45 rfl) ?_
  refine x_bok.cons (xs_iconst d_M_tell_46 (by decide)) ?_
  refine x_bok.cons (xs_icmp_ne d_M_tell_47 (by decide)) ?_
  refine x_bok.cons (xs_aload_n d_M_tell_50 rfl) ?_
  refine x_bok.cons (xs_get d_M_tell_51 xc3 xw3 (by decide) q1_175 (Or.inl rfl)) ?_
  refine x_bok.cons (xs_goto d_M_tell_54 (by decide)) ?_
  refine x_bok.cons (xs_aload_n d_M_tell_57 rfl) ?_
  refine x_bok.cons (xs_get d_M_tell_58 xc3 xw3 (by decide) q1_177 (Or.inl rfl)) ?_
  refine x_bok.cons (xs_invV d_M_tell_61 xc8 sn_A_size is_A_size ⟨q2_125, q2_126, q2_127, q1_5⟩ (by decide) (by decide) rfl) ?_
  refine x_bok.cons (xs_iret d_M_tell_64 rfl) ?_
  exact x_bok.nil
set_option maxRecDepth 100000 in
theorem mn_M_tell : x_bmn b_M_tell := by
  unfold b_M_tell
  refine x_bmn.cons (xm_iload) ?_
  refine x_bmn.cons (xm_push) ?_
  refine x_bmn.cons (xm_icmp) ?_
  refine x_bmn.cons (xm_aload) ?_
  refine x_bmn.cons (xm_get) ?_
  refine x_bmn.cons (xm_invV ym_J_size) ?_
  refine x_bmn.cons (xm_iret) ?_
  refine x_bmn.cons (xm_aload) ?_
  refine x_bmn.cons (xm_get) ?_
  refine x_bmn.cons (xm_invV ym_J_isOn) ?_
  refine x_bmn.cons (xm_if) ?_
  refine x_bmn.cons (xm_iload) ?_
  refine x_bmn.cons (xm_if) ?_
  refine x_bmn.cons (xm_push) ?_
  refine x_bmn.cons (xm_goto) ?_
  refine x_bmn.cons (xm_push) ?_
  refine x_bmn.cons (xm_iret) ?_
  refine x_bmn.cons (xm_iload) ?_
  refine x_bmn.cons (xm_if) ?_
  refine x_bmn.cons (xm_aload) ?_
  refine x_bmn.cons (xm_get) ?_
  refine x_bmn.cons (xm_getE) ?_
  refine x_bmn.cons (xm_iret) ?_
  refine x_bmn.cons (xm_iload) ?_
  refine x_bmn.cons (xm_push) ?_
  refine x_bmn.cons (xm_icmp) ?_
  refine x_bmn.cons (xm_aload) ?_
  refine x_bmn.cons (xm_get) ?_
  refine x_bmn.cons (xm_goto) ?_
  refine x_bmn.cons (xm_aload) ?_
  refine x_bmn.cons (xm_get) ?_
  refine x_bmn.cons (xm_invV ym_A_size) ?_
  refine x_bmn.cons (xm_iret) ?_
  exact x_bmn.nil
theorem is_M_tell : x_Is y_M_tell m_M_tell := x_is_code q4_185
def Y_M_tell : XMeth := x_do 2 b_M_tell
theorem sn_M_tell : x_Snd y_M_tell m_M_tell Y_M_tell := x_snd_of (by decide) rfl rfl is_M_tell k_M_tell
theorem ym_M_tell : x_Ymn Y_M_tell := x_ymn_of mn_M_tell
/- CashLink$Dispenser.tell(I)I -/
abbrev c_D_tell : ByteArray := prog_3_method_7_code
def y_D_tell : MethodName := ⟨"CashLink$Dispenser", "tell", "(I)I"⟩
theorem d_D_tell_0 : decode c_D_tell 0 = .ok (.iload_n 1, 1) := by decide +kernel
theorem d_D_tell_1 : decode c_D_tell 1 = .ok (.iconst 4, 1) := by decide +kernel
theorem d_D_tell_2 : decode c_D_tell 2 = .ok (.if_icmp .lt 18, 3) := by decide +kernel
theorem d_D_tell_5 : decode c_D_tell 5 = .ok (.iload_n 1, 1) := by decide +kernel
theorem d_D_tell_6 : decode c_D_tell 6 = .ok (.bipush 7, 2) := by decide +kernel
theorem d_D_tell_8 : decode c_D_tell 8 = .ok (.if_icmp .gt 12, 3) := by decide +kernel
theorem d_D_tell_11 : decode c_D_tell 11 = .ok (.aload_n 0, 1) := by decide +kernel
theorem d_D_tell_12 : decode c_D_tell 12 = .ok (.getfield 9, 3) := by decide +kernel
theorem d_D_tell_15 : decode c_D_tell 15 = .ok (.iload_n 1, 1) := by decide +kernel
theorem d_D_tell_16 : decode c_D_tell 16 = .ok (.iconst 4, 1) := by decide +kernel
theorem d_D_tell_17 : decode c_D_tell 17 = .ok (.isub, 1) := by decide +kernel
theorem d_D_tell_18 : decode c_D_tell 18 = .ok (.iaload, 1) := by decide +kernel
theorem d_D_tell_19 : decode c_D_tell 19 = .ok (.ireturn, 1) := by decide +kernel
theorem d_D_tell_20 : decode c_D_tell 20 = .ok (.iload_n 1, 1) := by decide +kernel
theorem d_D_tell_21 : decode c_D_tell 21 = .ok (.bipush 8, 2) := by decide +kernel
theorem d_D_tell_23 : decode c_D_tell 23 = .ok (.if_icmp .ne 8, 3) := by decide +kernel
theorem d_D_tell_26 : decode c_D_tell 26 = .ok (.aload_n 0, 1) := by decide +kernel
theorem d_D_tell_27 : decode c_D_tell 27 = .ok (.getfield 29, 3) := by decide +kernel
theorem d_D_tell_30 : decode c_D_tell 30 = .ok (.ireturn, 1) := by decide +kernel
theorem d_D_tell_31 : decode c_D_tell 31 = .ok (.iload_n 1, 1) := by decide +kernel
theorem d_D_tell_32 : decode c_D_tell 32 = .ok (.bipush 9, 2) := by decide +kernel
theorem d_D_tell_34 : decode c_D_tell 34 = .ok (.if_icmp .ne 10, 3) := by decide +kernel
theorem d_D_tell_37 : decode c_D_tell 37 = .ok (.aload_n 0, 1) := by decide +kernel
theorem d_D_tell_38 : decode c_D_tell 38 = .ok (.getfield 38, 3) := by decide +kernel
theorem d_D_tell_41 : decode c_D_tell 41 = .ok (.goto 7, 3) := by decide +kernel
theorem d_D_tell_44 : decode c_D_tell 44 = .ok (.aload_n 0, 1) := by decide +kernel
theorem d_D_tell_45 : decode c_D_tell 45 = .ok (.getfield 41, 3) := by decide +kernel
theorem d_D_tell_48 : decode c_D_tell 48 = .ok (.ireturn, 1) := by decide +kernel
def m_D_tell : XM := ("CashLink$Dispenser", c_D_tell, 2, (some .int), "tell", [], 0, 0)
def b_D_tell : XB := [(0, X_iload 1 1),
  (1, X_push (xv_i 4) 1),
  (2, X_icmp (fun x y => x < y) 20),
  (5, X_iload 1 1),
  (6, X_push (xv_i 7) 2),
  (8, X_icmp (fun x y => y < x) 20),
  (11, X_aload 0 1),
  (12, X_get 5 0),
  (15, X_iload 1 1),
  (16, X_push (xv_i 4) 1),
  (17, X_bin (fun x y => x - y)),
  (18, X_ald 0),
  (19, X_iret),
  (20, X_iload 1 1),
  (21, X_push (xv_i 8) 2),
  (23, X_icmp (fun x y => ¬ x = y) 31),
  (26, X_aload 0 1),
  (27, X_get 5 2),
  (30, X_iret),
  (31, X_iload 1 1),
  (32, X_push (xv_i 9) 2),
  (34, X_icmp (fun x y => ¬ x = y) 44),
  (37, X_aload 0 1),
  (38, X_get 5 3),
  (41, X_goto 48),
  (44, X_aload 0 1),
  (45, X_get 5 4),
  (48, X_iret)]
set_option maxRecDepth 100000 in
theorem k_D_tell : x_bok m_D_tell b_D_tell := by
  unfold b_D_tell
  refine x_bok.cons (xs_iload_n d_D_tell_0 rfl) ?_
  refine x_bok.cons (xs_iconst d_D_tell_1 (by decide)) ?_
  refine x_bok.cons (xs_icmp_lt d_D_tell_2 (by decide)) ?_
  refine x_bok.cons (xs_iload_n d_D_tell_5 rfl) ?_
  refine x_bok.cons (xs_bipush d_D_tell_6 (by decide)) ?_
  refine x_bok.cons (xs_icmp_gt d_D_tell_8 (by decide)) ?_
  refine x_bok.cons (xs_aload_n d_D_tell_11 rfl) ?_
  refine x_bok.cons (xs_get d_D_tell_12 xc5 xw5 (by decide) q1_144 (Or.inl rfl)) ?_
  refine x_bok.cons (xs_iload_n d_D_tell_15 rfl) ?_
  refine x_bok.cons (xs_iconst d_D_tell_16 (by decide)) ?_
  refine x_bok.cons (xs_isub d_D_tell_17) ?_
  refine x_bok.cons (xs_iald d_D_tell_18 rfl) ?_
  refine x_bok.cons (xs_iret d_D_tell_19 rfl) ?_
  refine x_bok.cons (xs_iload_n d_D_tell_20 rfl) ?_
  refine x_bok.cons (xs_bipush d_D_tell_21 (by decide)) ?_
  refine x_bok.cons (xs_icmp_ne d_D_tell_23 (by decide)) ?_
  refine x_bok.cons (xs_aload_n d_D_tell_26 rfl) ?_
  refine x_bok.cons (xs_get d_D_tell_27 xc5 xw5 (by decide) q1_147 (Or.inl rfl)) ?_
  refine x_bok.cons (xs_iret d_D_tell_30 rfl) ?_
  refine x_bok.cons (xs_iload_n d_D_tell_31 rfl) ?_
  refine x_bok.cons (xs_bipush d_D_tell_32 (by decide)) ?_
  refine x_bok.cons (xs_icmp_ne d_D_tell_34 (by decide)) ?_
  refine x_bok.cons (xs_aload_n d_D_tell_37 rfl) ?_
  refine x_bok.cons (xs_get d_D_tell_38 xc5 xw5 (by decide) q1_148 (Or.inl rfl)) ?_
  refine x_bok.cons (xs_goto d_D_tell_41 (by decide)) ?_
  refine x_bok.cons (xs_aload_n d_D_tell_44 rfl) ?_
  refine x_bok.cons (xs_get d_D_tell_45 xc5 xw5 (by decide) q1_149 (Or.inl rfl)) ?_
  refine x_bok.cons (xs_iret d_D_tell_48 rfl) ?_
  exact x_bok.nil
set_option maxRecDepth 100000 in
theorem mn_D_tell : x_bmn b_D_tell := by
  unfold b_D_tell
  refine x_bmn.cons (xm_iload) ?_
  refine x_bmn.cons (xm_push) ?_
  refine x_bmn.cons (xm_icmp) ?_
  refine x_bmn.cons (xm_iload) ?_
  refine x_bmn.cons (xm_push) ?_
  refine x_bmn.cons (xm_icmp) ?_
  refine x_bmn.cons (xm_aload) ?_
  refine x_bmn.cons (xm_get) ?_
  refine x_bmn.cons (xm_iload) ?_
  refine x_bmn.cons (xm_push) ?_
  refine x_bmn.cons (xm_bin) ?_
  refine x_bmn.cons (xm_ald) ?_
  refine x_bmn.cons (xm_iret) ?_
  refine x_bmn.cons (xm_iload) ?_
  refine x_bmn.cons (xm_push) ?_
  refine x_bmn.cons (xm_icmp) ?_
  refine x_bmn.cons (xm_aload) ?_
  refine x_bmn.cons (xm_get) ?_
  refine x_bmn.cons (xm_iret) ?_
  refine x_bmn.cons (xm_iload) ?_
  refine x_bmn.cons (xm_push) ?_
  refine x_bmn.cons (xm_icmp) ?_
  refine x_bmn.cons (xm_aload) ?_
  refine x_bmn.cons (xm_get) ?_
  refine x_bmn.cons (xm_goto) ?_
  refine x_bmn.cons (xm_aload) ?_
  refine x_bmn.cons (xm_get) ?_
  refine x_bmn.cons (xm_iret) ?_
  exact x_bmn.nil
theorem is_D_tell : x_Is y_D_tell m_D_tell := x_is_code q4_189
def Y_D_tell : XMeth := x_do 2 b_D_tell
theorem sn_D_tell : x_Snd y_D_tell m_D_tell Y_D_tell := x_snd_of (by decide) rfl rfl is_D_tell k_D_tell
theorem ym_D_tell : x_Ymn Y_D_tell := x_ymn_of mn_D_tell
/- CashLink.told(II)I -/
abbrev c_C_told : ByteArray := prog_1_method_13_code
def y_C_told : MethodName := ⟨"CashLink", "told", "(II)I"⟩
theorem d_C_told_0 : decode c_C_told 0 = .ok (.aload_n 0, 1) := by decide +kernel
theorem d_C_told_1 : decode c_C_told 1 = .ok (.iload_n 1, 1) := by decide +kernel
theorem d_C_told_2 : decode c_C_told 2 = .ok (.invokevirtual 38, 3) := by decide +kernel
theorem d_C_told_5 : decode c_C_told 5 = .ok (.astore_n 3, 1) := by decide +kernel
theorem d_C_told_6 : decode c_C_told 6 = .ok (.iload_n 2, 1) := by decide +kernel
theorem d_C_told_7 : decode c_C_told 7 = .ok (.ifCond .lt 13, 3) := by decide +kernel
theorem d_C_told_10 : decode c_C_told 10 = .ok (.iload_n 2, 1) := by decide +kernel
theorem d_C_told_11 : decode c_C_told 11 = .ok (.bipush 10, 2) := by decide +kernel
theorem d_C_told_13 : decode c_C_told 13 = .ok (.if_icmp .gt 7, 3) := by decide +kernel
theorem d_C_told_16 : decode c_C_told 16 = .ok (.iconst 1, 1) := by decide +kernel
theorem d_C_told_17 : decode c_C_told 17 = .ok (.goto 4, 3) := by decide +kernel
theorem d_C_told_20 : decode c_C_told 20 = .ok (.iconst 0, 1) := by decide +kernel
theorem d_C_told_21 : decode c_C_told 21 = .ok (.invokestatic 46, 3) := by decide +kernel
theorem d_C_told_24 : decode c_C_told 24 = .ok (.iload_n 2, 1) := by decide +kernel
theorem d_C_told_25 : decode c_C_told 25 = .ok (.iconst 3, 1) := by decide +kernel
theorem d_C_told_26 : decode c_C_told 26 = .ok (.if_icmp .gt 11, 3) := by decide +kernel
theorem d_C_told_29 : decode c_C_told 29 = .ok (.aload_n 3, 1) := by decide +kernel
theorem d_C_told_30 : decode c_C_told 30 = .ok (.iload_n 2, 1) := by decide +kernel
theorem d_C_told_31 : decode c_C_told 31 = .ok (.invokevirtual 130, 3) := by decide +kernel
theorem d_C_told_34 : decode c_C_told 34 = .ok (.goto 11, 3) := by decide +kernel
theorem d_C_told_37 : decode c_C_told 37 = .ok (.aload_n 3, 1) := by decide +kernel
theorem d_C_told_38 : decode c_C_told 38 = .ok (.getfield 100, 3) := by decide +kernel
theorem d_C_told_41 : decode c_C_told 41 = .ok (.iload_n 2, 1) := by decide +kernel
theorem d_C_told_42 : decode c_C_told 42 = .ok (.invokevirtual 133, 3) := by decide +kernel
theorem d_C_told_45 : decode c_C_told 45 = .ok (.ireturn, 1) := by decide +kernel
def m_C_told : XM := ("CashLink", c_C_told, 4, (some .int), "told", [], 8, 131)
def b_C_told : XB := [(0, X_aload 0 1),
  (1, X_iload 1 1),
  (2, X_invV 0 Y_C_machineAt 1 []),
  (5, X_astore 3 1),
  (6, X_iload 2 1),
  (7, X_if (fun x => x < 0) 20),
  (10, X_iload 2 1),
  (11, X_push (xv_i 10) 2),
  (13, X_icmp (fun x y => y < x) 20),
  (16, X_push (xv_i 1) 1),
  (17, X_goto 21),
  (20, X_push (xv_i 0) 1),
  (21, X_invS Y_C_allow 1 []),
  (24, X_iload 2 1),
  (25, X_push (xv_i 3) 1),
  (26, X_icmp (fun x y => y < x) 37),
  (29, X_aload 3 1),
  (30, X_iload 2 1),
  (31, X_invV 3 Y_M_tell 1 []),
  (34, X_goto 45),
  (37, X_aload 3 1),
  (38, X_get 3 4),
  (41, X_iload 2 1),
  (42, X_invV 5 Y_D_tell 1 []),
  (45, X_iret)]
set_option maxRecDepth 100000 in
theorem k_C_told : x_bok m_C_told b_C_told := by
  unfold b_C_told
  refine x_bok.cons (xs_aload_n d_C_told_0 rfl) ?_
  refine x_bok.cons (xs_iload_n d_C_told_1 rfl) ?_
  refine x_bok.cons (xs_invV d_C_told_2 xc0 sn_C_machineAt is_C_machineAt ⟨q1_223, q1_225, (x_sel (x_p1 (List.mem_of_getElem? (i := 0) rfl))), q1_1⟩ (by decide) (by decide) rfl) ?_
  refine x_bok.cons (xs_astore_n d_C_told_5 rfl (by decide)) ?_
  refine x_bok.cons (xs_iload_n d_C_told_6 rfl) ?_
  refine x_bok.cons (xs_if_lt d_C_told_7 (by decide)) ?_
  refine x_bok.cons (xs_iload_n d_C_told_10 rfl) ?_
  refine x_bok.cons (xs_bipush d_C_told_11 (by decide)) ?_
  refine x_bok.cons (xs_icmp_gt d_C_told_13 (by decide)) ?_
  refine x_bok.cons (xs_iconst d_C_told_16 (by decide)) ?_
  refine x_bok.cons (xs_goto d_C_told_17 (by decide)) ?_
  refine x_bok.cons (xs_iconst d_C_told_20 (by decide)) ?_
  refine x_bok.cons (xs_invS d_C_told_21 sn_C_allow is_C_allow ⟨q1_227, q1_228, q1_1⟩ (by decide) (by decide) rfl) ?_
  refine x_bok.cons (xs_iload_n d_C_told_24 rfl) ?_
  refine x_bok.cons (xs_iconst d_C_told_25 (by decide)) ?_
  refine x_bok.cons (xs_icmp_gt d_C_told_26 (by decide)) ?_
  refine x_bok.cons (xs_aload_n d_C_told_29 rfl) ?_
  refine x_bok.cons (xs_iload_n d_C_told_30 rfl) ?_
  refine x_bok.cons (xs_invV d_C_told_31 xc3 sn_M_tell is_M_tell ⟨q4_182, q4_183, q4_184, q1_8⟩ (by decide) (by decide) rfl) ?_
  refine x_bok.cons (xs_goto d_C_told_34 (by decide)) ?_
  refine x_bok.cons (xs_aload_n d_C_told_37 rfl) ?_
  refine x_bok.cons (xs_get d_C_told_38 xc3 xw3 (by decide) q1_171 (Or.inl rfl)) ?_
  refine x_bok.cons (xs_iload_n d_C_told_41 rfl) ?_
  refine x_bok.cons (xs_invV d_C_told_42 xc5 sn_D_tell is_D_tell ⟨q4_186, q4_187, q4_188, q1_9⟩ (by decide) (by decide) rfl) ?_
  refine x_bok.cons (xs_iret d_C_told_45 rfl) ?_
  exact x_bok.nil
set_option maxRecDepth 100000 in
theorem mn_C_told : x_bmn b_C_told := by
  unfold b_C_told
  refine x_bmn.cons (xm_aload) ?_
  refine x_bmn.cons (xm_iload) ?_
  refine x_bmn.cons (xm_invV ym_C_machineAt) ?_
  refine x_bmn.cons (xm_astore) ?_
  refine x_bmn.cons (xm_iload) ?_
  refine x_bmn.cons (xm_if) ?_
  refine x_bmn.cons (xm_iload) ?_
  refine x_bmn.cons (xm_push) ?_
  refine x_bmn.cons (xm_icmp) ?_
  refine x_bmn.cons (xm_push) ?_
  refine x_bmn.cons (xm_goto) ?_
  refine x_bmn.cons (xm_push) ?_
  refine x_bmn.cons (xm_invS ym_C_allow) ?_
  refine x_bmn.cons (xm_iload) ?_
  refine x_bmn.cons (xm_push) ?_
  refine x_bmn.cons (xm_icmp) ?_
  refine x_bmn.cons (xm_aload) ?_
  refine x_bmn.cons (xm_iload) ?_
  refine x_bmn.cons (xm_invV ym_M_tell) ?_
  refine x_bmn.cons (xm_goto) ?_
  refine x_bmn.cons (xm_aload) ?_
  refine x_bmn.cons (xm_get) ?_
  refine x_bmn.cons (xm_iload) ?_
  refine x_bmn.cons (xm_invV ym_D_tell) ?_
  refine x_bmn.cons (xm_iret) ?_
  exact x_bmn.nil
theorem is_C_told : x_Is y_C_told m_C_told := x_is_code q4_181
def Y_C_told : XMeth := x_do 4 b_C_told
theorem sn_C_told : x_Snd y_C_told m_C_told Y_C_told := x_snd_of (by decide) rfl rfl is_C_told k_C_told
theorem ym_C_told : x_Ymn Y_C_told := x_ymn_of mn_C_told
/- CashLinkLaw.told(LCashLink;II[J)I -/
abbrev c_L_told : ByteArray := method_14_code
def y_L_told : MethodName := ⟨"CashLinkLaw", "told", "(LCashLink;II[J)I"⟩
theorem d_L_told_0 : decode c_L_told 0 = .ok (.aload_n 3, 1) := by decide +kernel
theorem d_L_told_1 : decode c_L_told 1 = .ok (.iconst 0, 1) := by decide +kernel
theorem d_L_told_2 : decode c_L_told 2 = .ok (.aload_n 0, 1) := by decide +kernel
theorem d_L_told_3 : decode c_L_told 3 = .ok (.iload_n 1, 1) := by decide +kernel
theorem d_L_told_4 : decode c_L_told 4 = .ok (.iload_n 2, 1) := by decide +kernel
theorem d_L_told_5 : decode c_L_told 5 = .ok (.invokevirtual 59, 3) := by decide +kernel
theorem d_L_told_8 : decode c_L_told 8 = .ok (.i2l, 1) := by decide +kernel
theorem d_L_told_9 : decode c_L_told 9 = .ok (.lastore, 1) := by decide +kernel
theorem d_L_told_10 : decode c_L_told 10 = .ok (.goto 7, 3) := by decide +kernel
theorem d_L_told_13 : decode c_L_told 13 = .ok (.astore 4, 2) := by decide +kernel
theorem d_L_told_15 : decode c_L_told 15 = .ok (.iconst 1, 1) := by decide +kernel
theorem d_L_told_16 : decode c_L_told 16 = .ok (.ireturn, 1) := by decide +kernel
theorem d_L_told_17 : decode c_L_told 17 = .ok (.iconst 0, 1) := by decide +kernel
theorem d_L_told_18 : decode c_L_told 18 = .ok (.ireturn, 1) := by decide +kernel
def m_L_told : XM := ("CashLinkLaw", c_L_told, 5, (some .int), "told", [(0, 10, 13, 13)], 9, 154)
theorem h_L_told_5 : x_hok m_L_told 5 [(11, 13)] := by
  intro ci h hc
  by_cases e0 : ci = 11
  · subst e0
    have hh : h = 13 := (Option.some.inj (hc.symm.trans (by rfl : x_catch [(11, 13)] 11 = some 13)))
    subst hh
    refine ⟨"java/lang/IllegalArgumentException", xT11, 0, [], ⟨0, 10, 13, 13⟩, [], rfl, rfl, rfl, rfl, by decide, q1_217, ?_⟩
    intro z hz
    cases hz
  exfalso
  simp only [x_catch] at hc
  rw [if_neg (fun q => e0 q.symm)] at hc
  cases hc
def b_L_told : XB := [(0, X_aload 3 1),
  (1, X_push (xv_i 0) 1),
  (2, X_aload 0 1),
  (3, X_iload 1 1),
  (4, X_iload 2 1),
  (5, X_invV 0 Y_C_told 2 [(11, 13)]),
  (8, X_i2l),
  (9, X_last 1),
  (10, X_goto 17),
  (13, X_astore 4 2),
  (15, X_push (xv_i 1) 1),
  (16, X_iret),
  (17, X_push (xv_i 0) 1),
  (18, X_iret)]
set_option maxRecDepth 100000 in
theorem k_L_told : x_bok m_L_told b_L_told := by
  unfold b_L_told
  refine x_bok.cons (xs_aload_n d_L_told_0 rfl) ?_
  refine x_bok.cons (xs_iconst d_L_told_1 (by decide)) ?_
  refine x_bok.cons (xs_aload_n d_L_told_2 rfl) ?_
  refine x_bok.cons (xs_iload_n d_L_told_3 rfl) ?_
  refine x_bok.cons (xs_iload_n d_L_told_4 rfl) ?_
  refine x_bok.cons (xs_invV d_L_told_5 xc0 sn_C_told is_C_told ⟨q4_178, q4_179, q4_180, q1_1⟩ (by decide) (by decide) h_L_told_5) ?_
  refine x_bok.cons (xs_i2l d_L_told_8) ?_
  refine x_bok.cons (xs_last d_L_told_9 rfl) ?_
  refine x_bok.cons (xs_goto d_L_told_10 (by decide)) ?_
  refine x_bok.cons (xs_astore d_L_told_13 (by decide)) ?_
  refine x_bok.cons (xs_iconst d_L_told_15 (by decide)) ?_
  refine x_bok.cons (xs_iret d_L_told_16 rfl) ?_
  refine x_bok.cons (xs_iconst d_L_told_17 (by decide)) ?_
  refine x_bok.cons (xs_iret d_L_told_18 rfl) ?_
  exact x_bok.nil
set_option maxRecDepth 100000 in
theorem mn_L_told : x_bmn b_L_told := by
  unfold b_L_told
  refine x_bmn.cons (xm_aload) ?_
  refine x_bmn.cons (xm_push) ?_
  refine x_bmn.cons (xm_aload) ?_
  refine x_bmn.cons (xm_iload) ?_
  refine x_bmn.cons (xm_iload) ?_
  refine x_bmn.cons (xm_invV ym_C_told) ?_
  refine x_bmn.cons (xm_i2l) ?_
  refine x_bmn.cons (xm_last) ?_
  refine x_bmn.cons (xm_goto) ?_
  refine x_bmn.cons (xm_astore) ?_
  refine x_bmn.cons (xm_push) ?_
  refine x_bmn.cons (xm_iret) ?_
  refine x_bmn.cons (xm_push) ?_
  refine x_bmn.cons (xm_iret) ?_
  exact x_bmn.nil
theorem is_L_told : x_Is y_L_told m_L_told := x_is_with q4_177
def Y_L_told : XMeth := x_do 5 b_L_told
theorem sn_L_told : x_Snd y_L_told m_L_told Y_L_told := x_snd_of (by decide) rfl rfl is_L_told k_L_told
theorem ym_L_told : x_Ymn Y_L_told := x_ymn_of mn_L_told
/- CashLink.balance(I)I -/
abbrev c_C_balance : ByteArray := prog_1_method_14_code
def y_C_balance : MethodName := ⟨"CashLink", "balance", "(I)I"⟩
theorem d_C_balance_0 : decode c_C_balance 0 = .ok (.iload_n 1, 1) := by decide +kernel
theorem d_C_balance_1 : decode c_C_balance 1 = .ok (.invokestatic 42, 3) := by decide +kernel
theorem d_C_balance_4 : decode c_C_balance 4 = .ok (.invokestatic 46, 3) := by decide +kernel
theorem d_C_balance_7 : decode c_C_balance 7 = .ok (.aload_n 0, 1) := by decide +kernel
theorem d_C_balance_8 : decode c_C_balance 8 = .ok (.getfield 31, 3) := by decide +kernel
theorem d_C_balance_11 : decode c_C_balance 11 = .ok (.iload_n 1, 1) := by decide +kernel
theorem d_C_balance_12 : decode c_C_balance 12 = .ok (.invokevirtual 134, 3) := by decide +kernel
theorem d_C_balance_15 : decode c_C_balance 15 = .ok (.ireturn, 1) := by decide +kernel
def m_C_balance : XM := ("CashLink", c_C_balance, 2, (some .int), "balance", [], 7, 110)
def b_C_balance : XB := [(0, X_iload 1 1),
  (1, X_invS Y_C_isAccount 1 []),
  (4, X_invS Y_C_allow 1 []),
  (7, X_aload 0 1),
  (8, X_get 0 1),
  (11, X_iload 1 1),
  (12, X_invV 2 Y_B_balanceOf 1 []),
  (15, X_iret)]
set_option maxRecDepth 100000 in
theorem k_C_balance : x_bok m_C_balance b_C_balance := by
  unfold b_C_balance
  refine x_bok.cons (xs_iload_n d_C_balance_0 rfl) ?_
  refine x_bok.cons (xs_invS d_C_balance_1 sn_C_isAccount is_C_isAccount ⟨q2_60, q2_61, q1_1⟩ (by decide) (by decide) rfl) ?_
  refine x_bok.cons (xs_invS d_C_balance_4 sn_C_allow is_C_allow ⟨q1_227, q1_228, q1_1⟩ (by decide) (by decide) rfl) ?_
  refine x_bok.cons (xs_aload_n d_C_balance_7 rfl) ?_
  refine x_bok.cons (xs_get d_C_balance_8 xc0 xw0 (by decide) q1_202 (Or.inl rfl)) ?_
  refine x_bok.cons (xs_iload_n d_C_balance_11 rfl) ?_
  refine x_bok.cons (xs_invV d_C_balance_12 xc2 sn_B_balanceOf is_B_balanceOf ⟨q4_197, q3_233, q3_234, q1_6⟩ (by decide) (by decide) rfl) ?_
  refine x_bok.cons (xs_iret d_C_balance_15 rfl) ?_
  exact x_bok.nil
set_option maxRecDepth 100000 in
theorem mn_C_balance : x_bmn b_C_balance := by
  unfold b_C_balance
  refine x_bmn.cons (xm_iload) ?_
  refine x_bmn.cons (xm_invS ym_C_isAccount) ?_
  refine x_bmn.cons (xm_invS ym_C_allow) ?_
  refine x_bmn.cons (xm_aload) ?_
  refine x_bmn.cons (xm_get) ?_
  refine x_bmn.cons (xm_iload) ?_
  refine x_bmn.cons (xm_invV ym_B_balanceOf) ?_
  refine x_bmn.cons (xm_iret) ?_
  exact x_bmn.nil
theorem is_C_balance : x_Is y_C_balance m_C_balance := x_is_code q4_196
def Y_C_balance : XMeth := x_do 2 b_C_balance
theorem sn_C_balance : x_Snd y_C_balance m_C_balance Y_C_balance := x_snd_of (by decide) rfl rfl is_C_balance k_C_balance
theorem ym_C_balance : x_Ymn Y_C_balance := x_ymn_of mn_C_balance
/- CashLinkLaw.balance(LCashLink;I[J)I -/
abbrev c_L_balance : ByteArray := method_15_code
def y_L_balance : MethodName := ⟨"CashLinkLaw", "balance", "(LCashLink;I[J)I"⟩
theorem d_L_balance_0 : decode c_L_balance 0 = .ok (.aload_n 2, 1) := by decide +kernel
theorem d_L_balance_1 : decode c_L_balance 1 = .ok (.iconst 0, 1) := by decide +kernel
theorem d_L_balance_2 : decode c_L_balance 2 = .ok (.aload_n 0, 1) := by decide +kernel
theorem d_L_balance_3 : decode c_L_balance 3 = .ok (.iload_n 1, 1) := by decide +kernel
theorem d_L_balance_4 : decode c_L_balance 4 = .ok (.invokevirtual 62, 3) := by decide +kernel
theorem d_L_balance_7 : decode c_L_balance 7 = .ok (.i2l, 1) := by decide +kernel
theorem d_L_balance_8 : decode c_L_balance 8 = .ok (.lastore, 1) := by decide +kernel
theorem d_L_balance_9 : decode c_L_balance 9 = .ok (.goto 6, 3) := by decide +kernel
theorem d_L_balance_12 : decode c_L_balance 12 = .ok (.astore_n 3, 1) := by decide +kernel
theorem d_L_balance_13 : decode c_L_balance 13 = .ok (.iconst 1, 1) := by decide +kernel
theorem d_L_balance_14 : decode c_L_balance 14 = .ok (.ireturn, 1) := by decide +kernel
theorem d_L_balance_15 : decode c_L_balance 15 = .ok (.iconst 0, 1) := by decide +kernel
theorem d_L_balance_16 : decode c_L_balance 16 = .ok (.ireturn, 1) := by decide +kernel
def m_L_balance : XM := ("CashLinkLaw", c_L_balance, 4, (some .int), "balance", [(0, 9, 12, 13)], 8, 131)
theorem h_L_balance_4 : x_hok m_L_balance 4 [(11, 12)] := by
  intro ci h hc
  by_cases e0 : ci = 11
  · subst e0
    have hh : h = 12 := (Option.some.inj (hc.symm.trans (by rfl : x_catch [(11, 12)] 11 = some 12)))
    subst hh
    refine ⟨"java/lang/IllegalArgumentException", xT11, 0, [], ⟨0, 9, 12, 13⟩, [], rfl, rfl, rfl, rfl, by decide, q1_217, ?_⟩
    intro z hz
    cases hz
  exfalso
  simp only [x_catch] at hc
  rw [if_neg (fun q => e0 q.symm)] at hc
  cases hc
def b_L_balance : XB := [(0, X_aload 2 1),
  (1, X_push (xv_i 0) 1),
  (2, X_aload 0 1),
  (3, X_iload 1 1),
  (4, X_invV 0 Y_C_balance 1 [(11, 12)]),
  (7, X_i2l),
  (8, X_last 1),
  (9, X_goto 15),
  (12, X_astore 3 1),
  (13, X_push (xv_i 1) 1),
  (14, X_iret),
  (15, X_push (xv_i 0) 1),
  (16, X_iret)]
set_option maxRecDepth 100000 in
theorem k_L_balance : x_bok m_L_balance b_L_balance := by
  unfold b_L_balance
  refine x_bok.cons (xs_aload_n d_L_balance_0 rfl) ?_
  refine x_bok.cons (xs_iconst d_L_balance_1 (by decide)) ?_
  refine x_bok.cons (xs_aload_n d_L_balance_2 rfl) ?_
  refine x_bok.cons (xs_iload_n d_L_balance_3 rfl) ?_
  refine x_bok.cons (xs_invV d_L_balance_4 xc0 sn_C_balance is_C_balance ⟨q4_193, q4_194, q4_195, q1_1⟩ (by decide) (by decide) h_L_balance_4) ?_
  refine x_bok.cons (xs_i2l d_L_balance_7) ?_
  refine x_bok.cons (xs_last d_L_balance_8 rfl) ?_
  refine x_bok.cons (xs_goto d_L_balance_9 (by decide)) ?_
  refine x_bok.cons (xs_astore_n d_L_balance_12 rfl (by decide)) ?_
  refine x_bok.cons (xs_iconst d_L_balance_13 (by decide)) ?_
  refine x_bok.cons (xs_iret d_L_balance_14 rfl) ?_
  refine x_bok.cons (xs_iconst d_L_balance_15 (by decide)) ?_
  refine x_bok.cons (xs_iret d_L_balance_16 rfl) ?_
  exact x_bok.nil
set_option maxRecDepth 100000 in
theorem mn_L_balance : x_bmn b_L_balance := by
  unfold b_L_balance
  refine x_bmn.cons (xm_aload) ?_
  refine x_bmn.cons (xm_push) ?_
  refine x_bmn.cons (xm_aload) ?_
  refine x_bmn.cons (xm_iload) ?_
  refine x_bmn.cons (xm_invV ym_C_balance) ?_
  refine x_bmn.cons (xm_i2l) ?_
  refine x_bmn.cons (xm_last) ?_
  refine x_bmn.cons (xm_goto) ?_
  refine x_bmn.cons (xm_astore) ?_
  refine x_bmn.cons (xm_push) ?_
  refine x_bmn.cons (xm_iret) ?_
  refine x_bmn.cons (xm_push) ?_
  refine x_bmn.cons (xm_iret) ?_
  exact x_bmn.nil
theorem is_L_balance : x_Is y_L_balance m_L_balance := x_is_with q4_192
def Y_L_balance : XMeth := x_do 4 b_L_balance
theorem sn_L_balance : x_Snd y_L_balance m_L_balance Y_L_balance := x_snd_of (by decide) rfl rfl is_L_balance k_L_balance
theorem ym_L_balance : x_Ymn Y_L_balance := x_ymn_of mn_L_balance
/- CashLink.taken(I)I -/
abbrev c_C_taken : ByteArray := prog_1_method_15_code
def y_C_taken : MethodName := ⟨"CashLink", "taken", "(I)I"⟩
theorem d_C_taken_0 : decode c_C_taken 0 = .ok (.iload_n 1, 1) := by decide +kernel
theorem d_C_taken_1 : decode c_C_taken 1 = .ok (.invokestatic 42, 3) := by decide +kernel
theorem d_C_taken_4 : decode c_C_taken 4 = .ok (.invokestatic 46, 3) := by decide +kernel
theorem d_C_taken_7 : decode c_C_taken 7 = .ok (.aload_n 0, 1) := by decide +kernel
theorem d_C_taken_8 : decode c_C_taken 8 = .ok (.getfield 22, 3) := by decide +kernel
theorem d_C_taken_11 : decode c_C_taken 11 = .ok (.iload_n 1, 1) := by decide +kernel
theorem d_C_taken_12 : decode c_C_taken 12 = .ok (.iaload, 1) := by decide +kernel
theorem d_C_taken_13 : decode c_C_taken 13 = .ok (.ireturn, 1) := by decide +kernel
def m_C_taken : XM := ("CashLink", c_C_taken, 2, (some .int), "taken", [], 7, 110)
def b_C_taken : XB := [(0, X_iload 1 1),
  (1, X_invS Y_C_isAccount 1 []),
  (4, X_invS Y_C_allow 1 []),
  (7, X_aload 0 1),
  (8, X_get 0 3),
  (11, X_iload 1 1),
  (12, X_ald 0),
  (13, X_iret)]
set_option maxRecDepth 100000 in
theorem k_C_taken : x_bok m_C_taken b_C_taken := by
  unfold b_C_taken
  refine x_bok.cons (xs_iload_n d_C_taken_0 rfl) ?_
  refine x_bok.cons (xs_invS d_C_taken_1 sn_C_isAccount is_C_isAccount ⟨q2_60, q2_61, q1_1⟩ (by decide) (by decide) rfl) ?_
  refine x_bok.cons (xs_invS d_C_taken_4 sn_C_allow is_C_allow ⟨q1_227, q1_228, q1_1⟩ (by decide) (by decide) rfl) ?_
  refine x_bok.cons (xs_aload_n d_C_taken_7 rfl) ?_
  refine x_bok.cons (xs_get d_C_taken_8 xc0 xw0 (by decide) q1_204 (Or.inl rfl)) ?_
  refine x_bok.cons (xs_iload_n d_C_taken_11 rfl) ?_
  refine x_bok.cons (xs_iald d_C_taken_12 rfl) ?_
  refine x_bok.cons (xs_iret d_C_taken_13 rfl) ?_
  exact x_bok.nil
set_option maxRecDepth 100000 in
theorem mn_C_taken : x_bmn b_C_taken := by
  unfold b_C_taken
  refine x_bmn.cons (xm_iload) ?_
  refine x_bmn.cons (xm_invS ym_C_isAccount) ?_
  refine x_bmn.cons (xm_invS ym_C_allow) ?_
  refine x_bmn.cons (xm_aload) ?_
  refine x_bmn.cons (xm_get) ?_
  refine x_bmn.cons (xm_iload) ?_
  refine x_bmn.cons (xm_ald) ?_
  refine x_bmn.cons (xm_iret) ?_
  exact x_bmn.nil
theorem is_C_taken : x_Is y_C_taken m_C_taken := x_is_code q4_204
def Y_C_taken : XMeth := x_do 2 b_C_taken
theorem sn_C_taken : x_Snd y_C_taken m_C_taken Y_C_taken := x_snd_of (by decide) rfl rfl is_C_taken k_C_taken
theorem ym_C_taken : x_Ymn Y_C_taken := x_ymn_of mn_C_taken
/- CashLinkLaw.taken(LCashLink;I[J)I -/
abbrev c_L_taken : ByteArray := method_16_code
def y_L_taken : MethodName := ⟨"CashLinkLaw", "taken", "(LCashLink;I[J)I"⟩
theorem d_L_taken_0 : decode c_L_taken 0 = .ok (.aload_n 2, 1) := by decide +kernel
theorem d_L_taken_1 : decode c_L_taken 1 = .ok (.iconst 0, 1) := by decide +kernel
theorem d_L_taken_2 : decode c_L_taken 2 = .ok (.aload_n 0, 1) := by decide +kernel
theorem d_L_taken_3 : decode c_L_taken 3 = .ok (.iload_n 1, 1) := by decide +kernel
theorem d_L_taken_4 : decode c_L_taken 4 = .ok (.invokevirtual 65, 3) := by decide +kernel
theorem d_L_taken_7 : decode c_L_taken 7 = .ok (.i2l, 1) := by decide +kernel
theorem d_L_taken_8 : decode c_L_taken 8 = .ok (.lastore, 1) := by decide +kernel
theorem d_L_taken_9 : decode c_L_taken 9 = .ok (.goto 6, 3) := by decide +kernel
theorem d_L_taken_12 : decode c_L_taken 12 = .ok (.astore_n 3, 1) := by decide +kernel
theorem d_L_taken_13 : decode c_L_taken 13 = .ok (.iconst 1, 1) := by decide +kernel
theorem d_L_taken_14 : decode c_L_taken 14 = .ok (.ireturn, 1) := by decide +kernel
theorem d_L_taken_15 : decode c_L_taken 15 = .ok (.iconst 0, 1) := by decide +kernel
theorem d_L_taken_16 : decode c_L_taken 16 = .ok (.ireturn, 1) := by decide +kernel
def m_L_taken : XM := ("CashLinkLaw", c_L_taken, 4, (some .int), "taken", [(0, 9, 12, 13)], 8, 131)
theorem h_L_taken_4 : x_hok m_L_taken 4 [(11, 12)] := by
  intro ci h hc
  by_cases e0 : ci = 11
  · subst e0
    have hh : h = 12 := (Option.some.inj (hc.symm.trans (by rfl : x_catch [(11, 12)] 11 = some 12)))
    subst hh
    refine ⟨"java/lang/IllegalArgumentException", xT11, 0, [], ⟨0, 9, 12, 13⟩, [], rfl, rfl, rfl, rfl, by decide, q1_217, ?_⟩
    intro z hz
    cases hz
  exfalso
  simp only [x_catch] at hc
  rw [if_neg (fun q => e0 q.symm)] at hc
  cases hc
def b_L_taken : XB := [(0, X_aload 2 1),
  (1, X_push (xv_i 0) 1),
  (2, X_aload 0 1),
  (3, X_iload 1 1),
  (4, X_invV 0 Y_C_taken 1 [(11, 12)]),
  (7, X_i2l),
  (8, X_last 1),
  (9, X_goto 15),
  (12, X_astore 3 1),
  (13, X_push (xv_i 1) 1),
  (14, X_iret),
  (15, X_push (xv_i 0) 1),
  (16, X_iret)]
set_option maxRecDepth 100000 in
theorem k_L_taken : x_bok m_L_taken b_L_taken := by
  unfold b_L_taken
  refine x_bok.cons (xs_aload_n d_L_taken_0 rfl) ?_
  refine x_bok.cons (xs_iconst d_L_taken_1 (by decide)) ?_
  refine x_bok.cons (xs_aload_n d_L_taken_2 rfl) ?_
  refine x_bok.cons (xs_iload_n d_L_taken_3 rfl) ?_
  refine x_bok.cons (xs_invV d_L_taken_4 xc0 sn_C_taken is_C_taken ⟨q4_201, q4_202, q4_203, q1_1⟩ (by decide) (by decide) h_L_taken_4) ?_
  refine x_bok.cons (xs_i2l d_L_taken_7) ?_
  refine x_bok.cons (xs_last d_L_taken_8 rfl) ?_
  refine x_bok.cons (xs_goto d_L_taken_9 (by decide)) ?_
  refine x_bok.cons (xs_astore_n d_L_taken_12 rfl (by decide)) ?_
  refine x_bok.cons (xs_iconst d_L_taken_13 (by decide)) ?_
  refine x_bok.cons (xs_iret d_L_taken_14 rfl) ?_
  refine x_bok.cons (xs_iconst d_L_taken_15 (by decide)) ?_
  refine x_bok.cons (xs_iret d_L_taken_16 rfl) ?_
  exact x_bok.nil
set_option maxRecDepth 100000 in
theorem mn_L_taken : x_bmn b_L_taken := by
  unfold b_L_taken
  refine x_bmn.cons (xm_aload) ?_
  refine x_bmn.cons (xm_push) ?_
  refine x_bmn.cons (xm_aload) ?_
  refine x_bmn.cons (xm_iload) ?_
  refine x_bmn.cons (xm_invV ym_C_taken) ?_
  refine x_bmn.cons (xm_i2l) ?_
  refine x_bmn.cons (xm_last) ?_
  refine x_bmn.cons (xm_goto) ?_
  refine x_bmn.cons (xm_astore) ?_
  refine x_bmn.cons (xm_push) ?_
  refine x_bmn.cons (xm_iret) ?_
  refine x_bmn.cons (xm_push) ?_
  refine x_bmn.cons (xm_iret) ?_
  exact x_bmn.nil
theorem is_L_taken : x_Is y_L_taken m_L_taken := x_is_with q4_200
def Y_L_taken : XMeth := x_do 4 b_L_taken
theorem sn_L_taken : x_Snd y_L_taken m_L_taken Y_L_taken := x_snd_of (by decide) rfl rfl is_L_taken k_L_taken
theorem ym_L_taken : x_Ymn Y_L_taken := x_ymn_of mn_L_taken
/- java/lang/AbstractStringBuilder.<init>(I)V -/
abbrev c_ZAbstractStringBuilder_init : ByteArray := prog_14_method_2_code
def y_ZAbstractStringBuilder_init : MethodName := ⟨"java/lang/AbstractStringBuilder", "<init>", "(I)V"⟩
theorem d_ZAbstractStringBuilder_init_0 : decode c_ZAbstractStringBuilder_init 0 = .ok (.aload_n 0, 1) := by decide +kernel
theorem d_ZAbstractStringBuilder_init_1 : decode c_ZAbstractStringBuilder_init 1 = .ok (.invokespecial 3, 3) := by decide +kernel
theorem d_ZAbstractStringBuilder_init_4 : decode c_ZAbstractStringBuilder_init 4 = .ok (.getstatic 18, 3) := by decide +kernel
theorem d_ZAbstractStringBuilder_init_7 : decode c_ZAbstractStringBuilder_init 7 = .ok (.ifCond .eq 18, 3) := by decide +kernel
theorem d_ZAbstractStringBuilder_init_10 : decode c_ZAbstractStringBuilder_init 10 = .ok (.aload_n 0, 1) := by decide +kernel
theorem d_ZAbstractStringBuilder_init_11 : decode c_ZAbstractStringBuilder_init 11 = .ok (.iload_n 1, 1) := by decide +kernel
theorem d_ZAbstractStringBuilder_init_12 : decode c_ZAbstractStringBuilder_init 12 = .ok (.newarray .byte, 2) := by decide +kernel
theorem d_ZAbstractStringBuilder_init_14 : decode c_ZAbstractStringBuilder_init 14 = .ok (.putfield 15, 3) := by decide +kernel
theorem d_ZAbstractStringBuilder_init_17 : decode c_ZAbstractStringBuilder_init 17 = .ok (.aload_n 0, 1) := by decide +kernel
theorem d_ZAbstractStringBuilder_init_18 : decode c_ZAbstractStringBuilder_init 18 = .ok (.iconst 0, 1) := by decide +kernel
theorem d_ZAbstractStringBuilder_init_19 : decode c_ZAbstractStringBuilder_init 19 = .ok (.putfield 22, 3) := by decide +kernel
theorem d_ZAbstractStringBuilder_init_22 : decode c_ZAbstractStringBuilder_init 22 = .ok (.goto 16, 3) := by decide +kernel
theorem d_ZAbstractStringBuilder_init_25 : decode c_ZAbstractStringBuilder_init 25 = .ok (.aload_n 0, 1) := by decide +kernel
theorem d_ZAbstractStringBuilder_init_26 : decode c_ZAbstractStringBuilder_init 26 = .ok (.iload_n 1, 1) := by decide +kernel
theorem d_ZAbstractStringBuilder_init_27 : decode c_ZAbstractStringBuilder_init 27 = .ok (.invokestatic 26, 3) := by decide +kernel
theorem d_ZAbstractStringBuilder_init_30 : decode c_ZAbstractStringBuilder_init 30 = .ok (.putfield 15, 3) := by decide +kernel
theorem d_ZAbstractStringBuilder_init_33 : decode c_ZAbstractStringBuilder_init 33 = .ok (.aload_n 0, 1) := by decide +kernel
theorem d_ZAbstractStringBuilder_init_34 : decode c_ZAbstractStringBuilder_init 34 = .ok (.iconst 1, 1) := by decide +kernel
theorem d_ZAbstractStringBuilder_init_35 : decode c_ZAbstractStringBuilder_init 35 = .ok (.putfield 22, 3) := by decide +kernel
theorem d_ZAbstractStringBuilder_init_38 : decode c_ZAbstractStringBuilder_init 38 = .ok (.return_, 1) := by decide +kernel
def m_ZAbstractStringBuilder_init : XM := ("java/lang/AbstractStringBuilder", c_ZAbstractStringBuilder_init, 2, none, "<init>", [], 1, 20)
def b_ZAbstractStringBuilder_init : XB := [(0, X_aload 0 1),
  (1, X_obj),
  (4, X_push (xv_i 1) 3),
  (7, X_if (fun x => x = 0) 25),
  (10, X_aload 0 1),
  (11, X_iload 1 1),
  (12, X_newa 2 1 (.inl (fun _ => 0)) 2),
  (14, X_put x_tR 9 0),
  (17, X_aload 0 1),
  (18, X_push (xv_i 0) 1),
  (19, X_put x_tB 9 1),
  (22, X_goto 38),
  (25, X_aload 0 1),
  (26, X_iload 1 1),
  (27, X_bad),
  (30, X_put x_tR 9 0),
  (33, X_aload 0 1),
  (34, X_push (xv_i 1) 1),
  (35, X_put x_tB 9 1),
  (38, X_vret)]
set_option maxRecDepth 100000 in
theorem k_ZAbstractStringBuilder_init : x_bok m_ZAbstractStringBuilder_init b_ZAbstractStringBuilder_init := by
  unfold b_ZAbstractStringBuilder_init
  refine x_bok.cons (xs_aload_n d_ZAbstractStringBuilder_init_0 rfl) ?_
  refine x_bok.cons (xs_obj d_ZAbstractStringBuilder_init_1 ⟨q4_225, q1_42, q1_43⟩ (by decide)) ?_
  refine x_bok.cons (xs_gets d_ZAbstractStringBuilder_init_4 (List.mem_of_getElem? (i := 13) rfl) q4_226 (Or.inl rfl)) ?_
  refine x_bok.cons (xs_if_eq d_ZAbstractStringBuilder_init_7 (by decide)) ?_
  refine x_bok.cons (xs_aload_n d_ZAbstractStringBuilder_init_10 rfl) ?_
  refine x_bok.cons (xs_iload_n d_ZAbstractStringBuilder_init_11 rfl) ?_
  refine x_bok.cons (xs_newa (ty := .byte) d_ZAbstractStringBuilder_init_12 rfl rfl q2_59 (fun _ _ _ => rfl) x_zbyte) ?_
  refine x_bok.cons (xs_put d_ZAbstractStringBuilder_init_14 xc9 xw9 xt9 xn9 (by decide) q4_235 (Or.inl rfl) rfl rfl x_fitA) ?_
  refine x_bok.cons (xs_aload_n d_ZAbstractStringBuilder_init_17 rfl) ?_
  refine x_bok.cons (xs_iconst d_ZAbstractStringBuilder_init_18 (by decide)) ?_
  refine x_bok.cons (xs_put d_ZAbstractStringBuilder_init_19 xc9 xw9 xt9 xn9 (by decide) q4_236 (Or.inl rfl) rfl rfl x_fitB) ?_
  refine x_bok.cons (xs_goto d_ZAbstractStringBuilder_init_22 (by decide)) ?_
  refine x_bok.cons (xs_aload_n d_ZAbstractStringBuilder_init_25 rfl) ?_
  refine x_bok.cons (xs_iload_n d_ZAbstractStringBuilder_init_26 rfl) ?_
  refine x_bok.cons (xs_bad) ?_
  refine x_bok.cons (xs_put d_ZAbstractStringBuilder_init_30 xc9 xw9 xt9 xn9 (by decide) q4_235 (Or.inl rfl) rfl rfl x_fitA) ?_
  refine x_bok.cons (xs_aload_n d_ZAbstractStringBuilder_init_33 rfl) ?_
  refine x_bok.cons (xs_iconst d_ZAbstractStringBuilder_init_34 (by decide)) ?_
  refine x_bok.cons (xs_put d_ZAbstractStringBuilder_init_35 xc9 xw9 xt9 xn9 (by decide) q4_236 (Or.inl rfl) rfl rfl x_fitB) ?_
  refine x_bok.cons (xs_vret d_ZAbstractStringBuilder_init_38 rfl) ?_
  exact x_bok.nil
set_option maxRecDepth 100000 in
theorem mn_ZAbstractStringBuilder_init : x_bmn b_ZAbstractStringBuilder_init := by
  unfold b_ZAbstractStringBuilder_init
  refine x_bmn.cons (xm_aload) ?_
  refine x_bmn.cons (xm_obj) ?_
  refine x_bmn.cons (xm_push) ?_
  refine x_bmn.cons (xm_if) ?_
  refine x_bmn.cons (xm_aload) ?_
  refine x_bmn.cons (xm_iload) ?_
  refine x_bmn.cons (xm_newa) ?_
  refine x_bmn.cons (xm_put) ?_
  refine x_bmn.cons (xm_aload) ?_
  refine x_bmn.cons (xm_push) ?_
  refine x_bmn.cons (xm_put) ?_
  refine x_bmn.cons (xm_goto) ?_
  refine x_bmn.cons (xm_aload) ?_
  refine x_bmn.cons (xm_iload) ?_
  refine x_bmn.cons (xm_bad) ?_
  refine x_bmn.cons (xm_put) ?_
  refine x_bmn.cons (xm_aload) ?_
  refine x_bmn.cons (xm_push) ?_
  refine x_bmn.cons (xm_put) ?_
  refine x_bmn.cons (xm_vret) ?_
  exact x_bmn.nil
theorem is_ZAbstractStringBuilder_init : x_Is y_ZAbstractStringBuilder_init m_ZAbstractStringBuilder_init := x_is_code q4_224
def Y_ZAbstractStringBuilder_init : XMeth := x_do 2 b_ZAbstractStringBuilder_init
theorem sn_ZAbstractStringBuilder_init : x_Snd y_ZAbstractStringBuilder_init m_ZAbstractStringBuilder_init Y_ZAbstractStringBuilder_init := x_snd_of (by decide) rfl rfl is_ZAbstractStringBuilder_init k_ZAbstractStringBuilder_init
theorem ym_ZAbstractStringBuilder_init : x_Ymn Y_ZAbstractStringBuilder_init := x_ymn_of mn_ZAbstractStringBuilder_init
/- java/lang/StringBuilder.<init>()V -/
abbrev c_ZStringBuilder_init : ByteArray := prog_27_method_1_code
def y_ZStringBuilder_init : MethodName := ⟨"java/lang/StringBuilder", "<init>", "()V"⟩
theorem d_ZStringBuilder_init_0 : decode c_ZStringBuilder_init 0 = .ok (.aload_n 0, 1) := by decide +kernel
theorem d_ZStringBuilder_init_1 : decode c_ZStringBuilder_init 1 = .ok (.bipush 16, 2) := by decide +kernel
theorem d_ZStringBuilder_init_3 : decode c_ZStringBuilder_init 3 = .ok (.invokespecial 1, 3) := by decide +kernel
theorem d_ZStringBuilder_init_6 : decode c_ZStringBuilder_init 6 = .ok (.return_, 1) := by decide +kernel
def m_ZStringBuilder_init : XM := ("java/lang/StringBuilder", c_ZStringBuilder_init, 1, none, "<init>", [], 2, 41)
def b_ZStringBuilder_init : XB := [(0, X_aload 0 1),
  (1, X_push (xv_i 16) 2),
  (3, X_invI Y_ZAbstractStringBuilder_init 1 []),
  (6, X_vret)]
set_option maxRecDepth 100000 in
theorem k_ZStringBuilder_init : x_bok m_ZStringBuilder_init b_ZStringBuilder_init := by
  unfold b_ZStringBuilder_init
  refine x_bok.cons (xs_aload_n d_ZStringBuilder_init_0 rfl) ?_
  refine x_bok.cons (xs_bipush d_ZStringBuilder_init_1 (by decide)) ?_
  refine x_bok.cons (xs_invI d_ZStringBuilder_init_3 sn_ZAbstractStringBuilder_init is_ZAbstractStringBuilder_init ⟨q4_222, q4_223, q4_224, q1_31⟩ (by decide) rfl (by decide) rfl) ?_
  refine x_bok.cons (xs_vret d_ZStringBuilder_init_6 rfl) ?_
  exact x_bok.nil
set_option maxRecDepth 100000 in
theorem mn_ZStringBuilder_init : x_bmn b_ZStringBuilder_init := by
  unfold b_ZStringBuilder_init
  refine x_bmn.cons (xm_aload) ?_
  refine x_bmn.cons (xm_push) ?_
  refine x_bmn.cons (xm_invI ym_ZAbstractStringBuilder_init) ?_
  refine x_bmn.cons (xm_vret) ?_
  exact x_bmn.nil
theorem is_ZStringBuilder_init : x_Is y_ZStringBuilder_init m_ZStringBuilder_init := x_is_code q4_221
def Y_ZStringBuilder_init : XMeth := x_do 1 b_ZStringBuilder_init
theorem sn_ZStringBuilder_init : x_Snd y_ZStringBuilder_init m_ZStringBuilder_init Y_ZStringBuilder_init := x_snd_of (by decide) rfl rfl is_ZStringBuilder_init k_ZStringBuilder_init
theorem ym_ZStringBuilder_init : x_Ymn Y_ZStringBuilder_init := x_ymn_of mn_ZStringBuilder_init
