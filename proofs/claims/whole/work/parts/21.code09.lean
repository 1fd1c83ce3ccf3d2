/- CashLink.jam(II)V -/
abbrev c_C_jam : ByteArray := prog_1_method_9_code
def y_C_jam : MethodName := ⟨"CashLink", "jam", "(II)V"⟩
theorem d_C_jam_0 : decode c_C_jam 0 = .ok (.aload_n 0, 1) := by decide +kernel
theorem d_C_jam_1 : decode c_C_jam 1 = .ok (.iload_n 1, 1) := by decide +kernel
theorem d_C_jam_2 : decode c_C_jam 2 = .ok (.invokevirtual 38, 3) := by decide +kernel
theorem d_C_jam_5 : decode c_C_jam 5 = .ok (.astore_n 3, 1) := by decide +kernel
theorem d_C_jam_6 : decode c_C_jam 6 = .ok (.iload_n 2, 1) := by decide +kernel
theorem d_C_jam_7 : decode c_C_jam 7 = .ok (.ifCond .lt 13, 3) := by decide +kernel
theorem d_C_jam_10 : decode c_C_jam 10 = .ok (.iload_n 2, 1) := by decide +kernel
theorem d_C_jam_11 : decode c_C_jam 11 = .ok (.bipush 41, 2) := by decide +kernel
theorem d_C_jam_13 : decode c_C_jam 13 = .ok (.if_icmp .gt 7, 3) := by decide +kernel
theorem d_C_jam_16 : decode c_C_jam 16 = .ok (.iconst 1, 1) := by decide +kernel
theorem d_C_jam_17 : decode c_C_jam 17 = .ok (.goto 4, 3) := by decide +kernel
theorem d_C_jam_20 : decode c_C_jam 20 = .ok (.iconst 0, 1) := by decide +kernel
theorem d_C_jam_21 : decode c_C_jam 21 = .ok (.invokestatic 46, 3) := by decide +kernel
theorem d_C_jam_24 : decode c_C_jam 24 = .ok (.aload_n 3, 1) := by decide +kernel
theorem d_C_jam_25 : decode c_C_jam 25 = .ok (.getfield 100, 3) := by decide +kernel
theorem d_C_jam_28 : decode c_C_jam 28 = .ok (.iload_n 2, 1) := by decide +kernel
theorem d_C_jam_29 : decode c_C_jam 29 = .ok (.putfield 104, 3) := by decide +kernel
theorem d_C_jam_32 : decode c_C_jam 32 = .ok (.return_, 1) := by decide +kernel
def m_C_jam : XM := ("CashLink", c_C_jam, 4, none, "jam", [], 8, 131)
def b_C_jam : XB := [(0, X_aload 0 1),
  (1, X_iload 1 1),
  (2, X_invV 0 Y_C_machineAt 1 []),
  (5, X_astore 3 1),
  (6, X_iload 2 1),
  (7, X_if (fun x => x < 0) 20),
  (10, X_iload 2 1),
  (11, X_push (xv_i 41) 2),
  (13, X_icmp (fun x y => y < x) 20),
  (16, X_push (xv_i 1) 1),
  (17, X_goto 21),
  (20, X_push (xv_i 0) 1),
  (21, X_invS Y_C_allow 1 []),
  (24, X_aload 3 1),
  (25, X_get 3 4),
  (28, X_iload 2 1),
  (29, X_put x_tI 5 1),
  (32, X_vret)]
set_option maxRecDepth 100000 in
theorem k_C_jam : x_bok m_C_jam b_C_jam := by
  unfold b_C_jam
  refine x_bok.cons (xs_aload_n d_C_jam_0 rfl) ?_
  refine x_bok.cons (xs_iload_n d_C_jam_1 rfl) ?_
  refine x_bok.cons (xs_invV d_C_jam_2 xc0 sn_C_machineAt is_C_machineAt ⟨q1_223, q1_225, (x_sel (x_p1 (List.mem_of_getElem? (i := 0) rfl))), q1_1⟩ (by decide) (by decide) rfl) ?_
  refine x_bok.cons (xs_astore_n d_C_jam_5 rfl (by decide)) ?_
  refine x_bok.cons (xs_iload_n d_C_jam_6 rfl) ?_
  refine x_bok.cons (xs_if_lt d_C_jam_7 (by decide)) ?_
  refine x_bok.cons (xs_iload_n d_C_jam_10 rfl) ?_
  refine x_bok.cons (xs_bipush d_C_jam_11 (by decide)) ?_
  refine x_bok.cons (xs_icmp_gt d_C_jam_13 (by decide)) ?_
  refine x_bok.cons (xs_iconst d_C_jam_16 (by decide)) ?_
  refine x_bok.cons (xs_goto d_C_jam_17 (by decide)) ?_
  refine x_bok.cons (xs_iconst d_C_jam_20 (by decide)) ?_
  refine x_bok.cons (xs_invS d_C_jam_21 sn_C_allow is_C_allow ⟨q1_227, q1_228, q1_1⟩ (by decide) (by decide) rfl) ?_
  refine x_bok.cons (xs_aload_n d_C_jam_24 rfl) ?_
  refine x_bok.cons (xs_get d_C_jam_25 xc3 xw3 (by decide) q1_171 (Or.inl rfl)) ?_
  refine x_bok.cons (xs_iload_n d_C_jam_28 rfl) ?_
  refine x_bok.cons (xs_put d_C_jam_29 xc5 xw5 xt5 xn5 (by decide) q1_146 (Or.inl rfl) rfl rfl x_fitI) ?_
  refine x_bok.cons (xs_vret d_C_jam_32 rfl) ?_
  exact x_bok.nil
set_option maxRecDepth 100000 in
theorem mn_C_jam : x_bmn b_C_jam := by
  unfold b_C_jam
  refine x_bmn.cons (xm_aload) ?_
  refine x_bmn.cons (xm_iload) ?_
  refine x_bmn.cons (xm_invV ym_C_machineAt) ?_
  refine x_bmn.cons (xm_astore) ?_
  refine x_bmn.cons (xm_iload) ?_
  refine x_bmn.cons (xm_if) ?_
  refine x_bmn.cons (xm_iload) ?_
  refine x_bmn.cons (xm_push) ?_
  refine x_bmn.cons (xm_icmp) ?_
  refine x_bmn.cons (xm_push) ?_
  refine x_bmn.cons (xm_goto) ?_
  refine x_bmn.cons (xm_push) ?_
  refine x_bmn.cons (xm_invS ym_C_allow) ?_
  refine x_bmn.cons (xm_aload) ?_
  refine x_bmn.cons (xm_get) ?_
  refine x_bmn.cons (xm_iload) ?_
  refine x_bmn.cons (xm_put) ?_
  refine x_bmn.cons (xm_vret) ?_
  exact x_bmn.nil
theorem is_C_jam : x_Is y_C_jam m_C_jam := x_is_code q4_111
def Y_C_jam : XMeth := x_do 4 b_C_jam
theorem sn_C_jam : x_Snd y_C_jam m_C_jam Y_C_jam := x_snd_of (by decide) rfl rfl is_C_jam k_C_jam
theorem ym_C_jam : x_Ymn Y_C_jam := x_ymn_of mn_C_jam
/- CashLinkLaw.jam(LCashLink;II)I -/
abbrev c_L_jam : ByteArray := method_10_code
def y_L_jam : MethodName := ⟨"CashLinkLaw", "jam", "(LCashLink;II)I"⟩
theorem d_L_jam_0 : decode c_L_jam 0 = .ok (.aload_n 0, 1) := by decide +kernel
theorem d_L_jam_1 : decode c_L_jam 1 = .ok (.iload_n 1, 1) := by decide +kernel
theorem d_L_jam_2 : decode c_L_jam 2 = .ok (.iload_n 2, 1) := by decide +kernel
theorem d_L_jam_3 : decode c_L_jam 3 = .ok (.invokevirtual 45, 3) := by decide +kernel
theorem d_L_jam_6 : decode c_L_jam 6 = .ok (.goto 6, 3) := by decide +kernel
theorem d_L_jam_9 : decode c_L_jam 9 = .ok (.astore_n 3, 1) := by decide +kernel
theorem d_L_jam_10 : decode c_L_jam 10 = .ok (.iconst 1, 1) := by decide +kernel
theorem d_L_jam_11 : decode c_L_jam 11 = .ok (.ireturn, 1) := by decide +kernel
theorem d_L_jam_12 : decode c_L_jam 12 = .ok (.iconst 0, 1) := by decide +kernel
theorem d_L_jam_13 : decode c_L_jam 13 = .ok (.ireturn, 1) := by decide +kernel
def m_L_jam : XM := ("CashLinkLaw", c_L_jam, 4, (some .int), "jam", [(0, 6, 9, 13)], 9, 154)
theorem h_L_jam_3 : x_hok m_L_jam 3 [(11, 9)] := by
  intro ci h hc
  by_cases e0 : ci = 11
  · subst e0
    have hh : h = 9 := (Option.some.inj (hc.symm.trans (by rfl : x_catch [(11, 9)] 11 = some 9)))
    subst hh
    refine ⟨"java/lang/IllegalArgumentException", xT11, 0, [], ⟨0, 6, 9, 13⟩, [], rfl, rfl, rfl, rfl, by decide, q1_217, ?_⟩
    intro z hz
    cases hz
  exfalso
  simp only [x_catch] at hc
  rw [if_neg (fun q => e0 q.symm)] at hc
  cases hc
def b_L_jam : XB := [(0, X_aload 0 1),
  (1, X_iload 1 1),
  (2, X_iload 2 1),
  (3, X_invV 0 Y_C_jam 2 [(11, 9)]),
  (6, X_goto 12),
  (9, X_astore 3 1),
  (10, X_push (xv_i 1) 1),
  (11, X_iret),
  (12, X_push (xv_i 0) 1),
  (13, X_iret)]
set_option maxRecDepth 100000 in
theorem k_L_jam : x_bok m_L_jam b_L_jam := by
  unfold b_L_jam
  refine x_bok.cons (xs_aload_n d_L_jam_0 rfl) ?_
  refine x_bok.cons (xs_iload_n d_L_jam_1 rfl) ?_
  refine x_bok.cons (xs_iload_n d_L_jam_2 rfl) ?_
  refine x_bok.cons (xs_invV d_L_jam_3 xc0 sn_C_jam is_C_jam ⟨q4_108, q4_109, q4_110, q1_1⟩ (by decide) (by decide) h_L_jam_3) ?_
  refine x_bok.cons (xs_goto d_L_jam_6 (by decide)) ?_
  refine x_bok.cons (xs_astore_n d_L_jam_9 rfl (by decide)) ?_
  refine x_bok.cons (xs_iconst d_L_jam_10 (by decide)) ?_
  refine x_bok.cons (xs_iret d_L_jam_11 rfl) ?_
  refine x_bok.cons (xs_iconst d_L_jam_12 (by decide)) ?_
  refine x_bok.cons (xs_iret d_L_jam_13 rfl) ?_
  exact x_bok.nil
set_option maxRecDepth 100000 in
theorem mn_L_jam : x_bmn b_L_jam := by
  unfold b_L_jam
  refine x_bmn.cons (xm_aload) ?_
  refine x_bmn.cons (xm_iload) ?_
  refine x_bmn.cons (xm_iload) ?_
  refine x_bmn.cons (xm_invV ym_C_jam) ?_
  refine x_bmn.cons (xm_goto) ?_
  refine x_bmn.cons (xm_astore) ?_
  refine x_bmn.cons (xm_push) ?_
  refine x_bmn.cons (xm_iret) ?_
  refine x_bmn.cons (xm_push) ?_
  refine x_bmn.cons (xm_iret) ?_
  exact x_bmn.nil
theorem is_L_jam : x_Is y_L_jam m_L_jam := x_is_with q4_107
def Y_L_jam : XMeth := x_do 4 b_L_jam
theorem sn_L_jam : x_Snd y_L_jam m_L_jam Y_L_jam := x_snd_of (by decide) rfl rfl is_L_jam k_L_jam
theorem ym_L_jam : x_Ymn Y_L_jam := x_ymn_of mn_L_jam
/- CashLink.isCassette(I)Z -/
abbrev c_C_isCassette : ByteArray := prog_1_method_25_code
def y_C_isCassette : MethodName := ⟨"CashLink", "isCassette", "(I)Z"⟩
theorem d_C_isCassette_0 : decode c_C_isCassette 0 = .ok (.iload_n 0, 1) := by decide +kernel
theorem d_C_isCassette_1 : decode c_C_isCassette 1 = .ok (.ifCond .lt 12, 3) := by decide +kernel
theorem d_C_isCassette_4 : decode c_C_isCassette 4 = .ok (.iload_n 0, 1) := by decide +kernel
theorem d_C_isCassette_5 : decode c_C_isCassette 5 = .ok (.iconst 4, 1) := by decide +kernel
theorem d_C_isCassette_6 : decode c_C_isCassette 6 = .ok (.if_icmp .ge 7, 3) := by decide +kernel
theorem d_C_isCassette_9 : decode c_C_isCassette 9 = .ok (.iconst 1, 1) := by decide +kernel
theorem d_C_isCassette_10 : decode c_C_isCassette 10 = .ok (.goto 4, 3) := by decide +kernel
theorem d_C_isCassette_13 : decode c_C_isCassette 13 = .ok (.iconst 0, 1) := by decide +kernel
theorem d_C_isCassette_14 : decode c_C_isCassette 14 = .ok (.ireturn, 1) := by decide +kernel
def m_C_isCassette : XM := ("CashLink", c_C_isCassette, 1, (some .boolean), "isCassette", [], 0, 0)
def b_C_isCassette : XB := [(0, X_iload 0 1),
  (1, X_if (fun x => x < 0) 13),
  (4, X_iload 0 1),
  (5, X_push (xv_i 4) 1),
  (6, X_icmp (fun x y => y ≤ x) 13),
  (9, X_push (xv_i 1) 1),
  (10, X_goto 14),
  (13, X_push (xv_i 0) 1),
  (14, X_zret)]
set_option maxRecDepth 100000 in
theorem k_C_isCassette : x_bok m_C_isCassette b_C_isCassette := by
  unfold b_C_isCassette
  refine x_bok.cons (xs_iload_n d_C_isCassette_0 rfl) ?_
  refine x_bok.cons (xs_if_lt d_C_isCassette_1 (by decide)) ?_
  refine x_bok.cons (xs_iload_n d_C_isCassette_4 rfl) ?_
  refine x_bok.cons (xs_iconst d_C_isCassette_5 (by decide)) ?_
  refine x_bok.cons (xs_icmp_ge d_C_isCassette_6 (by decide)) ?_
  refine x_bok.cons (xs_iconst d_C_isCassette_9 (by decide)) ?_
  refine x_bok.cons (xs_goto d_C_isCassette_10 (by decide)) ?_
  refine x_bok.cons (xs_iconst d_C_isCassette_13 (by decide)) ?_
  refine x_bok.cons (xs_zret d_C_isCassette_14 rfl) ?_
  exact x_bok.nil
set_option maxRecDepth 100000 in
theorem mn_C_isCassette : x_bmn b_C_isCassette := by
  unfold b_C_isCassette
  refine x_bmn.cons (xm_iload) ?_
  refine x_bmn.cons (xm_if) ?_
  refine x_bmn.cons (xm_iload) ?_
  refine x_bmn.cons (xm_push) ?_
  refine x_bmn.cons (xm_icmp) ?_
  refine x_bmn.cons (xm_push) ?_
  refine x_bmn.cons (xm_goto) ?_
  refine x_bmn.cons (xm_push) ?_
  refine x_bmn.cons (xm_zret) ?_
  exact x_bmn.nil
theorem is_C_isCassette : x_Is y_C_isCassette m_C_isCassette := x_is_code q4_121
def Y_C_isCassette : XMeth := x_do 1 b_C_isCassette
theorem sn_C_isCassette : x_Snd y_C_isCassette m_C_isCassette Y_C_isCassette := x_snd_of (by decide) rfl rfl is_C_isCassette k_C_isCassette
theorem ym_C_isCassette : x_Ymn Y_C_isCassette := x_ymn_of mn_C_isCassette
/- CashLink$Dispenser.fill(II)I -/
abbrev c_D_fill : ByteArray := prog_3_method_2_code
def y_D_fill : MethodName := ⟨"CashLink$Dispenser", "fill", "(II)I"⟩
theorem d_D_fill_0 : decode c_D_fill 0 = .ok (.aload_n 0, 1) := by decide +kernel
theorem d_D_fill_1 : decode c_D_fill 1 = .ok (.getfield 9, 3) := by decide +kernel
theorem d_D_fill_4 : decode c_D_fill 4 = .ok (.iload_n 1, 1) := by decide +kernel
theorem d_D_fill_5 : decode c_D_fill 5 = .ok (.iaload, 1) := by decide +kernel
theorem d_D_fill_6 : decode c_D_fill 6 = .ok (.iload_n 2, 1) := by decide +kernel
theorem d_D_fill_7 : decode c_D_fill 7 = .ok (.iadd, 1) := by decide +kernel
theorem d_D_fill_8 : decode c_D_fill 8 = .ok (.sipush 500, 3) := by decide +kernel
theorem d_D_fill_11 : decode c_D_fill 11 = .ok (.if_icmp .gt 7, 3) := by decide +kernel
theorem d_D_fill_14 : decode c_D_fill 14 = .ok (.iconst 1, 1) := by decide +kernel
theorem d_D_fill_15 : decode c_D_fill 15 = .ok (.goto 4, 3) := by decide +kernel
theorem d_D_fill_18 : decode c_D_fill 18 = .ok (.iconst 0, 1) := by decide +kernel
theorem d_D_fill_19 : decode c_D_fill 19 = .ok (.invokestatic 19, 3) := by decide +kernel
theorem d_D_fill_22 : decode c_D_fill 22 = .ok (.aload_n 0, 1) := by decide +kernel
theorem d_D_fill_23 : decode c_D_fill 23 = .ok (.getfield 9, 3) := by decide +kernel
theorem d_D_fill_26 : decode c_D_fill 26 = .ok (.iload_n 1, 1) := by decide +kernel
theorem d_D_fill_27 : decode c_D_fill 27 = .ok (.dup2, 1) := by decide +kernel
theorem d_D_fill_28 : decode c_D_fill 28 = .ok (.iaload, 1) := by decide +kernel
theorem d_D_fill_29 : decode c_D_fill 29 = .ok (.iload_n 2, 1) := by decide +kernel
theorem d_D_fill_30 : decode c_D_fill 30 = .ok (.iadd, 1) := by decide +kernel
theorem d_D_fill_31 : decode c_D_fill 31 = .ok (.iastore, 1) := by decide +kernel
theorem d_D_fill_32 : decode c_D_fill 32 = .ok (.aload_n 0, 1) := by decide +kernel
theorem d_D_fill_33 : decode c_D_fill 33 = .ok (.getfield 9, 3) := by decide +kernel
theorem d_D_fill_36 : decode c_D_fill 36 = .ok (.iload_n 1, 1) := by decide +kernel
theorem d_D_fill_37 : decode c_D_fill 37 = .ok (.iaload, 1) := by decide +kernel
theorem d_D_fill_38 : decode c_D_fill 38 = .ok (.ireturn, 1) := by decide +kernel
def m_D_fill : XM := ("CashLink$Dispenser", c_D_fill, 3, (some .int), "fill", [], 7, 110)
def b_D_fill : XB := [(0, X_aload 0 1),
  (1, X_get 5 0),
  (4, X_iload 1 1),
  (5, X_ald 0),
  (6, X_iload 2 1),
  (7, X_bin (fun x y => x + y)),
  (8, X_push (xv_i 500) 3),
  (11, X_icmp (fun x y => y < x) 18),
  (14, X_push (xv_i 1) 1),
  (15, X_goto 19),
  (18, X_push (xv_i 0) 1),
  (19, X_invS Y_C_demand 1 []),
  (22, X_aload 0 1),
  (23, X_get 5 0),
  (26, X_iload 1 1),
  (27, X_dup2),
  (28, X_ald 0),
  (29, X_iload 2 1),
  (30, X_bin (fun x y => x + y)),
  (31, X_ast 0 (fun x => x)),
  (32, X_aload 0 1),
  (33, X_get 5 0),
  (36, X_iload 1 1),
  (37, X_ald 0),
  (38, X_iret)]
set_option maxRecDepth 100000 in
theorem k_D_fill : x_bok m_D_fill b_D_fill := by
  unfold b_D_fill
  refine x_bok.cons (xs_aload_n d_D_fill_0 rfl) ?_
  refine x_bok.cons (xs_get d_D_fill_1 xc5 xw5 (by decide) q1_144 (Or.inl rfl)) ?_
  refine x_bok.cons (xs_iload_n d_D_fill_4 rfl) ?_
  refine x_bok.cons (xs_iald d_D_fill_5 rfl) ?_
  refine x_bok.cons (xs_iload_n d_D_fill_6 rfl) ?_
  refine x_bok.cons (xs_iadd d_D_fill_7) ?_
  refine x_bok.cons (xs_sipush d_D_fill_8 (by decide)) ?_
  refine x_bok.cons (xs_icmp_gt d_D_fill_11 (by decide)) ?_
  refine x_bok.cons (xs_iconst d_D_fill_14 (by decide)) ?_
  refine x_bok.cons (xs_goto d_D_fill_15 (by decide)) ?_
  refine x_bok.cons (xs_iconst d_D_fill_18 (by decide)) ?_
  refine x_bok.cons (xs_invSN d_D_fill_19 sn_C_demand is_C_demand ⟨q4_126, q2_72, q1_1⟩ (by decide) (by decide) rfl) ?_
  refine x_bok.cons (xs_aload_n d_D_fill_22 rfl) ?_
  refine x_bok.cons (xs_get d_D_fill_23 xc5 xw5 (by decide) q1_144 (Or.inl rfl)) ?_
  refine x_bok.cons (xs_iload_n d_D_fill_26 rfl) ?_
  refine x_bok.cons (xs_dup2 d_D_fill_27) ?_
  refine x_bok.cons (xs_iald d_D_fill_28 rfl) ?_
  refine x_bok.cons (xs_iload_n d_D_fill_29 rfl) ?_
  refine x_bok.cons (xs_iadd d_D_fill_30) ?_
  refine x_bok.cons (xs_iast d_D_fill_31 rfl) ?_
  refine x_bok.cons (xs_aload_n d_D_fill_32 rfl) ?_
  refine x_bok.cons (xs_get d_D_fill_33 xc5 xw5 (by decide) q1_144 (Or.inl rfl)) ?_
  refine x_bok.cons (xs_iload_n d_D_fill_36 rfl) ?_
  refine x_bok.cons (xs_iald d_D_fill_37 rfl) ?_
  refine x_bok.cons (xs_iret d_D_fill_38 rfl) ?_
  exact x_bok.nil
set_option maxRecDepth 100000 in
theorem mn_D_fill : x_bmn b_D_fill := by
  unfold b_D_fill
  refine x_bmn.cons (xm_aload) ?_
  refine x_bmn.cons (xm_get) ?_
  refine x_bmn.cons (xm_iload) ?_
  refine x_bmn.cons (xm_ald) ?_
  refine x_bmn.cons (xm_iload) ?_
  refine x_bmn.cons (xm_bin) ?_
  refine x_bmn.cons (xm_push) ?_
  refine x_bmn.cons (xm_icmp) ?_
  refine x_bmn.cons (xm_push) ?_
  refine x_bmn.cons (xm_goto) ?_
  refine x_bmn.cons (xm_push) ?_
  refine x_bmn.cons (xm_invS ym_C_demand) ?_
  refine x_bmn.cons (xm_aload) ?_
  refine x_bmn.cons (xm_get) ?_
  refine x_bmn.cons (xm_iload) ?_
  refine x_bmn.cons (xm_dup2) ?_
  refine x_bmn.cons (xm_ald) ?_
  refine x_bmn.cons (xm_iload) ?_
  refine x_bmn.cons (xm_bin) ?_
  refine x_bmn.cons (xm_ast) ?_
  refine x_bmn.cons (xm_aload) ?_
  refine x_bmn.cons (xm_get) ?_
  refine x_bmn.cons (xm_iload) ?_
  refine x_bmn.cons (xm_ald) ?_
  refine x_bmn.cons (xm_iret) ?_
  exact x_bmn.nil
theorem is_D_fill : x_Is y_D_fill m_D_fill := x_is_code q4_125
def Y_D_fill : XMeth := x_do 3 b_D_fill
theorem sn_D_fill : x_Snd y_D_fill m_D_fill Y_D_fill := x_snd_of (by decide) rfl rfl is_D_fill k_D_fill
theorem ym_D_fill : x_Ymn Y_D_fill := x_ymn_of mn_D_fill
/- CashLink.load(III)I -/
abbrev c_C_load : ByteArray := prog_1_method_10_code
def y_C_load : MethodName := ⟨"CashLink", "load", "(III)I"⟩
theorem d_C_load_0 : decode c_C_load 0 = .ok (.aload_n 0, 1) := by decide +kernel
theorem d_C_load_1 : decode c_C_load 1 = .ok (.iload_n 1, 1) := by decide +kernel
theorem d_C_load_2 : decode c_C_load 2 = .ok (.invokevirtual 38, 3) := by decide +kernel
theorem d_C_load_5 : decode c_C_load 5 = .ok (.astore 4, 2) := by decide +kernel
theorem d_C_load_7 : decode c_C_load 7 = .ok (.iload_n 2, 1) := by decide +kernel
theorem d_C_load_8 : decode c_C_load 8 = .ok (.invokestatic 108, 3) := by decide +kernel
theorem d_C_load_11 : decode c_C_load 11 = .ok (.ifCond .eq 18, 3) := by decide +kernel
theorem d_C_load_14 : decode c_C_load 14 = .ok (.iload_n 3, 1) := by decide +kernel
theorem d_C_load_15 : decode c_C_load 15 = .ok (.iconst 1, 1) := by decide +kernel
theorem d_C_load_16 : decode c_C_load 16 = .ok (.if_icmp .lt 13, 3) := by decide +kernel
theorem d_C_load_19 : decode c_C_load 19 = .ok (.iload_n 3, 1) := by decide +kernel
theorem d_C_load_20 : decode c_C_load 20 = .ok (.bipush 100, 2) := by decide +kernel
theorem d_C_load_22 : decode c_C_load 22 = .ok (.if_icmp .gt 7, 3) := by decide +kernel
theorem d_C_load_25 : decode c_C_load 25 = .ok (.iconst 1, 1) := by decide +kernel
theorem d_C_load_26 : decode c_C_load 26 = .ok (.goto 4, 3) := by decide +kernel
theorem d_C_load_29 : decode c_C_load 29 = .ok (.iconst 0, 1) := by decide +kernel
theorem d_C_load_30 : decode c_C_load 30 = .ok (.invokestatic 46, 3) := by decide +kernel
theorem d_C_load_33 : decode c_C_load 33 = .ok (.aload 4, 2) := by decide +kernel
theorem d_C_load_35 : decode c_C_load 35 = .ok (.getfield 100, 3) := by decide +kernel
theorem d_C_load_38 : decode c_C_load 38 = .ok (.iload_n 2, 1) := by decide +kernel
theorem d_C_load_39 : decode c_C_load 39 = .ok (.iload_n 3, 1) := by decide +kernel
theorem d_C_load_40 : decode c_C_load 40 = .ok (.invokevirtual 111, 3) := by decide +kernel
theorem d_C_load_43 : decode c_C_load 43 = .ok (.ireturn, 1) := by decide +kernel
def m_C_load : XM := ("CashLink", c_C_load, 5, (some .int), "load", [], 8, 132)
def b_C_load : XB := [(0, X_aload 0 1),
  (1, X_iload 1 1),
  (2, X_invV 0 Y_C_machineAt 1 []),
  (5, X_astore 4 2),
  (7, X_iload 2 1),
  (8, X_invS Y_C_isCassette 1 []),
  (11, X_if (fun x => x = 0) 29),
  (14, X_iload 3 1),
  (15, X_push (xv_i 1) 1),
  (16, X_icmp (fun x y => x < y) 29),
  (19, X_iload 3 1),
  (20, X_push (xv_i 100) 2),
  (22, X_icmp (fun x y => y < x) 29),
  (25, X_push (xv_i 1) 1),
  (26, X_goto 30),
  (29, X_push (xv_i 0) 1),
  (30, X_invS Y_C_allow 1 []),
  (33, X_aload 4 2),
  (35, X_get 3 4),
  (38, X_iload 2 1),
  (39, X_iload 3 1),
  (40, X_invV 5 Y_D_fill 2 []),
  (43, X_iret)]
set_option maxRecDepth 100000 in
theorem k_C_load : x_bok m_C_load b_C_load := by
  unfold b_C_load
  refine x_bok.cons (xs_aload_n d_C_load_0 rfl) ?_
  refine x_bok.cons (xs_iload_n d_C_load_1 rfl) ?_
  refine x_bok.cons (xs_invV d_C_load_2 xc0 sn_C_machineAt is_C_machineAt ⟨q1_223, q1_225, (x_sel (x_p1 (List.mem_of_getElem? (i := 0) rfl))), q1_1⟩ (by decide) (by decide) rfl) ?_
  refine x_bok.cons (xs_astore d_C_load_5 (by decide)) ?_
  refine x_bok.cons (xs_iload_n d_C_load_7 rfl) ?_
  refine x_bok.cons (xs_invS d_C_load_8 sn_C_isCassette is_C_isCassette ⟨q4_119, q4_120, q1_1⟩ (by decide) (by decide) rfl) ?_
  refine x_bok.cons (xs_if_eq d_C_load_11 (by decide)) ?_
  refine x_bok.cons (xs_iload_n d_C_load_14 rfl) ?_
  refine x_bok.cons (xs_iconst d_C_load_15 (by decide)) ?_
  refine x_bok.cons (xs_icmp_lt d_C_load_16 (by decide)) ?_
  refine x_bok.cons (xs_iload_n d_C_load_19 rfl) ?_
  refine x_bok.cons (xs_bipush d_C_load_20 (by decide)) ?_
  refine x_bok.cons (xs_icmp_gt d_C_load_22 (by decide)) ?_
  refine x_bok.cons (xs_iconst d_C_load_25 (by decide)) ?_
  refine x_bok.cons (xs_goto d_C_load_26 (by decide)) ?_
  refine x_bok.cons (xs_iconst d_C_load_29 (by decide)) ?_
  refine x_bok.cons (xs_invS d_C_load_30 sn_C_allow is_C_allow ⟨q1_227, q1_228, q1_1⟩ (by decide) (by decide) rfl) ?_
  refine x_bok.cons (xs_aload d_C_load_33) ?_
  refine x_bok.cons (xs_get d_C_load_35 xc3 xw3 (by decide) q1_171 (Or.inl rfl)) ?_
  refine x_bok.cons (xs_iload_n d_C_load_38 rfl) ?_
  refine x_bok.cons (xs_iload_n d_C_load_39 rfl) ?_
  refine x_bok.cons (xs_invV d_C_load_40 xc5 sn_D_fill is_D_fill ⟨q4_122, q4_123, q4_124, q1_9⟩ (by decide) (by decide) rfl) ?_
  refine x_bok.cons (xs_iret d_C_load_43 rfl) ?_
  exact x_bok.nil
set_option maxRecDepth 100000 in
theorem mn_C_load : x_bmn b_C_load := by
  unfold b_C_load
  refine x_bmn.cons (xm_aload) ?_
  refine x_bmn.cons (xm_iload) ?_
  refine x_bmn.cons (xm_invV ym_C_machineAt) ?_
  refine x_bmn.cons (xm_astore) ?_
  refine x_bmn.cons (xm_iload) ?_
  refine x_bmn.cons (xm_invS ym_C_isCassette) ?_
  refine x_bmn.cons (xm_if) ?_
  refine x_bmn.cons (xm_iload) ?_
  refine x_bmn.cons (xm_push) ?_
  refine x_bmn.cons (xm_icmp) ?_
  refine x_bmn.cons (xm_iload) ?_
  refine x_bmn.cons (xm_push) ?_
  refine x_bmn.cons (xm_icmp) ?_
  refine x_bmn.cons (xm_push) ?_
  refine x_bmn.cons (xm_goto) ?_
  refine x_bmn.cons (xm_push) ?_
  refine x_bmn.cons (xm_invS ym_C_allow) ?_
  refine x_bmn.cons (xm_aload) ?_
  refine x_bmn.cons (xm_get) ?_
  refine x_bmn.cons (xm_iload) ?_
  refine x_bmn.cons (xm_iload) ?_
  refine x_bmn.cons (xm_invV ym_D_fill) ?_
  refine x_bmn.cons (xm_iret) ?_
  exact x_bmn.nil
theorem is_C_load : x_Is y_C_load m_C_load := x_is_code q4_118
def Y_C_load : XMeth := x_do 5 b_C_load
theorem sn_C_load : x_Snd y_C_load m_C_load Y_C_load := x_snd_of (by decide) rfl rfl is_C_load k_C_load
theorem ym_C_load : x_Ymn Y_C_load := x_ymn_of mn_C_load
/- CashLinkLaw.load(LCashLink;III[J)I -/
abbrev c_L_load : ByteArray := method_11_code
def y_L_load : MethodName := ⟨"CashLinkLaw", "load", "(LCashLink;III[J)I"⟩
theorem d_L_load_0 : decode c_L_load 0 = .ok (.aload 4, 2) := by decide +kernel
theorem d_L_load_2 : decode c_L_load 2 = .ok (.iconst 0, 1) := by decide +kernel
theorem d_L_load_3 : decode c_L_load 3 = .ok (.aload_n 0, 1) := by decide +kernel
theorem d_L_load_4 : decode c_L_load 4 = .ok (.iload_n 1, 1) := by decide +kernel
theorem d_L_load_5 : decode c_L_load 5 = .ok (.iload_n 2, 1) := by decide +kernel
theorem d_L_load_6 : decode c_L_load 6 = .ok (.iload_n 3, 1) := by decide +kernel
theorem d_L_load_7 : decode c_L_load 7 = .ok (.invokevirtual 48, 3) := by decide +kernel
theorem d_L_load_10 : decode c_L_load 10 = .ok (.i2l, 1) := by decide +kernel
theorem d_L_load_11 : decode c_L_load 11 = .ok (.lastore, 1) := by decide +kernel
theorem d_L_load_12 : decode c_L_load 12 = .ok (.goto 11, 3) := by decide +kernel
theorem d_L_load_15 : decode c_L_load 15 = .ok (.astore 5, 2) := by decide +kernel
theorem d_L_load_17 : decode c_L_load 17 = .ok (.iconst 1, 1) := by decide +kernel
theorem d_L_load_18 : decode c_L_load 18 = .ok (.ireturn, 1) := by decide +kernel
theorem d_L_load_19 : decode c_L_load 19 = .ok (.astore 5, 2) := by decide +kernel
theorem d_L_load_21 : decode c_L_load 21 = .ok (.iconst 2, 1) := by decide +kernel
theorem d_L_load_22 : decode c_L_load 22 = .ok (.ireturn, 1) := by decide +kernel
theorem d_L_load_23 : decode c_L_load 23 = .ok (.iconst 0, 1) := by decide +kernel
theorem d_L_load_24 : decode c_L_load 24 = .ok (.ireturn, 1) := by decide +kernel
def m_L_load : XM := ("CashLinkLaw", c_L_load, 6, (some .int), "load", [(0, 12, 15, 13), (0, 12, 19, 15)], 9, 156)
theorem h_L_load_7 : x_hok m_L_load 7 [(11, 15), (12, 19)] := by
  intro ci h hc
  by_cases e0 : ci = 11
  · subst e0
    have hh : h = 15 := (Option.some.inj (hc.symm.trans (by rfl : x_catch [(11, 15), (12, 19)] 11 = some 15)))
    subst hh
    refine ⟨"java/lang/IllegalArgumentException", xT11, 0, [], ⟨0, 12, 15, 13⟩, [⟨0, 12, 19, 15⟩], rfl, rfl, rfl, rfl, by decide, q1_217, ?_⟩
    intro z hz
    cases hz
  by_cases e1 : ci = 12
  · subst e1
    have hh : h = 19 := (Option.some.inj (hc.symm.trans (by rfl : x_catch [(11, 15), (12, 19)] 12 = some 19)))
    subst hh
    refine ⟨"java/lang/IllegalStateException", xT12, 0, [⟨0, 12, 15, 13⟩], ⟨0, 12, 19, 15⟩, [], rfl, rfl, rfl, rfl, by decide, q1_218, ?_⟩
    intro z hz
    simp only [List.mem_cons, List.not_mem_nil, or_false] at hz
    rcases hz with rfl
    · exact Or.inr ⟨by decide, "java/lang/IllegalArgumentException", q1_217, x_inN 0 rfl⟩
  exfalso
  simp only [x_catch] at hc
  rw [if_neg (fun q => e0 q.symm)] at hc
  rw [if_neg (fun q => e1 q.symm)] at hc
  cases hc
def b_L_load : XB := [(0, X_aload 4 2),
  (2, X_push (xv_i 0) 1),
  (3, X_aload 0 1),
  (4, X_iload 1 1),
  (5, X_iload 2 1),
  (6, X_iload 3 1),
  (7, X_invV 0 Y_C_load 3 [(11, 15), (12, 19)]),
  (10, X_i2l),
  (11, X_last 1),
  (12, X_goto 23),
  (15, X_astore 5 2),
  (17, X_push (xv_i 1) 1),
  (18, X_iret),
  (19, X_astore 5 2),
  (21, X_push (xv_i 2) 1),
  (22, X_iret),
  (23, X_push (xv_i 0) 1),
  (24, X_iret)]
set_option maxRecDepth 100000 in
theorem k_L_load : x_bok m_L_load b_L_load := by
  unfold b_L_load
  refine x_bok.cons (xs_aload d_L_load_0) ?_
  refine x_bok.cons (xs_iconst d_L_load_2 (by decide)) ?_
  refine x_bok.cons (xs_aload_n d_L_load_3 rfl) ?_
  refine x_bok.cons (xs_iload_n d_L_load_4 rfl) ?_
  refine x_bok.cons (xs_iload_n d_L_load_5 rfl) ?_
  refine x_bok.cons (xs_iload_n d_L_load_6 rfl) ?_
  refine x_bok.cons (xs_invV d_L_load_7 xc0 sn_C_load is_C_load ⟨q4_115, q4_116, q4_117, q1_1⟩ (by decide) (by decide) h_L_load_7) ?_
  refine x_bok.cons (xs_i2l d_L_load_10) ?_
  refine x_bok.cons (xs_last d_L_load_11 rfl) ?_
  refine x_bok.cons (xs_goto d_L_load_12 (by decide)) ?_
  refine x_bok.cons (xs_astore d_L_load_15 (by decide)) ?_
  refine x_bok.cons (xs_iconst d_L_load_17 (by decide)) ?_
  refine x_bok.cons (xs_iret d_L_load_18 rfl) ?_
  refine x_bok.cons (xs_astore d_L_load_19 (by decide)) ?_
  refine x_bok.cons (xs_iconst d_L_load_21 (by decide)) ?_
  refine x_bok.cons (xs_iret d_L_load_22 rfl) ?_
  refine x_bok.cons (xs_iconst d_L_load_23 (by decide)) ?_
  refine x_bok.cons (xs_iret d_L_load_24 rfl) ?_
  exact x_bok.nil
set_option maxRecDepth 100000 in
theorem mn_L_load : x_bmn b_L_load := by
  unfold b_L_load
  refine x_bmn.cons (xm_aload) ?_
  refine x_bmn.cons (xm_push) ?_
  refine x_bmn.cons (xm_aload) ?_
  refine x_bmn.cons (xm_iload) ?_
  refine x_bmn.cons (xm_iload) ?_
  refine x_bmn.cons (xm_iload) ?_
  refine x_bmn.cons (xm_invV ym_C_load) ?_
  refine x_bmn.cons (xm_i2l) ?_
  refine x_bmn.cons (xm_last) ?_
  refine x_bmn.cons (xm_goto) ?_
  refine x_bmn.cons (xm_astore) ?_
  refine x_bmn.cons (xm_push) ?_
  refine x_bmn.cons (xm_iret) ?_
  refine x_bmn.cons (xm_astore) ?_
  refine x_bmn.cons (xm_push) ?_
  refine x_bmn.cons (xm_iret) ?_
  refine x_bmn.cons (xm_push) ?_
  refine x_bmn.cons (xm_iret) ?_
  exact x_bmn.nil
theorem is_L_load : x_Is y_L_load m_L_load := x_is_with q4_114
def Y_L_load : XMeth := x_do 6 b_L_load
theorem sn_L_load : x_Snd y_L_load m_L_load Y_L_load := x_snd_of (by decide) rfl rfl is_L_load k_L_load
theorem ym_L_load : x_Ymn Y_L_load := x_ymn_of mn_L_load
/- CashLink$Journal.planFailure(II)V -/
abbrev c_J_planFailure : ByteArray := prog_5_method_7_code
def y_J_planFailure : MethodName := ⟨"CashLink$Journal", "planFailure", "(II)V"⟩
theorem d_J_planFailure_0 : decode c_J_planFailure 0 = .ok (.aload_n 0, 1) := by decide +kernel
theorem d_J_planFailure_1 : decode c_J_planFailure 1 = .ok (.iload_n 1, 1) := by decide +kernel
theorem d_J_planFailure_2 : decode c_J_planFailure 2 = .ok (.putfield 37, 3) := by decide +kernel
theorem d_J_planFailure_5 : decode c_J_planFailure 5 = .ok (.aload_n 0, 1) := by decide +kernel
theorem d_J_planFailure_6 : decode c_J_planFailure 6 = .ok (.iload_n 2, 1) := by decide +kernel
theorem d_J_planFailure_7 : decode c_J_planFailure 7 = .ok (.putfield 20, 3) := by decide +kernel
theorem d_J_planFailure_10 : decode c_J_planFailure 10 = .ok (.return_, 1) := by decide +kernel
def m_J_planFailure : XM := ("CashLink$Journal", c_J_planFailure, 3, none, "planFailure", [], 0, 0)
def b_J_planFailure : XB := [(0, X_aload 0 1),
  (1, X_iload 1 1),
  (2, X_put x_tI 4 3),
  (5, X_aload 0 1),
  (6, X_iload 2 1),
  (7, X_put x_tI 4 4),
  (10, X_vret)]
set_option maxRecDepth 100000 in
theorem k_J_planFailure : x_bok m_J_planFailure b_J_planFailure := by
  unfold b_J_planFailure
  refine x_bok.cons (xs_aload_n d_J_planFailure_0 rfl) ?_
  refine x_bok.cons (xs_iload_n d_J_planFailure_1 rfl) ?_
  refine x_bok.cons (xs_put d_J_planFailure_2 xc4 xw4 xt4 xn4 (by decide) q1_99 (Or.inl rfl) rfl rfl x_fitI) ?_
  refine x_bok.cons (xs_aload_n d_J_planFailure_5 rfl) ?_
  refine x_bok.cons (xs_iload_n d_J_planFailure_6 rfl) ?_
  refine x_bok.cons (xs_put d_J_planFailure_7 xc4 xw4 xt4 xn4 (by decide) q1_100 (Or.inl rfl) rfl rfl x_fitI) ?_
  refine x_bok.cons (xs_vret d_J_planFailure_10 rfl) ?_
  exact x_bok.nil
set_option maxRecDepth 100000 in
theorem mn_J_planFailure : x_bmn b_J_planFailure := by
  unfold b_J_planFailure
  refine x_bmn.cons (xm_aload) ?_
  refine x_bmn.cons (xm_iload) ?_
  refine x_bmn.cons (xm_put) ?_
  refine x_bmn.cons (xm_aload) ?_
  refine x_bmn.cons (xm_iload) ?_
  refine x_bmn.cons (xm_put) ?_
  refine x_bmn.cons (xm_vret) ?_
  exact x_bmn.nil
theorem is_J_planFailure : x_Is y_J_planFailure m_J_planFailure := x_is_code q4_137
def Y_J_planFailure : XMeth := x_do 3 b_J_planFailure
theorem sn_J_planFailure : x_Snd y_J_planFailure m_J_planFailure Y_J_planFailure := x_snd_of (by decide) rfl rfl is_J_planFailure k_J_planFailure
theorem ym_J_planFailure : x_Ymn Y_J_planFailure := x_ymn_of mn_J_planFailure
/- CashLink.power(III)V -/
abbrev c_C_power : ByteArray := prog_1_method_11_code
def y_C_power : MethodName := ⟨"CashLink", "power", "(III)V"⟩
theorem d_C_power_0 : decode c_C_power 0 = .ok (.iload_n 1, 1) := by decide +kernel
theorem d_C_power_1 : decode c_C_power 1 = .ok (.ifCond .lt 32, 3) := by decide +kernel
theorem d_C_power_4 : decode c_C_power 4 = .ok (.iload_n 1, 1) := by decide +kernel
theorem d_C_power_5 : decode c_C_power 5 = .ok (.iconst 4, 1) := by decide +kernel
theorem d_C_power_6 : decode c_C_power 6 = .ok (.if_icmp .gt 27, 3) := by decide +kernel
theorem d_C_power_9 : decode c_C_power 9 = .ok (.iload_n 2, 1) := by decide +kernel
theorem d_C_power_10 : decode c_C_power 10 = .ok (.ifCond .lt 23, 3) := by decide +kernel
theorem d_C_power_13 : decode c_C_power 13 = .ok (.iload_n 2, 1) := by decide +kernel
theorem d_C_power_14 : decode c_C_power 14 = .ok (.bipush 50, 2) := by decide +kernel
theorem d_C_power_16 : decode c_C_power 16 = .ok (.if_icmp .gt 17, 3) := by decide +kernel
theorem d_C_power_19 : decode c_C_power 19 = .ok (.iload_n 3, 1) := by decide +kernel
theorem d_C_power_20 : decode c_C_power 20 = .ok (.ifCond .lt 13, 3) := by decide +kernel
theorem d_C_power_23 : decode c_C_power 23 = .ok (.iload_n 3, 1) := by decide +kernel
theorem d_C_power_24 : decode c_C_power 24 = .ok (.bipush 17, 2) := by decide +kernel
theorem d_C_power_26 : decode c_C_power 26 = .ok (.if_icmp .gt 7, 3) := by decide +kernel
theorem d_C_power_29 : decode c_C_power 29 = .ok (.iconst 1, 1) := by decide +kernel
theorem d_C_power_30 : decode c_C_power 30 = .ok (.goto 4, 3) := by decide +kernel
theorem d_C_power_33 : decode c_C_power 33 = .ok (.iconst 0, 1) := by decide +kernel
theorem d_C_power_34 : decode c_C_power 34 = .ok (.invokestatic 46, 3) := by decide +kernel
theorem d_C_power_37 : decode c_C_power 37 = .ok (.iload_n 1, 1) := by decide +kernel
theorem d_C_power_38 : decode c_C_power 38 = .ok (.iconst 4, 1) := by decide +kernel
theorem d_C_power_39 : decode c_C_power 39 = .ok (.if_icmp .ne 13, 3) := by decide +kernel
theorem d_C_power_42 : decode c_C_power 42 = .ok (.aload_n 0, 1) := by decide +kernel
theorem d_C_power_43 : decode c_C_power 43 = .ok (.getfield 31, 3) := by decide +kernel
theorem d_C_power_46 : decode c_C_power 46 = .ok (.getfield 117, 3) := by decide +kernel
theorem d_C_power_49 : decode c_C_power 49 = .ok (.goto 12, 3) := by decide +kernel
theorem d_C_power_52 : decode c_C_power 52 = .ok (.aload_n 0, 1) := by decide +kernel
theorem d_C_power_53 : decode c_C_power 53 = .ok (.getfield 11, 3) := by decide +kernel
theorem d_C_power_56 : decode c_C_power 56 = .ok (.iload_n 1, 1) := by decide +kernel
theorem d_C_power_57 : decode c_C_power 57 = .ok (.aaload, 1) := by decide +kernel
theorem d_C_power_58 : decode c_C_power 58 = .ok (.getfield 121, 3) := by decide +kernel
theorem d_C_power_61 : decode c_C_power 61 = .ok (.astore 4, 2) := by decide +kernel
theorem d_C_power_63 : decode c_C_power 63 = .ok (.aload 4, 2) := by decide +kernel
theorem d_C_power_65 : decode c_C_power 65 = .ok (.iload_n 2, 1) := by decide +kernel
theorem d_C_power_66 : decode c_C_power 66 = .ok (.iload_n 3, 1) := by decide +kernel
theorem d_C_power_67 : decode c_C_power 67 = .ok (.invokevirtual 122, 3) := by decide +kernel
theorem d_C_power_70 : decode c_C_power 70 = .ok (.return_, 1) := by decide +kernel
def m_C_power : XM := ("CashLink", c_C_power, 5, none, "power", [], 7, 110)
def b_C_power : XB := [(0, X_iload 1 1),
  (1, X_if (fun x => x < 0) 33),
  (4, X_iload 1 1),
  (5, X_push (xv_i 4) 1),
  (6, X_icmp (fun x y => y < x) 33),
  (9, X_iload 2 1),
  (10, X_if (fun x => x < 0) 33),
  (13, X_iload 2 1),
  (14, X_push (xv_i 50) 2),
  (16, X_icmp (fun x y => y < x) 33),
  (19, X_iload 3 1),
  (20, X_if (fun x => x < 0) 33),
  (23, X_iload 3 1),
  (24, X_push (xv_i 17) 2),
  (26, X_icmp (fun x y => y < x) 33),
  (29, X_push (xv_i 1) 1),
  (30, X_goto 34),
  (33, X_push (xv_i 0) 1),
  (34, X_invS Y_C_allow 1 []),
  (37, X_iload 1 1),
  (38, X_push (xv_i 4) 1),
  (39, X_icmp (fun x y => ¬ x = y) 52),
  (42, X_aload 0 1),
  (43, X_get 0 1),
  (46, X_get 2 1),
  (49, X_goto 61),
  (52, X_aload 0 1),
  (53, X_get 0 2),
  (56, X_iload 1 1),
  (57, X_aald 4),
  (58, X_get 3 3),
  (61, X_astore 4 2),
  (63, X_aload 4 2),
  (65, X_iload 2 1),
  (66, X_iload 3 1),
  (67, X_invV 4 Y_J_planFailure 2 []),
  (70, X_vret)]
set_option maxRecDepth 100000 in
theorem k_C_power : x_bok m_C_power b_C_power := by
  unfold b_C_power
  refine x_bok.cons (xs_iload_n d_C_power_0 rfl) ?_
  refine x_bok.cons (xs_if_lt d_C_power_1 (by decide)) ?_
  refine x_bok.cons (xs_iload_n d_C_power_4 rfl) ?_
  refine x_bok.cons (xs_iconst d_C_power_5 (by decide)) ?_
  refine x_bok.cons (xs_icmp_gt d_C_power_6 (by decide)) ?_
  refine x_bok.cons (xs_iload_n d_C_power_9 rfl) ?_
  refine x_bok.cons (xs_if_lt d_C_power_10 (by decide)) ?_
  refine x_bok.cons (xs_iload_n d_C_power_13 rfl) ?_
  refine x_bok.cons (xs_bipush d_C_power_14 (by decide)) ?_
  refine x_bok.cons (xs_icmp_gt d_C_power_16 (by decide)) ?_
  refine x_bok.cons (xs_iload_n d_C_power_19 rfl) ?_
  refine x_bok.cons (xs_if_lt d_C_power_20 (by decide)) ?_
  refine x_bok.cons (xs_iload_n d_C_power_23 rfl) ?_
  refine x_bok.cons (xs_bipush d_C_power_24 (by decide)) ?_
  refine x_bok.cons (xs_icmp_gt d_C_power_26 (by decide)) ?_
  refine x_bok.cons (xs_iconst d_C_power_29 (by decide)) ?_
  refine x_bok.cons (xs_goto d_C_power_30 (by decide)) ?_
  refine x_bok.cons (xs_iconst d_C_power_33 (by decide)) ?_
  refine x_bok.cons (xs_invS d_C_power_34 sn_C_allow is_C_allow ⟨q1_227, q1_228, q1_1⟩ (by decide) (by decide) rfl) ?_
  refine x_bok.cons (xs_iload_n d_C_power_37 rfl) ?_
  refine x_bok.cons (xs_iconst d_C_power_38 (by decide)) ?_
  refine x_bok.cons (xs_icmp_ne d_C_power_39 (by decide)) ?_
  refine x_bok.cons (xs_aload_n d_C_power_42 rfl) ?_
  refine x_bok.cons (xs_get d_C_power_43 xc0 xw0 (by decide) q1_202 (Or.inl rfl)) ?_
  refine x_bok.cons (xs_get d_C_power_46 xc2 xw2 (by decide) q1_115 (Or.inl rfl)) ?_
  refine x_bok.cons (xs_goto d_C_power_49 (by decide)) ?_
  refine x_bok.cons (xs_aload_n d_C_power_52 rfl) ?_
  refine x_bok.cons (xs_get d_C_power_53 xc0 xw0 (by decide) q1_203 (Or.inl rfl)) ?_
  refine x_bok.cons (xs_iload_n d_C_power_56 rfl) ?_
  refine x_bok.cons (xs_aald d_C_power_57 rfl) ?_
  refine x_bok.cons (xs_get d_C_power_58 xc3 xw3 (by decide) q1_169 (Or.inl rfl)) ?_
  refine x_bok.cons (xs_astore d_C_power_61 (by decide)) ?_
  refine x_bok.cons (xs_aload d_C_power_63) ?_
  refine x_bok.cons (xs_iload_n d_C_power_65 rfl) ?_
  refine x_bok.cons (xs_iload_n d_C_power_66 rfl) ?_
  refine x_bok.cons (xs_invV d_C_power_67 xc4 sn_J_planFailure is_J_planFailure ⟨q4_134, q4_135, q4_136, q1_7⟩ (by decide) (by decide) rfl) ?_
  refine x_bok.cons (xs_vret d_C_power_70 rfl) ?_
  exact x_bok.nil
set_option maxRecDepth 100000 in
theorem mn_C_power : x_bmn b_C_power := by
  unfold b_C_power
  refine x_bmn.cons (xm_iload) ?_
  refine x_bmn.cons (xm_if) ?_
  refine x_bmn.cons (xm_iload) ?_
  refine x_bmn.cons (xm_push) ?_
  refine x_bmn.cons (xm_icmp) ?_
  refine x_bmn.cons (xm_iload) ?_
  refine x_bmn.cons (xm_if) ?_
  refine x_bmn.cons (xm_iload) ?_
  refine x_bmn.cons (xm_push) ?_
  refine x_bmn.cons (xm_icmp) ?_
  refine x_bmn.cons (xm_iload) ?_
  refine x_bmn.cons (xm_if) ?_
  refine x_bmn.cons (xm_iload) ?_
  refine x_bmn.cons (xm_push) ?_
  refine x_bmn.cons (xm_icmp) ?_
  refine x_bmn.cons (xm_push) ?_
  refine x_bmn.cons (xm_goto) ?_
  refine x_bmn.cons (xm_push) ?_
  refine x_bmn.cons (xm_invS ym_C_allow) ?_
  refine x_bmn.cons (xm_iload) ?_
  refine x_bmn.cons (xm_push) ?_
  refine x_bmn.cons (xm_icmp) ?_
  refine x_bmn.cons (xm_aload) ?_
  refine x_bmn.cons (xm_get) ?_
  refine x_bmn.cons (xm_get) ?_
  refine x_bmn.cons (xm_goto) ?_
  refine x_bmn.cons (xm_aload) ?_
  refine x_bmn.cons (xm_get) ?_
  refine x_bmn.cons (xm_iload) ?_
  refine x_bmn.cons (xm_aald) ?_
  refine x_bmn.cons (xm_get) ?_
  refine x_bmn.cons (xm_astore) ?_
  refine x_bmn.cons (xm_aload) ?_
  refine x_bmn.cons (xm_iload) ?_
  refine x_bmn.cons (xm_iload) ?_
  refine x_bmn.cons (xm_invV ym_J_planFailure) ?_
  refine x_bmn.cons (xm_vret) ?_
  exact x_bmn.nil
theorem is_C_power : x_Is y_C_power m_C_power := x_is_code q4_133
def Y_C_power : XMeth := x_do 5 b_C_power
theorem sn_C_power : x_Snd y_C_power m_C_power Y_C_power := x_snd_of (by decide) rfl rfl is_C_power k_C_power
theorem ym_C_power : x_Ymn Y_C_power := x_ymn_of mn_C_power
/- CashLinkLaw.power(LCashLink;III)I -/
abbrev c_L_power : ByteArray := method_12_code
def y_L_power : MethodName := ⟨"CashLinkLaw", "power", "(LCashLink;III)I"⟩
theorem d_L_power_0 : decode c_L_power 0 = .ok (.aload_n 0, 1) := by decide +kernel
theorem d_L_power_1 : decode c_L_power 1 = .ok (.iload_n 1, 1) := by decide +kernel
theorem d_L_power_2 : decode c_L_power 2 = .ok (.iload_n 2, 1) := by decide +kernel
theorem d_L_power_3 : decode c_L_power 3 = .ok (.iload_n 3, 1) := by decide +kernel
theorem d_L_power_4 : decode c_L_power 4 = .ok (.invokevirtual 52, 3) := by decide +kernel
theorem d_L_power_7 : decode c_L_power 7 = .ok (.goto 7, 3) := by decide +kernel
theorem d_L_power_10 : decode c_L_power 10 = .ok (.astore 4, 2) := by decide +kernel
theorem d_L_power_12 : decode c_L_power 12 = .ok (.iconst 1, 1) := by decide +kernel
theorem d_L_power_13 : decode c_L_power 13 = .ok (.ireturn, 1) := by decide +kernel
theorem d_L_power_14 : decode c_L_power 14 = .ok (.iconst 0, 1) := by decide +kernel
theorem d_L_power_15 : decode c_L_power 15 = .ok (.ireturn, 1) := by decide +kernel
def m_L_power : XM := ("CashLinkLaw", c_L_power, 5, (some .int), "power", [(0, 7, 10, 13)], 8, 134)
theorem h_L_power_4 : x_hok m_L_power 4 [(11, 10)] := by
  intro ci h hc
  by_cases e0 : ci = 11
  · subst e0
    have hh : h = 10 := (Option.some.inj (hc.symm.trans (by rfl : x_catch [(11, 10)] 11 = some 10)))
    subst hh
    refine ⟨"java/lang/IllegalArgumentException", xT11, 0, [], ⟨0, 7, 10, 13⟩, [], rfl, rfl, rfl, rfl, by decide, q1_217, ?_⟩
    intro z hz
    cases hz
  exfalso
  simp only [x_catch] at hc
  rw [if_neg (fun q => e0 q.symm)] at hc
  cases hc
def b_L_power : XB := [(0, X_aload 0 1),
  (1, X_iload 1 1),
  (2, X_iload 2 1),
  (3, X_iload 3 1),
  (4, X_invV 0 Y_C_power 3 [(11, 10)]),
  (7, X_goto 14),
  (10, X_astore 4 2),
  (12, X_push (xv_i 1) 1),
  (13, X_iret),
  (14, X_push (xv_i 0) 1),
  (15, X_iret)]
set_option maxRecDepth 100000 in
theorem k_L_power : x_bok m_L_power b_L_power := by
  unfold b_L_power
  refine x_bok.cons (xs_aload_n d_L_power_0 rfl) ?_
  refine x_bok.cons (xs_iload_n d_L_power_1 rfl) ?_
  refine x_bok.cons (xs_iload_n d_L_power_2 rfl) ?_
  refine x_bok.cons (xs_iload_n d_L_power_3 rfl) ?_
  refine x_bok.cons (xs_invV d_L_power_4 xc0 sn_C_power is_C_power ⟨q4_130, q4_131, q4_132, q1_1⟩ (by decide) (by decide) h_L_power_4) ?_
  refine x_bok.cons (xs_goto d_L_power_7 (by decide)) ?_
  refine x_bok.cons (xs_astore d_L_power_10 (by decide)) ?_
  refine x_bok.cons (xs_iconst d_L_power_12 (by decide)) ?_
  refine x_bok.cons (xs_iret d_L_power_13 rfl) ?_
  refine x_bok.cons (xs_iconst d_L_power_14 (by decide)) ?_
  refine x_bok.cons (xs_iret d_L_power_15 rfl) ?_
  exact x_bok.nil
set_option maxRecDepth 100000 in
theorem mn_L_power : x_bmn b_L_power := by
  unfold b_L_power
  refine x_bmn.cons (xm_aload) ?_
  refine x_bmn.cons (xm_iload) ?_
  refine x_bmn.cons (xm_iload) ?_
  refine x_bmn.cons (xm_iload) ?_
  refine x_bmn.cons (xm_invV ym_C_power) ?_
  refine x_bmn.cons (xm_goto) ?_
  refine x_bmn.cons (xm_astore) ?_
  refine x_bmn.cons (xm_push) ?_
  refine x_bmn.cons (xm_iret) ?_
  refine x_bmn.cons (xm_push) ?_
  refine x_bmn.cons (xm_iret) ?_
  exact x_bmn.nil
theorem is_L_power : x_Is y_L_power m_L_power := x_is_with q4_129
def Y_L_power : XMeth := x_do 5 b_L_power
theorem sn_L_power : x_Snd y_L_power m_L_power Y_L_power := x_snd_of (by decide) rfl rfl is_L_power k_L_power
theorem ym_L_power : x_Ymn Y_L_power := x_ymn_of mn_L_power
/- CashLink$Journal.turnOn()V -/
abbrev c_J_turnOn : ByteArray := prog_5_method_6_code
def y_J_turnOn : MethodName := ⟨"CashLink$Journal", "turnOn", "()V"⟩
theorem d_J_turnOn_0 : decode c_J_turnOn 0 = .ok (.aload_n 0, 1) := by decide +kernel
theorem d_J_turnOn_1 : decode c_J_turnOn 1 = .ok (.iconst 1, 1) := by decide +kernel
theorem d_J_turnOn_2 : decode c_J_turnOn 2 = .ok (.putfield 16, 3) := by decide +kernel
theorem d_J_turnOn_5 : decode c_J_turnOn 5 = .ok (.return_, 1) := by decide +kernel
def m_J_turnOn : XM := ("CashLink$Journal", c_J_turnOn, 1, none, "turnOn", [], 0, 0)
def b_J_turnOn : XB := [(0, X_aload 0 1),
  (1, X_push (xv_i 1) 1),
  (2, X_put x_tZ 4 2),
  (5, X_vret)]
set_option maxRecDepth 100000 in
theorem k_J_turnOn : x_bok m_J_turnOn b_J_turnOn := by
  unfold b_J_turnOn
  refine x_bok.cons (xs_aload_n d_J_turnOn_0 rfl) ?_
  refine x_bok.cons (xs_iconst d_J_turnOn_1 (by decide)) ?_
  refine x_bok.cons (xs_put d_J_turnOn_2 xc4 xw4 xt4 xn4 (by decide) q1_98 (Or.inl rfl) rfl rfl x_fitZ) ?_
  refine x_bok.cons (xs_vret d_J_turnOn_5 rfl) ?_
  exact x_bok.nil
set_option maxRecDepth 100000 in
theorem mn_J_turnOn : x_bmn b_J_turnOn := by
  unfold b_J_turnOn
  refine x_bmn.cons (xm_aload) ?_
  refine x_bmn.cons (xm_push) ?_
  refine x_bmn.cons (xm_put) ?_
  refine x_bmn.cons (xm_vret) ?_
  exact x_bmn.nil
theorem is_J_turnOn : x_Is y_J_turnOn m_J_turnOn := x_is_code q4_152
def Y_J_turnOn : XMeth := x_do 1 b_J_turnOn
theorem sn_J_turnOn : x_Snd y_J_turnOn m_J_turnOn Y_J_turnOn := x_snd_of (by decide) rfl rfl is_J_turnOn k_J_turnOn
theorem ym_J_turnOn : x_Ymn Y_J_turnOn := x_ymn_of mn_J_turnOn
/- CashLink$Bank.turnOn()I -/
abbrev c_B_turnOn : ByteArray := prog_2_method_2_code
def y_B_turnOn : MethodName := ⟨"CashLink$Bank", "turnOn", "()I"⟩
theorem d_B_turnOn_0 : decode c_B_turnOn 0 = .ok (.aload_n 0, 1) := by decide +kernel
theorem d_B_turnOn_1 : decode c_B_turnOn 1 = .ok (.getfield 16, 3) := by decide +kernel
theorem d_B_turnOn_4 : decode c_B_turnOn 4 = .ok (.invokevirtual 28, 3) := by decide +kernel
theorem d_B_turnOn_7 : decode c_B_turnOn 7 = .ok (.aload_n 0, 1) := by decide +kernel
theorem d_B_turnOn_8 : decode c_B_turnOn 8 = .ok (.getfield 16, 3) := by decide +kernel
theorem d_B_turnOn_11 : decode c_B_turnOn 11 = .ok (.invokevirtual 31, 3) := by decide +kernel
theorem d_B_turnOn_14 : decode c_B_turnOn 14 = .ok (.ireturn, 1) := by decide +kernel
def m_B_turnOn : XM := ("CashLink$Bank", c_B_turnOn, 1, (some .int), "turnOn", [], 2, 40)
def b_B_turnOn : XB := [(0, X_aload 0 1),
  (1, X_get 2 1),
  (4, X_invV 4 Y_J_turnOn 0 []),
  (7, X_aload 0 1),
  (8, X_get 2 1),
  (11, X_invV 4 Y_J_size 0 []),
  (14, X_iret)]
set_option maxRecDepth 100000 in
theorem k_B_turnOn : x_bok m_B_turnOn b_B_turnOn := by
  unfold b_B_turnOn
  refine x_bok.cons (xs_aload_n d_B_turnOn_0 rfl) ?_
  refine x_bok.cons (xs_get d_B_turnOn_1 xc2 xw2 (by decide) q1_114 (Or.inl rfl)) ?_
  refine x_bok.cons (xs_invV d_B_turnOn_4 xc4 sn_J_turnOn is_J_turnOn ⟨q4_149, q4_150, q4_151, q1_7⟩ (by decide) (by decide) rfl) ?_
  refine x_bok.cons (xs_aload_n d_B_turnOn_7 rfl) ?_
  refine x_bok.cons (xs_get d_B_turnOn_8 xc2 xw2 (by decide) q1_114 (Or.inl rfl)) ?_
  refine x_bok.cons (xs_invV d_B_turnOn_11 xc4 sn_J_size is_J_size ⟨q3_236, q3_131, q3_132, q1_7⟩ (by decide) (by decide) rfl) ?_
  refine x_bok.cons (xs_iret d_B_turnOn_14 rfl) ?_
  exact x_bok.nil
set_option maxRecDepth 100000 in
theorem mn_B_turnOn : x_bmn b_B_turnOn := by
  unfold b_B_turnOn
  refine x_bmn.cons (xm_aload) ?_
  refine x_bmn.cons (xm_get) ?_
  refine x_bmn.cons (xm_invV ym_J_turnOn) ?_
  refine x_bmn.cons (xm_aload) ?_
  refine x_bmn.cons (xm_get) ?_
  refine x_bmn.cons (xm_invV ym_J_size) ?_
  refine x_bmn.cons (xm_iret) ?_
  exact x_bmn.nil
theorem is_B_turnOn : x_Is y_B_turnOn m_B_turnOn := x_is_code q4_148
def Y_B_turnOn : XMeth := x_do 1 b_B_turnOn
theorem sn_B_turnOn : x_Snd y_B_turnOn m_B_turnOn Y_B_turnOn := x_snd_of (by decide) rfl rfl is_B_turnOn k_B_turnOn
theorem ym_B_turnOn : x_Ymn Y_B_turnOn := x_ymn_of mn_B_turnOn
/- java/util/ArrayList.clear()V -/
abbrev c_A_clear : ByteArray := prog_35_method_40_code
def y_A_clear : MethodName := ⟨"java/util/ArrayList", "clear", "()V"⟩
theorem d_A_clear_0 : decode c_A_clear 0 = .ok (.aload_n 0, 1) := by decide +kernel
theorem d_A_clear_1 : decode c_A_clear 1 = .ok (.dup, 1) := by decide +kernel
theorem d_A_clear_2 : decode c_A_clear 2 = .ok (.getfield 63, 3) := by decide +kernel
theorem d_A_clear_5 : decode c_A_clear 5 = .ok (.iconst 1, 1) := by decide +kernel
theorem d_A_clear_6 : decode c_A_clear 6 = .ok (.iadd, 1) := by decide +kernel
theorem d_A_clear_7 : decode c_A_clear 7 = .ok (.putfield 63, 3) := by decide +kernel
theorem d_A_clear_10 : decode c_A_clear 10 = .ok (.aload_n 0, 1) := by decide +kernel
theorem d_A_clear_11 : decode c_A_clear 11 = .ok (.getfield 9, 3) := by decide +kernel
theorem d_A_clear_14 : decode c_A_clear 14 = .ok (.astore_n 1, 1) := by decide +kernel
theorem d_A_clear_15 : decode c_A_clear 15 = .ok (.aload_n 0, 1) := by decide +kernel
theorem d_A_clear_16 : decode c_A_clear 16 = .ok (.getfield 48, 3) := by decide +kernel
theorem d_A_clear_19 : decode c_A_clear 19 = .ok (.istore_n 2, 1) := by decide +kernel
theorem d_A_clear_20 : decode c_A_clear 20 = .ok (.aload_n 0, 1) := by decide +kernel
theorem d_A_clear_21 : decode c_A_clear 21 = .ok (.iconst 0, 1) := by decide +kernel
theorem d_A_clear_22 : decode c_A_clear 22 = .ok (.dup_x1, 1) := by decide +kernel
theorem d_A_clear_23 : decode c_A_clear 23 = .ok (.putfield 48, 3) := by decide +kernel
theorem d_A_clear_26 : decode c_A_clear 26 = .ok (.istore_n 3, 1) := by decide +kernel
theorem d_A_clear_27 : decode c_A_clear 27 = .ok (.iload_n 3, 1) := by decide +kernel
theorem d_A_clear_28 : decode c_A_clear 28 = .ok (.iload_n 2, 1) := by decide +kernel
theorem d_A_clear_29 : decode c_A_clear 29 = .ok (.if_icmp .ge 13, 3) := by decide +kernel
theorem d_A_clear_32 : decode c_A_clear 32 = .ok (.aload_n 1, 1) := by decide +kernel
theorem d_A_clear_33 : decode c_A_clear 33 = .ok (.iload_n 3, 1) := by decide +kernel
theorem d_A_clear_34 : decode c_A_clear 34 = .ok (.aconst_null, 1) := by decide +kernel
theorem d_A_clear_35 : decode c_A_clear 35 = .ok (.aastore, 1) := by decide +kernel
theorem d_A_clear_36 : decode c_A_clear 36 = .ok (.iinc 3 1, 3) := by decide +kernel
theorem d_A_clear_39 : decode c_A_clear 39 = .ok (.goto (-12), 3) := by decide +kernel
theorem d_A_clear_42 : decode c_A_clear 42 = .ok (.return_, 1) := by decide +kernel
def m_A_clear : XM := ("java/util/ArrayList", c_A_clear, 4, none, "clear", [], 0, 0)
def b_A_clear : XB := [(0, X_aload 0 1),
  (1, X_dup),
  (2, X_get 8 2),
  (5, X_push (xv_i 1) 1),
  (6, X_bin (fun x y => x + y)),
  (7, X_put x_tI 8 2),
  (10, X_aload 0 1),
  (11, X_get 8 0),
  (14, X_astore 1 1),
  (15, X_aload 0 1),
  (16, X_get 8 1),
  (19, X_istore 2 1),
  (20, X_aload 0 1),
  (21, X_push (xv_i 0) 1),
  (22, X_dup_x1),
  (23, X_put x_tI 8 1),
  (26, X_istore 3 1),
  (27, X_iload 3 1),
  (28, X_iload 2 1),
  (29, X_icmp (fun x y => y ≤ x) 42),
  (32, X_aload 1 1),
  (33, X_iload 3 1),
  (34, X_push xv_n 1),
  (35, X_aastD),
  (36, X_iinc 3 1),
  (39, X_goto 27),
  (42, X_vret)]
set_option maxRecDepth 100000 in
theorem k_A_clear : x_bok m_A_clear b_A_clear := by
  unfold b_A_clear
  refine x_bok.cons (xs_aload_n d_A_clear_0 rfl) ?_
  refine x_bok.cons (xs_dup d_A_clear_1) ?_
  refine x_bok.cons (xs_get d_A_clear_2 xc8 xw8 (by decide) q1_69 (Or.inr q1_70)) ?_
  refine x_bok.cons (xs_iconst d_A_clear_5 (by decide)) ?_
  refine x_bok.cons (xs_iadd d_A_clear_6) ?_
  refine x_bok.cons (xs_put d_A_clear_7 xc8 xw8 xt8 xn8 (by decide) q1_69 (Or.inr q1_70) rfl rfl x_fitI) ?_
  refine x_bok.cons (xs_aload_n d_A_clear_10 rfl) ?_
  refine x_bok.cons (xs_get d_A_clear_11 xc8 xw8 (by decide) q1_66 (Or.inl rfl)) ?_
  refine x_bok.cons (xs_astore_n d_A_clear_14 rfl (by decide)) ?_
  refine x_bok.cons (xs_aload_n d_A_clear_15 rfl) ?_
  refine x_bok.cons (xs_get d_A_clear_16 xc8 xw8 (by decide) q1_67 (Or.inl rfl)) ?_
  refine x_bok.cons (xs_istore_n d_A_clear_19 rfl (by decide)) ?_
  refine x_bok.cons (xs_aload_n d_A_clear_20 rfl) ?_
  refine x_bok.cons (xs_iconst d_A_clear_21 (by decide)) ?_
  refine x_bok.cons (xs_dup_x1 d_A_clear_22) ?_
  refine x_bok.cons (xs_put d_A_clear_23 xc8 xw8 xt8 xn8 (by decide) q1_67 (Or.inl rfl) rfl rfl x_fitI) ?_
  refine x_bok.cons (xs_istore_n d_A_clear_26 rfl (by decide)) ?_
  refine x_bok.cons (xs_iload_n d_A_clear_27 rfl) ?_
  refine x_bok.cons (xs_iload_n d_A_clear_28 rfl) ?_
  refine x_bok.cons (xs_icmp_ge d_A_clear_29 (by decide)) ?_
  refine x_bok.cons (xs_aload_n d_A_clear_32 rfl) ?_
  refine x_bok.cons (xs_iload_n d_A_clear_33 rfl) ?_
  refine x_bok.cons (xs_null d_A_clear_34) ?_
  refine x_bok.cons (xs_aastD d_A_clear_35) ?_
  refine x_bok.cons (xs_iinc d_A_clear_36 (by decide) (by decide)) ?_
  refine x_bok.cons (xs_goto d_A_clear_39 (by decide)) ?_
  refine x_bok.cons (xs_vret d_A_clear_42 rfl) ?_
  exact x_bok.nil
set_option maxRecDepth 100000 in
theorem mn_A_clear : x_bmn b_A_clear := by
  unfold b_A_clear
  refine x_bmn.cons (xm_aload) ?_
  refine x_bmn.cons (xm_dup) ?_
  refine x_bmn.cons (xm_get) ?_
  refine x_bmn.cons (xm_push) ?_
  refine x_bmn.cons (xm_bin) ?_
  refine x_bmn.cons (xm_put) ?_
  refine x_bmn.cons (xm_aload) ?_
  refine x_bmn.cons (xm_get) ?_
  refine x_bmn.cons (xm_astore) ?_
  refine x_bmn.cons (xm_aload) ?_
  refine x_bmn.cons (xm_get) ?_
  refine x_bmn.cons (xm_istore) ?_
  refine x_bmn.cons (xm_aload) ?_
  refine x_bmn.cons (xm_push) ?_
  refine x_bmn.cons (xm_dup_x1) ?_
  refine x_bmn.cons (xm_put) ?_
  refine x_bmn.cons (xm_istore) ?_
  refine x_bmn.cons (xm_iload) ?_
  refine x_bmn.cons (xm_iload) ?_
  refine x_bmn.cons (xm_icmp) ?_
  refine x_bmn.cons (xm_aload) ?_
  refine x_bmn.cons (xm_iload) ?_
  refine x_bmn.cons (xm_push) ?_
  refine x_bmn.cons (xm_aastD) ?_
  refine x_bmn.cons (xm_iinc) ?_
  refine x_bmn.cons (xm_goto) ?_
  refine x_bmn.cons (xm_vret) ?_
  exact x_bmn.nil
theorem is_A_clear : x_Is y_A_clear m_A_clear := x_is_code q4_165
def Y_A_clear : XMeth := x_do 4 b_A_clear
theorem sn_A_clear : x_Snd y_A_clear m_A_clear Y_A_clear := x_snd_of (by decide) rfl rfl is_A_clear k_A_clear
theorem ym_A_clear : x_Ymn Y_A_clear := x_ymn_of mn_A_clear
