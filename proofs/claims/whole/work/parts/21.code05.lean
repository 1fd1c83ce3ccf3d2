/- CashLinkLaw.settle(LCashLink;I[J)I -/
abbrev c_L_settle : ByteArray := method_8_code
def y_L_settle : MethodName := ⟨"CashLinkLaw", "settle", "(LCashLink;I[J)I"⟩
theorem d_L_settle_0 : decode c_L_settle 0 = .ok (.aload_n 2, 1) := by decide +kernel
theorem d_L_settle_1 : decode c_L_settle 1 = .ok (.iconst 0, 1) := by decide +kernel
theorem d_L_settle_2 : decode c_L_settle 2 = .ok (.aload_n 0, 1) := by decide +kernel
theorem d_L_settle_3 : decode c_L_settle 3 = .ok (.iload_n 1, 1) := by decide +kernel
theorem d_L_settle_4 : decode c_L_settle 4 = .ok (.invokevirtual 37, 3) := by decide +kernel
theorem d_L_settle_7 : decode c_L_settle 7 = .ok (.i2l, 1) := by decide +kernel
theorem d_L_settle_8 : decode c_L_settle 8 = .ok (.lastore, 1) := by decide +kernel
theorem d_L_settle_9 : decode c_L_settle 9 = .ok (.goto 9, 3) := by decide +kernel
theorem d_L_settle_12 : decode c_L_settle 12 = .ok (.astore_n 3, 1) := by decide +kernel
theorem d_L_settle_13 : decode c_L_settle 13 = .ok (.iconst 1, 1) := by decide +kernel
theorem d_L_settle_14 : decode c_L_settle 14 = .ok (.ireturn, 1) := by decide +kernel
theorem d_L_settle_15 : decode c_L_settle 15 = .ok (.astore_n 3, 1) := by decide +kernel
theorem d_L_settle_16 : decode c_L_settle 16 = .ok (.iconst 2, 1) := by decide +kernel
theorem d_L_settle_17 : decode c_L_settle 17 = .ok (.ireturn, 1) := by decide +kernel
theorem d_L_settle_18 : decode c_L_settle 18 = .ok (.iconst 0, 1) := by decide +kernel
theorem d_L_settle_19 : decode c_L_settle 19 = .ok (.ireturn, 1) := by decide +kernel
def m_L_settle : XM := ("CashLinkLaw", c_L_settle, 4, (some .int), "settle", [(0, 9, 12, 13), (0, 9, 15, 15)], 10, 227)
theorem h_L_settle_4 : x_hok m_L_settle 4 [(11, 12), (12, 15)] := by
  intro ci h hc
  by_cases e0 : ci = 11
  · subst e0
    have hh : h = 12 := (Option.some.inj (hc.symm.trans (by rfl : x_catch [(11, 12), (12, 15)] 11 = some 12)))
    subst hh
    refine ⟨"java/lang/IllegalArgumentException", xT11, 0, [], ⟨0, 9, 12, 13⟩, [⟨0, 9, 15, 15⟩], rfl, rfl, rfl, rfl, by decide, q1_217, ?_⟩
    intro z hz
    cases hz
  by_cases e1 : ci = 12
  · subst e1
    have hh : h = 15 := (Option.some.inj (hc.symm.trans (by rfl : x_catch [(11, 12), (12, 15)] 12 = some 15)))
    subst hh
    refine ⟨"java/lang/IllegalStateException", xT12, 0, [⟨0, 9, 12, 13⟩], ⟨0, 9, 15, 15⟩, [], rfl, rfl, rfl, rfl, by decide, q1_218, ?_⟩
    intro z hz
    simp only [List.mem_cons, List.not_mem_nil, or_false] at hz
    rcases hz with rfl
    · exact Or.inr ⟨by decide, "java/lang/IllegalArgumentException", q1_217, x_inN 0 rfl⟩
  exfalso
  simp only [x_catch] at hc
  rw [if_neg (fun q => e0 q.symm)] at hc
  rw [if_neg (fun q => e1 q.symm)] at hc
  cases hc
def b_L_settle : XB := [(0, X_aload 2 1),
  (1, X_push (xv_i 0) 1),
  (2, X_aload 0 1),
  (3, X_iload 1 1),
  (4, X_invV 0 Y_C_settle 1 [(11, 12), (12, 15)]),
  (7, X_i2l),
  (8, X_last 1),
  (9, X_goto 18),
  (12, X_astore 3 1),
  (13, X_push (xv_i 1) 1),
  (14, X_iret),
  (15, X_astore 3 1),
  (16, X_push (xv_i 2) 1),
  (17, X_iret),
  (18, X_push (xv_i 0) 1),
  (19, X_iret)]
set_option maxRecDepth 100000 in
theorem k_L_settle : x_bok m_L_settle b_L_settle := by
  unfold b_L_settle
  refine x_bok.cons (xs_aload_n d_L_settle_0 rfl) ?_
  refine x_bok.cons (xs_iconst d_L_settle_1 (by decide)) ?_
  refine x_bok.cons (xs_aload_n d_L_settle_2 rfl) ?_
  refine x_bok.cons (xs_iload_n d_L_settle_3 rfl) ?_
  refine x_bok.cons (xs_invV d_L_settle_4 xc0 sn_C_settle is_C_settle ⟨q3_114, q3_115, q3_116, q1_1⟩ (by decide) (by decide) h_L_settle_4) ?_
  refine x_bok.cons (xs_i2l d_L_settle_7) ?_
  refine x_bok.cons (xs_last d_L_settle_8 rfl) ?_
  refine x_bok.cons (xs_goto d_L_settle_9 (by decide)) ?_
  refine x_bok.cons (xs_astore_n d_L_settle_12 rfl (by decide)) ?_
  refine x_bok.cons (xs_iconst d_L_settle_13 (by decide)) ?_
  refine x_bok.cons (xs_iret d_L_settle_14 rfl) ?_
  refine x_bok.cons (xs_astore_n d_L_settle_15 rfl (by decide)) ?_
  refine x_bok.cons (xs_iconst d_L_settle_16 (by decide)) ?_
  refine x_bok.cons (xs_iret d_L_settle_17 rfl) ?_
  refine x_bok.cons (xs_iconst d_L_settle_18 (by decide)) ?_
  refine x_bok.cons (xs_iret d_L_settle_19 rfl) ?_
  exact x_bok.nil
set_option maxRecDepth 100000 in
theorem mn_L_settle : x_bmn b_L_settle := by
  unfold b_L_settle
  refine x_bmn.cons (xm_aload) ?_
  refine x_bmn.cons (xm_push) ?_
  refine x_bmn.cons (xm_aload) ?_
  refine x_bmn.cons (xm_iload) ?_
  refine x_bmn.cons (xm_invV ym_C_settle) ?_
  refine x_bmn.cons (xm_i2l) ?_
  refine x_bmn.cons (xm_last) ?_
  refine x_bmn.cons (xm_goto) ?_
  refine x_bmn.cons (xm_astore) ?_
  refine x_bmn.cons (xm_push) ?_
  refine x_bmn.cons (xm_iret) ?_
  refine x_bmn.cons (xm_astore) ?_
  refine x_bmn.cons (xm_push) ?_
  refine x_bmn.cons (xm_iret) ?_
  refine x_bmn.cons (xm_push) ?_
  refine x_bmn.cons (xm_iret) ?_
  exact x_bmn.nil
theorem is_L_settle : x_Is y_L_settle m_L_settle := x_is_with q3_113
def Y_L_settle : XMeth := x_do 4 b_L_settle
theorem sn_L_settle : x_Snd y_L_settle m_L_settle Y_L_settle := x_snd_of (by decide) rfl rfl is_L_settle k_L_settle
theorem ym_L_settle : x_Ymn Y_L_settle := x_ymn_of mn_L_settle
/- CashLink$Network.size()I -/
abbrev c_N_size : ByteArray := prog_8_method_2_code
def y_N_size : MethodName := ⟨"CashLink$Network", "size", "()I"⟩
theorem d_N_size_0 : decode c_N_size 0 = .ok (.aload_n 0, 1) := by decide +kernel
theorem d_N_size_1 : decode c_N_size 1 = .ok (.getfield 10, 3) := by decide +kernel
theorem d_N_size_4 : decode c_N_size 4 = .ok (.invokevirtual 16, 3) := by decide +kernel
theorem d_N_size_7 : decode c_N_size 7 = .ok (.ireturn, 1) := by decide +kernel
def m_N_size : XM := ("CashLink$Network", c_N_size, 1, (some .int), "size", [], 1, 20)
def b_N_size : XB := [(0, X_aload 0 1),
  (1, X_get 1 0),
  (4, X_invV 8 Y_A_size 0 []),
  (7, X_iret)]
set_option maxRecDepth 100000 in
theorem k_N_size : x_bok m_N_size b_N_size := by
  unfold b_N_size
  refine x_bok.cons (xs_aload_n d_N_size_0 rfl) ?_
  refine x_bok.cons (xs_get d_N_size_1 xc1 xw1 (by decide) q1_78 (Or.inl rfl)) ?_
  refine x_bok.cons (xs_invV d_N_size_4 xc8 sn_A_size is_A_size ⟨q3_27, q2_126, q2_127, q1_5⟩ (by decide) (by decide) rfl) ?_
  refine x_bok.cons (xs_iret d_N_size_7 rfl) ?_
  exact x_bok.nil
set_option maxRecDepth 100000 in
theorem mn_N_size : x_bmn b_N_size := by
  unfold b_N_size
  refine x_bmn.cons (xm_aload) ?_
  refine x_bmn.cons (xm_get) ?_
  refine x_bmn.cons (xm_invV ym_A_size) ?_
  refine x_bmn.cons (xm_iret) ?_
  exact x_bmn.nil
theorem is_N_size : x_Is y_N_size m_N_size := x_is_code q3_161
def Y_N_size : XMeth := x_do 1 b_N_size
theorem sn_N_size : x_Snd y_N_size m_N_size Y_N_size := x_snd_of (by decide) rfl rfl is_N_size k_N_size
theorem ym_N_size : x_Ymn Y_N_size := x_ymn_of mn_N_size
/- CashLink$Network.sent(I)LCashLink$Message; -/
abbrev c_N_sent : ByteArray := prog_8_method_3_code
def y_N_sent : MethodName := ⟨"CashLink$Network", "sent", "(I)LCashLink$Message;"⟩
theorem d_N_sent_0 : decode c_N_sent 0 = .ok (.aload_n 0, 1) := by decide +kernel
theorem d_N_sent_1 : decode c_N_sent 1 = .ok (.getfield 10, 3) := by decide +kernel
theorem d_N_sent_4 : decode c_N_sent 4 = .ok (.iload_n 1, 1) := by decide +kernel
theorem d_N_sent_5 : decode c_N_sent 5 = .ok (.invokevirtual 20, 3) := by decide +kernel
theorem d_N_sent_8 : decode c_N_sent 8 = .ok (.checkcast 24, 3) := by decide +kernel
theorem d_N_sent_11 : decode c_N_sent 11 = .ok (.areturn, 1) := by decide +kernel
def m_N_sent : XM := ("CashLink$Network", c_N_sent, 2, (some (.object "CashLink$Message")), "sent", [], 3, 64)
def b_N_sent : XB := [(0, X_aload 0 1),
  (1, X_get 1 0),
  (4, X_iload 1 1),
  (5, X_invV 8 Y_A_get 1 []),
  (8, X_cast 7),
  (11, X_aret)]
set_option maxRecDepth 100000 in
theorem k_N_sent : x_bok m_N_sent b_N_sent := by
  unfold b_N_sent
  refine x_bok.cons (xs_aload_n d_N_sent_0 rfl) ?_
  refine x_bok.cons (xs_get d_N_sent_1 xc1 xw1 (by decide) q1_78 (Or.inl rfl)) ?_
  refine x_bok.cons (xs_iload_n d_N_sent_4 rfl) ?_
  refine x_bok.cons (xs_invV d_N_sent_5 xc8 sn_A_get is_A_get ⟨q3_182, q3_90, q3_91, q1_5⟩ (by decide) (by decide) rfl) ?_
  refine x_bok.cons (xs_cast d_N_sent_8 xc7 q3_28 q7_5) ?_
  refine x_bok.cons (xs_aret d_N_sent_11 rfl (by first | exact Or.inl ⟨_, rfl⟩ | exact Or.inr ⟨_, rfl⟩)) ?_
  exact x_bok.nil
set_option maxRecDepth 100000 in
theorem mn_N_sent : x_bmn b_N_sent := by
  unfold b_N_sent
  refine x_bmn.cons (xm_aload) ?_
  refine x_bmn.cons (xm_get) ?_
  refine x_bmn.cons (xm_iload) ?_
  refine x_bmn.cons (xm_invV ym_A_get) ?_
  refine x_bmn.cons (xm_cast) ?_
  refine x_bmn.cons (xm_aret) ?_
  exact x_bmn.nil
theorem is_N_sent : x_Is y_N_sent m_N_sent := x_is_code q3_181
def Y_N_sent : XMeth := x_do 2 b_N_sent
theorem sn_N_sent : x_Snd y_N_sent m_N_sent Y_N_sent := x_snd_of (by decide) rfl rfl is_N_sent k_N_sent
theorem ym_N_sent : x_Ymn Y_N_sent := x_ymn_of mn_N_sent
/- CashLink.messageAt(I)LCashLink$Message; -/
abbrev c_C_messageAt : ByteArray := prog_1_method_20_code
def y_C_messageAt : MethodName := ⟨"CashLink", "messageAt", "(I)LCashLink$Message;"⟩
theorem d_C_messageAt_0 : decode c_C_messageAt 0 = .ok (.iload_n 1, 1) := by decide +kernel
theorem d_C_messageAt_1 : decode c_C_messageAt 1 = .ok (.ifCond .lt 14, 3) := by decide +kernel
theorem d_C_messageAt_4 : decode c_C_messageAt 4 = .ok (.iload_n 1, 1) := by decide +kernel
theorem d_C_messageAt_5 : decode c_C_messageAt 5 = .ok (.aload_n 0, 1) := by decide +kernel
theorem d_C_messageAt_6 : decode c_C_messageAt 6 = .ok (.getfield 18, 3) := by decide +kernel
theorem d_C_messageAt_9 : decode c_C_messageAt 9 = .ok (.invokevirtual 75, 3) := by decide +kernel
theorem d_C_messageAt_12 : decode c_C_messageAt 12 = .ok (.if_icmp .lt 13, 3) := by decide +kernel
theorem d_C_messageAt_15 : decode c_C_messageAt 15 = .ok (.new 137, 3) := by decide +kernel
theorem d_C_messageAt_18 : decode c_C_messageAt 18 = .ok (.dup, 1) := by decide +kernel
theorem d_C_messageAt_19 : decode c_C_messageAt 19 = .ok (.ldc 186, 2) := by decide +kernel
theorem d_C_messageAt_21 : decode c_C_messageAt 21 = .ok (.invokespecial 141, 3) := by decide +kernel
theorem d_C_messageAt_24 : decode c_C_messageAt 24 = .ok (.athrow, 1) := by decide +kernel
theorem d_C_messageAt_25 : decode c_C_messageAt 25 = .ok (.aload_n 0, 1) := by decide +kernel
theorem d_C_messageAt_26 : decode c_C_messageAt 26 = .ok (.getfield 18, 3) := by decide +kernel
theorem d_C_messageAt_29 : decode c_C_messageAt 29 = .ok (.iload_n 1, 1) := by decide +kernel
theorem d_C_messageAt_30 : decode c_C_messageAt 30 = .ok (.invokevirtual 188, 3) := by decide +kernel
theorem d_C_messageAt_33 : decode c_C_messageAt 33 = .ok (.areturn, 1) := by decide +kernel
def m_C_messageAt : XM := ("CashLink", c_C_messageAt, 2, (some (.object "CashLink$Message")), "messageAt", [], 6, 90)
def b_C_messageAt : XB := [(0, X_iload 1 1),
  (1, X_if (fun x => x < 0) 15),
  (4, X_iload 1 1),
  (5, X_aload 0 1),
  (6, X_get 0 0),
  (9, X_invV 1 Y_N_size 0 []),
  (12, X_icmp (fun x y => x < y) 25),
  (15, X_tn 15),
  (25, X_aload 0 1),
  (26, X_get 0 0),
  (29, X_iload 1 1),
  (30, X_invV 1 Y_N_sent 1 []),
  (33, X_aret)]
set_option maxRecDepth 100000 in
theorem k_C_messageAt : x_bok m_C_messageAt b_C_messageAt := by
  unfold b_C_messageAt
  refine x_bok.cons (xs_iload_n d_C_messageAt_0 rfl) ?_
  refine x_bok.cons (xs_if_lt d_C_messageAt_1 (by decide)) ?_
  refine x_bok.cons (xs_iload_n d_C_messageAt_4 rfl) ?_
  refine x_bok.cons (xs_aload_n d_C_messageAt_5 rfl) ?_
  refine x_bok.cons (xs_get d_C_messageAt_6 xc0 xw0 (by decide) q1_201 (Or.inl rfl)) ?_
  refine x_bok.cons (xs_invV d_C_messageAt_9 xc1 sn_N_size is_N_size ⟨q3_158, q3_159, q3_160, q1_2⟩ (by decide) (by decide) rfl) ?_
  refine x_bok.cons (xs_icmp_lt d_C_messageAt_12 (by decide)) ?_
  refine x_bok.cons (xs_tnS (names := ["java/lang/RuntimeException", "java/lang/Exception"]) d_C_messageAt_15 d_C_messageAt_18 d_C_messageAt_19 d_C_messageAt_21 d_C_messageAt_24 xc15 rfl (by decide +kernel) (by decide +kernel) (List.mem_of_getElem? (i := 4) rfl) x_exin (by decide +kernel) rfl (by decide)) ?_
  refine x_bok.cons (xs_aload_n d_C_messageAt_25 rfl) ?_
  refine x_bok.cons (xs_get d_C_messageAt_26 xc0 xw0 (by decide) q1_201 (Or.inl rfl)) ?_
  refine x_bok.cons (xs_iload_n d_C_messageAt_29 rfl) ?_
  refine x_bok.cons (xs_invV d_C_messageAt_30 xc1 sn_N_sent is_N_sent ⟨q3_178, q3_179, q3_180, q1_2⟩ (by decide) (by decide) rfl) ?_
  refine x_bok.cons (xs_aret d_C_messageAt_33 rfl (by first | exact Or.inl ⟨_, rfl⟩ | exact Or.inr ⟨_, rfl⟩)) ?_
  exact x_bok.nil
set_option maxRecDepth 100000 in
theorem mn_C_messageAt : x_bmn b_C_messageAt := by
  unfold b_C_messageAt
  refine x_bmn.cons (xm_iload) ?_
  refine x_bmn.cons (xm_if) ?_
  refine x_bmn.cons (xm_iload) ?_
  refine x_bmn.cons (xm_aload) ?_
  refine x_bmn.cons (xm_get) ?_
  refine x_bmn.cons (xm_invV ym_N_size) ?_
  refine x_bmn.cons (xm_icmp) ?_
  refine x_bmn.cons (xm_tn) ?_
  refine x_bmn.cons (xm_aload) ?_
  refine x_bmn.cons (xm_get) ?_
  refine x_bmn.cons (xm_iload) ?_
  refine x_bmn.cons (xm_invV ym_N_sent) ?_
  refine x_bmn.cons (xm_aret) ?_
  exact x_bmn.nil
theorem is_C_messageAt : x_Is y_C_messageAt m_C_messageAt := x_is_code q3_157
def Y_C_messageAt : XMeth := x_do 2 b_C_messageAt
theorem sn_C_messageAt : x_Snd y_C_messageAt m_C_messageAt Y_C_messageAt := x_snd_of (by decide) rfl rfl is_C_messageAt k_C_messageAt
theorem ym_C_messageAt : x_Ymn Y_C_messageAt := x_ymn_of mn_C_messageAt
/- CashLink$Message.type()LCashLink$Type; -/
abbrev c_G_type : ByteArray := prog_7_method_8_code
def y_G_type : MethodName := ⟨"CashLink$Message", "type", "()LCashLink$Type;"⟩
theorem d_G_type_0 : decode c_G_type 0 = .ok (.aload_n 0, 1) := by decide +kernel
theorem d_G_type_1 : decode c_G_type 1 = .ok (.getfield 7, 3) := by decide +kernel
theorem d_G_type_4 : decode c_G_type 4 = .ok (.areturn, 1) := by decide +kernel
def m_G_type : XM := ("CashLink$Message", c_G_type, 1, (some (.object "CashLink$Type")), "type", [], 0, 0)
def b_G_type : XB := [(0, X_aload 0 1),
  (1, X_get 7 0),
  (4, X_aret)]
set_option maxRecDepth 100000 in
theorem k_G_type : x_bok m_G_type b_G_type := by
  unfold b_G_type
  refine x_bok.cons (xs_aload_n d_G_type_0 rfl) ?_
  refine x_bok.cons (xs_get d_G_type_1 xc7 xw7 (by decide) q3_34 (Or.inl rfl)) ?_
  refine x_bok.cons (xs_aret d_G_type_4 rfl (by first | exact Or.inl ⟨_, rfl⟩ | exact Or.inr ⟨_, rfl⟩)) ?_
  exact x_bok.nil
set_option maxRecDepth 100000 in
theorem mn_G_type : x_bmn b_G_type := by
  unfold b_G_type
  refine x_bmn.cons (xm_aload) ?_
  refine x_bmn.cons (xm_get) ?_
  refine x_bmn.cons (xm_aret) ?_
  exact x_bmn.nil
theorem is_G_type : x_Is y_G_type m_G_type := x_is_code q3_186
def Y_G_type : XMeth := x_do 1 b_G_type
theorem sn_G_type : x_Snd y_G_type m_G_type Y_G_type := x_snd_of (by decide) rfl rfl is_G_type k_G_type
theorem ym_G_type : x_Ymn Y_G_type := x_ymn_of mn_G_type
/- CashLink$Message.machine()I -/
abbrev c_G_machine : ByteArray := prog_7_method_9_code
def y_G_machine : MethodName := ⟨"CashLink$Message", "machine", "()I"⟩
theorem d_G_machine_0 : decode c_G_machine 0 = .ok (.aload_n 0, 1) := by decide +kernel
theorem d_G_machine_1 : decode c_G_machine 1 = .ok (.getfield 13, 3) := by decide +kernel
theorem d_G_machine_4 : decode c_G_machine 4 = .ok (.ireturn, 1) := by decide +kernel
def m_G_machine : XM := ("CashLink$Message", c_G_machine, 1, (some .int), "machine", [], 0, 0)
def b_G_machine : XB := [(0, X_aload 0 1),
  (1, X_get 7 1),
  (4, X_iret)]
set_option maxRecDepth 100000 in
theorem k_G_machine : x_bok m_G_machine b_G_machine := by
  unfold b_G_machine
  refine x_bok.cons (xs_aload_n d_G_machine_0 rfl) ?_
  refine x_bok.cons (xs_get d_G_machine_1 xc7 xw7 (by decide) q3_35 (Or.inl rfl)) ?_
  refine x_bok.cons (xs_iret d_G_machine_4 rfl) ?_
  exact x_bok.nil
set_option maxRecDepth 100000 in
theorem mn_G_machine : x_bmn b_G_machine := by
  unfold b_G_machine
  refine x_bmn.cons (xm_aload) ?_
  refine x_bmn.cons (xm_get) ?_
  refine x_bmn.cons (xm_iret) ?_
  exact x_bmn.nil
theorem is_G_machine : x_Is y_G_machine m_G_machine := x_is_code q3_205
def Y_G_machine : XMeth := x_do 1 b_G_machine
theorem sn_G_machine : x_Snd y_G_machine m_G_machine Y_G_machine := x_snd_of (by decide) rfl rfl is_G_machine k_G_machine
theorem ym_G_machine : x_Ymn Y_G_machine := x_ymn_of mn_G_machine
/- CashLink$Message.trace()I -/
abbrev c_G_trace : ByteArray := prog_7_method_10_code
def y_G_trace : MethodName := ⟨"CashLink$Message", "trace", "()I"⟩
theorem d_G_trace_0 : decode c_G_trace 0 = .ok (.aload_n 0, 1) := by decide +kernel
theorem d_G_trace_1 : decode c_G_trace 1 = .ok (.getfield 17, 3) := by decide +kernel
theorem d_G_trace_4 : decode c_G_trace 4 = .ok (.ireturn, 1) := by decide +kernel
def m_G_trace : XM := ("CashLink$Message", c_G_trace, 1, (some .int), "trace", [], 0, 0)
def b_G_trace : XB := [(0, X_aload 0 1),
  (1, X_get 7 2),
  (4, X_iret)]
set_option maxRecDepth 100000 in
theorem k_G_trace : x_bok m_G_trace b_G_trace := by
  unfold b_G_trace
  refine x_bok.cons (xs_aload_n d_G_trace_0 rfl) ?_
  refine x_bok.cons (xs_get d_G_trace_1 xc7 xw7 (by decide) q3_36 (Or.inl rfl)) ?_
  refine x_bok.cons (xs_iret d_G_trace_4 rfl) ?_
  exact x_bok.nil
set_option maxRecDepth 100000 in
theorem mn_G_trace : x_bmn b_G_trace := by
  unfold b_G_trace
  refine x_bmn.cons (xm_aload) ?_
  refine x_bmn.cons (xm_get) ?_
  refine x_bmn.cons (xm_iret) ?_
  exact x_bmn.nil
theorem is_G_trace : x_Is y_G_trace m_G_trace := x_is_code q3_209
def Y_G_trace : XMeth := x_do 1 b_G_trace
theorem sn_G_trace : x_Snd y_G_trace m_G_trace Y_G_trace := x_snd_of (by decide) rfl rfl is_G_trace k_G_trace
theorem ym_G_trace : x_Ymn Y_G_trace := x_ymn_of mn_G_trace
/- CashLink$Entry.is(III)Z -/
abbrev c_E_is : ByteArray := prog_4_method_3_code
def y_E_is : MethodName := ⟨"CashLink$Entry", "is", "(III)Z"⟩
theorem d_E_is_0 : decode c_E_is 0 = .ok (.aload_n 0, 1) := by decide +kernel
theorem d_E_is_1 : decode c_E_is 1 = .ok (.getfield 7, 3) := by decide +kernel
theorem d_E_is_4 : decode c_E_is 4 = .ok (.iload_n 1, 1) := by decide +kernel
theorem d_E_is_5 : decode c_E_is 5 = .ok (.if_icmp .ne 23, 3) := by decide +kernel
theorem d_E_is_8 : decode c_E_is 8 = .ok (.aload_n 0, 1) := by decide +kernel
theorem d_E_is_9 : decode c_E_is 9 = .ok (.getfield 13, 3) := by decide +kernel
theorem d_E_is_12 : decode c_E_is 12 = .ok (.iload_n 2, 1) := by decide +kernel
theorem d_E_is_13 : decode c_E_is 13 = .ok (.if_icmp .ne 15, 3) := by decide +kernel
theorem d_E_is_16 : decode c_E_is 16 = .ok (.aload_n 0, 1) := by decide +kernel
theorem d_E_is_17 : decode c_E_is 17 = .ok (.getfield 16, 3) := by decide +kernel
theorem d_E_is_20 : decode c_E_is 20 = .ok (.iload_n 3, 1) := by decide +kernel
theorem d_E_is_21 : decode c_E_is 21 = .ok (.if_icmp .ne 7, 3) := by decide +kernel
theorem d_E_is_24 : decode c_E_is 24 = .ok (.iconst 1, 1) := by decide +kernel
theorem d_E_is_25 : decode c_E_is 25 = .ok (.goto 4, 3) := by decide +kernel
theorem d_E_is_28 : decode c_E_is 28 = .ok (.iconst 0, 1) := by decide +kernel
theorem d_E_is_29 : decode c_E_is 29 = .ok (.ireturn, 1) := by decide +kernel
def m_E_is : XM := ("CashLink$Entry", c_E_is, 4, (some .boolean), "is", [], 0, 0)
def b_E_is : XB := [(0, X_aload 0 1),
  (1, X_get 6 0),
  (4, X_iload 1 1),
  (5, X_icmp (fun x y => ¬ x = y) 28),
  (8, X_aload 0 1),
  (9, X_get 6 1),
  (12, X_iload 2 1),
  (13, X_icmp (fun x y => ¬ x = y) 28),
  (16, X_aload 0 1),
  (17, X_get 6 2),
  (20, X_iload 3 1),
  (21, X_icmp (fun x y => ¬ x = y) 28),
  (24, X_push (xv_i 1) 1),
  (25, X_goto 29),
  (28, X_push (xv_i 0) 1),
  (29, X_zret)]
set_option maxRecDepth 100000 in
theorem k_E_is : x_bok m_E_is b_E_is := by
  unfold b_E_is
  refine x_bok.cons (xs_aload_n d_E_is_0 rfl) ?_
  refine x_bok.cons (xs_get d_E_is_1 xc6 xw6 (by decide) q2_159 (Or.inl rfl)) ?_
  refine x_bok.cons (xs_iload_n d_E_is_4 rfl) ?_
  refine x_bok.cons (xs_icmp_ne d_E_is_5 (by decide)) ?_
  refine x_bok.cons (xs_aload_n d_E_is_8 rfl) ?_
  refine x_bok.cons (xs_get d_E_is_9 xc6 xw6 (by decide) q2_160 (Or.inl rfl)) ?_
  refine x_bok.cons (xs_iload_n d_E_is_12 rfl) ?_
  refine x_bok.cons (xs_icmp_ne d_E_is_13 (by decide)) ?_
  refine x_bok.cons (xs_aload_n d_E_is_16 rfl) ?_
  refine x_bok.cons (xs_get d_E_is_17 xc6 xw6 (by decide) q2_161 (Or.inl rfl)) ?_
  refine x_bok.cons (xs_iload_n d_E_is_20 rfl) ?_
  refine x_bok.cons (xs_icmp_ne d_E_is_21 (by decide)) ?_
  refine x_bok.cons (xs_iconst d_E_is_24 (by decide)) ?_
  refine x_bok.cons (xs_goto d_E_is_25 (by decide)) ?_
  refine x_bok.cons (xs_iconst d_E_is_28 (by decide)) ?_
  refine x_bok.cons (xs_zret d_E_is_29 rfl) ?_
  exact x_bok.nil
set_option maxRecDepth 100000 in
theorem mn_E_is : x_bmn b_E_is := by
  unfold b_E_is
  refine x_bmn.cons (xm_aload) ?_
  refine x_bmn.cons (xm_get) ?_
  refine x_bmn.cons (xm_iload) ?_
  refine x_bmn.cons (xm_icmp) ?_
  refine x_bmn.cons (xm_aload) ?_
  refine x_bmn.cons (xm_get) ?_
  refine x_bmn.cons (xm_iload) ?_
  refine x_bmn.cons (xm_icmp) ?_
  refine x_bmn.cons (xm_aload) ?_
  refine x_bmn.cons (xm_get) ?_
  refine x_bmn.cons (xm_iload) ?_
  refine x_bmn.cons (xm_icmp) ?_
  refine x_bmn.cons (xm_push) ?_
  refine x_bmn.cons (xm_goto) ?_
  refine x_bmn.cons (xm_push) ?_
  refine x_bmn.cons (xm_zret) ?_
  exact x_bmn.nil
theorem is_E_is : x_Is y_E_is m_E_is := x_is_code q3_217
def Y_E_is : XMeth := x_do 4 b_E_is
theorem sn_E_is : x_Snd y_E_is m_E_is Y_E_is := x_snd_of (by decide) rfl rfl is_E_is k_E_is
theorem ym_E_is : x_Ymn Y_E_is := x_ymn_of mn_E_is
/- CashLink$Journal.find(III)LCashLink$Entry; -/
abbrev c_J_find : ByteArray := prog_5_method_9_code
def y_J_find : MethodName := ⟨"CashLink$Journal", "find", "(III)LCashLink$Entry;"⟩
theorem d_J_find_0 : decode c_J_find 0 = .ok (.aload_n 0, 1) := by decide +kernel
theorem d_J_find_1 : decode c_J_find 1 = .ok (.getfield 10, 3) := by decide +kernel
theorem d_J_find_4 : decode c_J_find 4 = .ok (.invokevirtual 27, 3) := by decide +kernel
theorem d_J_find_7 : decode c_J_find 7 = .ok (.iconst 1, 1) := by decide +kernel
theorem d_J_find_8 : decode c_J_find 8 = .ok (.isub, 1) := by decide +kernel
theorem d_J_find_9 : decode c_J_find 9 = .ok (.istore 4, 2) := by decide +kernel
theorem d_J_find_11 : decode c_J_find 11 = .ok (.iload 4, 2) := by decide +kernel
theorem d_J_find_13 : decode c_J_find 13 = .ok (.ifCond .lt 37, 3) := by decide +kernel
theorem d_J_find_16 : decode c_J_find 16 = .ok (.aload_n 0, 1) := by decide +kernel
theorem d_J_find_17 : decode c_J_find 17 = .ok (.getfield 10, 3) := by decide +kernel
theorem d_J_find_20 : decode c_J_find 20 = .ok (.iload 4, 2) := by decide +kernel
theorem d_J_find_22 : decode c_J_find 22 = .ok (.invokevirtual 31, 3) := by decide +kernel
theorem d_J_find_25 : decode c_J_find 25 = .ok (.checkcast 35, 3) := by decide +kernel
theorem d_J_find_28 : decode c_J_find 28 = .ok (.astore 5, 2) := by decide +kernel
theorem d_J_find_30 : decode c_J_find 30 = .ok (.aload 5, 2) := by decide +kernel
theorem d_J_find_32 : decode c_J_find 32 = .ok (.iload_n 1, 1) := by decide +kernel
theorem d_J_find_33 : decode c_J_find 33 = .ok (.iload_n 2, 1) := by decide +kernel
theorem d_J_find_34 : decode c_J_find 34 = .ok (.iload_n 3, 1) := by decide +kernel
theorem d_J_find_35 : decode c_J_find 35 = .ok (.invokevirtual 51, 3) := by decide +kernel
theorem d_J_find_38 : decode c_J_find 38 = .ok (.ifCond .eq 6, 3) := by decide +kernel
theorem d_J_find_41 : decode c_J_find 41 = .ok (.aload 5, 2) := by decide +kernel
theorem d_J_find_43 : decode c_J_find 43 = .ok (.areturn, 1) := by decide +kernel
theorem d_J_find_44 : decode c_J_find 44 = .ok (.iinc 4 (-1), 3) := by decide +kernel
theorem d_J_find_47 : decode c_J_find 47 = .ok (.goto (-36), 3) := by decide +kernel
theorem d_J_find_50 : decode c_J_find 50 = .ok (.aconst_null, 1) := by decide +kernel
theorem d_J_find_51 : decode c_J_find 51 = .ok (.areturn, 1) := by decide +kernel
def m_J_find : XM := ("CashLink$Journal", c_J_find, 6, (some (.object "CashLink$Entry")), "find", [], 3, 64)
def b_J_find : XB := [(0, X_aload 0 1),
  (1, X_get 4 0),
  (4, X_invV 8 Y_A_size 0 []),
  (7, X_push (xv_i 1) 1),
  (8, X_bin (fun x y => x - y)),
  (9, X_istore 4 2),
  (11, X_iload 4 2),
  (13, X_if (fun x => x < 0) 50),
  (16, X_aload 0 1),
  (17, X_get 4 0),
  (20, X_iload 4 2),
  (22, X_invV 8 Y_A_get 1 []),
  (25, X_cast 6),
  (28, X_astore 5 2),
  (30, X_aload 5 2),
  (32, X_iload 1 1),
  (33, X_iload 2 1),
  (34, X_iload 3 1),
  (35, X_invV 6 Y_E_is 3 []),
  (38, X_if (fun x => x = 0) 44),
  (41, X_aload 5 2),
  (43, X_aret),
  (44, X_iinc 4 (-1)),
  (47, X_goto 11),
  (50, X_push xv_n 1),
  (51, X_aret)]
set_option maxRecDepth 100000 in
theorem k_J_find : x_bok m_J_find b_J_find := by
  unfold b_J_find
  refine x_bok.cons (xs_aload_n d_J_find_0 rfl) ?_
  refine x_bok.cons (xs_get d_J_find_1 xc4 xw4 (by decide) q1_96 (Or.inl rfl)) ?_
  refine x_bok.cons (xs_invV d_J_find_4 xc8 sn_A_size is_A_size ⟨q2_133, q2_126, q2_127, q1_5⟩ (by decide) (by decide) rfl) ?_
  refine x_bok.cons (xs_iconst d_J_find_7 (by decide)) ?_
  refine x_bok.cons (xs_isub d_J_find_8) ?_
  refine x_bok.cons (xs_istore d_J_find_9 (by decide)) ?_
  refine x_bok.cons (xs_iload d_J_find_11) ?_
  refine x_bok.cons (xs_if_lt d_J_find_13 (by decide)) ?_
  refine x_bok.cons (xs_aload_n d_J_find_16 rfl) ?_
  refine x_bok.cons (xs_get d_J_find_17 xc4 xw4 (by decide) q1_96 (Or.inl rfl)) ?_
  refine x_bok.cons (xs_iload d_J_find_20) ?_
  refine x_bok.cons (xs_invV d_J_find_22 xc8 sn_A_get is_A_get ⟨q3_138, q3_90, q3_91, q1_5⟩ (by decide) (by decide) rfl) ?_
  refine x_bok.cons (xs_cast d_J_find_25 xc6 q3_139 q7_4) ?_
  refine x_bok.cons (xs_astore d_J_find_28 (by decide)) ?_
  refine x_bok.cons (xs_aload d_J_find_30) ?_
  refine x_bok.cons (xs_iload_n d_J_find_32 rfl) ?_
  refine x_bok.cons (xs_iload_n d_J_find_33 rfl) ?_
  refine x_bok.cons (xs_iload_n d_J_find_34 rfl) ?_
  refine x_bok.cons (xs_invV d_J_find_35 xc6 sn_E_is is_E_is ⟨q3_214, q3_215, q3_216, q1_21⟩ (by decide) (by decide) rfl) ?_
  refine x_bok.cons (xs_if_eq d_J_find_38 (by decide)) ?_
  refine x_bok.cons (xs_aload d_J_find_41) ?_
  refine x_bok.cons (xs_aret d_J_find_43 rfl (by first | exact Or.inl ⟨_, rfl⟩ | exact Or.inr ⟨_, rfl⟩)) ?_
  refine x_bok.cons (xs_iinc d_J_find_44 (by decide) (by decide)) ?_
  refine x_bok.cons (xs_goto d_J_find_47 (by decide)) ?_
  refine x_bok.cons (xs_null d_J_find_50) ?_
  refine x_bok.cons (xs_aret d_J_find_51 rfl (by first | exact Or.inl ⟨_, rfl⟩ | exact Or.inr ⟨_, rfl⟩)) ?_
  exact x_bok.nil
set_option maxRecDepth 100000 in
theorem mn_J_find : x_bmn b_J_find := by
  unfold b_J_find
  refine x_bmn.cons (xm_aload) ?_
  refine x_bmn.cons (xm_get) ?_
  refine x_bmn.cons (xm_invV ym_A_size) ?_
  refine x_bmn.cons (xm_push) ?_
  refine x_bmn.cons (xm_bin) ?_
  refine x_bmn.cons (xm_istore) ?_
  refine x_bmn.cons (xm_iload) ?_
  refine x_bmn.cons (xm_if) ?_
  refine x_bmn.cons (xm_aload) ?_
  refine x_bmn.cons (xm_get) ?_
  refine x_bmn.cons (xm_iload) ?_
  refine x_bmn.cons (xm_invV ym_A_get) ?_
  refine x_bmn.cons (xm_cast) ?_
  refine x_bmn.cons (xm_astore) ?_
  refine x_bmn.cons (xm_aload) ?_
  refine x_bmn.cons (xm_iload) ?_
  refine x_bmn.cons (xm_iload) ?_
  refine x_bmn.cons (xm_iload) ?_
  refine x_bmn.cons (xm_invV ym_E_is) ?_
  refine x_bmn.cons (xm_if) ?_
  refine x_bmn.cons (xm_aload) ?_
  refine x_bmn.cons (xm_aret) ?_
  refine x_bmn.cons (xm_iinc) ?_
  refine x_bmn.cons (xm_goto) ?_
  refine x_bmn.cons (xm_push) ?_
  refine x_bmn.cons (xm_aret) ?_
  exact x_bmn.nil
theorem is_J_find : x_Is y_J_find m_J_find := x_is_code q3_213
def Y_J_find : XMeth := x_do 6 b_J_find
theorem sn_J_find : x_Snd y_J_find m_J_find Y_J_find := x_snd_of (by decide) rfl rfl is_J_find k_J_find
theorem ym_J_find : x_Ymn Y_J_find := x_ymn_of mn_J_find
/- CashLink$Bank.find(ILCashLink$Message;)LCashLink$Entry; -/
abbrev c_B_find : ByteArray := prog_2_method_12_code
def y_B_find : MethodName := ⟨"CashLink$Bank", "find", "(ILCashLink$Message;)LCashLink$Entry;"⟩
theorem d_B_find_0 : decode c_B_find 0 = .ok (.aload_n 0, 1) := by decide +kernel
theorem d_B_find_1 : decode c_B_find 1 = .ok (.getfield 16, 3) := by decide +kernel
theorem d_B_find_4 : decode c_B_find 4 = .ok (.iload_n 1, 1) := by decide +kernel
theorem d_B_find_5 : decode c_B_find 5 = .ok (.aload_n 2, 1) := by decide +kernel
theorem d_B_find_6 : decode c_B_find 6 = .ok (.invokevirtual 98, 3) := by decide +kernel
theorem d_B_find_9 : decode c_B_find 9 = .ok (.aload_n 2, 1) := by decide +kernel
theorem d_B_find_10 : decode c_B_find 10 = .ok (.invokevirtual 101, 3) := by decide +kernel
theorem d_B_find_13 : decode c_B_find 13 = .ok (.invokevirtual 149, 3) := by decide +kernel
theorem d_B_find_16 : decode c_B_find 16 = .ok (.areturn, 1) := by decide +kernel
def m_B_find : XM := ("CashLink$Bank", c_B_find, 3, (some (.object "CashLink$Entry")), "find", [], 4, 89)
def b_B_find : XB := [(0, X_aload 0 1),
  (1, X_get 2 1),
  (4, X_iload 1 1),
  (5, X_aload 2 1),
  (6, X_invV 7 Y_G_machine 0 []),
  (9, X_aload 2 1),
  (10, X_invV 7 Y_G_trace 0 []),
  (13, X_invV 4 Y_J_find 3 []),
  (16, X_aret)]
set_option maxRecDepth 100000 in
theorem k_B_find : x_bok m_B_find b_B_find := by
  unfold b_B_find
  refine x_bok.cons (xs_aload_n d_B_find_0 rfl) ?_
  refine x_bok.cons (xs_get d_B_find_1 xc2 xw2 (by decide) q1_114 (Or.inl rfl)) ?_
  refine x_bok.cons (xs_iload_n d_B_find_4 rfl) ?_
  refine x_bok.cons (xs_aload_n d_B_find_5 rfl) ?_
  refine x_bok.cons (xs_invV d_B_find_6 xc7 sn_G_machine is_G_machine ⟨q3_202, q3_203, q3_204, q1_27⟩ (by decide) (by decide) rfl) ?_
  refine x_bok.cons (xs_aload_n d_B_find_9 rfl) ?_
  refine x_bok.cons (xs_invV d_B_find_10 xc7 sn_G_trace is_G_trace ⟨q3_206, q3_207, q3_208, q1_27⟩ (by decide) (by decide) rfl) ?_
  refine x_bok.cons (xs_invV d_B_find_13 xc4 sn_J_find is_J_find ⟨q3_210, q3_211, q3_212, q1_7⟩ (by decide) (by decide) rfl) ?_
  refine x_bok.cons (xs_aret d_B_find_16 rfl (by first | exact Or.inl ⟨_, rfl⟩ | exact Or.inr ⟨_, rfl⟩)) ?_
  exact x_bok.nil
set_option maxRecDepth 100000 in
theorem mn_B_find : x_bmn b_B_find := by
  unfold b_B_find
  refine x_bmn.cons (xm_aload) ?_
  refine x_bmn.cons (xm_get) ?_
  refine x_bmn.cons (xm_iload) ?_
  refine x_bmn.cons (xm_aload) ?_
  refine x_bmn.cons (xm_invV ym_G_machine) ?_
  refine x_bmn.cons (xm_aload) ?_
  refine x_bmn.cons (xm_invV ym_G_trace) ?_
  refine x_bmn.cons (xm_invV ym_J_find) ?_
  refine x_bmn.cons (xm_aret) ?_
  exact x_bmn.nil
theorem is_B_find : x_Is y_B_find m_B_find := x_is_code q3_201
def Y_B_find : XMeth := x_do 3 b_B_find
theorem sn_B_find : x_Snd y_B_find m_B_find Y_B_find := x_snd_of (by decide) rfl rfl is_B_find k_B_find
theorem ym_B_find : x_Ymn Y_B_find := x_ymn_of mn_B_find
/- CashLink$Message.account()I -/
abbrev c_G_account : ByteArray := prog_7_method_11_code
def y_G_account : MethodName := ⟨"CashLink$Message", "account", "()I"⟩
theorem d_G_account_0 : decode c_G_account 0 = .ok (.aload_n 0, 1) := by decide +kernel
theorem d_G_account_1 : decode c_G_account 1 = .ok (.getfield 20, 3) := by decide +kernel
theorem d_G_account_4 : decode c_G_account 4 = .ok (.ireturn, 1) := by decide +kernel
def m_G_account : XM := ("CashLink$Message", c_G_account, 1, (some .int), "account", [], 0, 0)
def b_G_account : XB := [(0, X_aload 0 1),
  (1, X_get 7 3),
  (4, X_iret)]
set_option maxRecDepth 100000 in
theorem k_G_account : x_bok m_G_account b_G_account := by
  unfold b_G_account
  refine x_bok.cons (xs_aload_n d_G_account_0 rfl) ?_
  refine x_bok.cons (xs_get d_G_account_1 xc7 xw7 (by decide) q3_37 (Or.inl rfl)) ?_
  refine x_bok.cons (xs_iret d_G_account_4 rfl) ?_
  exact x_bok.nil
set_option maxRecDepth 100000 in
theorem mn_G_account : x_bmn b_G_account := by
  unfold b_G_account
  refine x_bmn.cons (xm_aload) ?_
  refine x_bmn.cons (xm_get) ?_
  refine x_bmn.cons (xm_iret) ?_
  exact x_bmn.nil
theorem is_G_account : x_Is y_G_account m_G_account := x_is_code q3_223
def Y_G_account : XMeth := x_do 1 b_G_account
theorem sn_G_account : x_Snd y_G_account m_G_account Y_G_account := x_snd_of (by decide) rfl rfl is_G_account k_G_account
theorem ym_G_account : x_Ymn Y_G_account := x_ymn_of mn_G_account
/- CashLink$Message.amount()I -/
abbrev c_G_amount : ByteArray := prog_7_method_12_code
def y_G_amount : MethodName := ⟨"CashLink$Message", "amount", "()I"⟩
theorem d_G_amount_0 : decode c_G_amount 0 = .ok (.aload_n 0, 1) := by decide +kernel
theorem d_G_amount_1 : decode c_G_amount 1 = .ok (.getfield 23, 3) := by decide +kernel
theorem d_G_amount_4 : decode c_G_amount 4 = .ok (.ireturn, 1) := by decide +kernel
def m_G_amount : XM := ("CashLink$Message", c_G_amount, 1, (some .int), "amount", [], 0, 0)
def b_G_amount : XB := [(0, X_aload 0 1),
  (1, X_get 7 4),
  (4, X_iret)]
set_option maxRecDepth 100000 in
theorem k_G_amount : x_bok m_G_amount b_G_amount := by
  unfold b_G_amount
  refine x_bok.cons (xs_aload_n d_G_amount_0 rfl) ?_
  refine x_bok.cons (xs_get d_G_amount_1 xc7 xw7 (by decide) q3_38 (Or.inl rfl)) ?_
  refine x_bok.cons (xs_iret d_G_amount_4 rfl) ?_
  exact x_bok.nil
set_option maxRecDepth 100000 in
theorem mn_G_amount : x_bmn b_G_amount := by
  unfold b_G_amount
  refine x_bmn.cons (xm_aload) ?_
  refine x_bmn.cons (xm_get) ?_
  refine x_bmn.cons (xm_iret) ?_
  exact x_bmn.nil
theorem is_G_amount : x_Is y_G_amount m_G_amount := x_is_code q3_227
def Y_G_amount : XMeth := x_do 1 b_G_amount
theorem sn_G_amount : x_Snd y_G_amount m_G_amount Y_G_amount := x_snd_of (by decide) rfl rfl is_G_amount k_G_amount
theorem ym_G_amount : x_Ymn Y_G_amount := x_ymn_of mn_G_amount
/- CashLink$Entry.account()I -/
abbrev c_E_account : ByteArray := prog_4_method_10_code
def y_E_account : MethodName := ⟨"CashLink$Entry", "account", "()I"⟩
theorem d_E_account_0 : decode c_E_account 0 = .ok (.aload_n 0, 1) := by decide +kernel
theorem d_E_account_1 : decode c_E_account 1 = .ok (.getfield 19, 3) := by decide +kernel
theorem d_E_account_4 : decode c_E_account 4 = .ok (.ireturn, 1) := by decide +kernel
def m_E_account : XM := ("CashLink$Entry", c_E_account, 1, (some .int), "account", [], 0, 0)
def b_E_account : XB := [(0, X_aload 0 1),
  (1, X_get 6 3),
  (4, X_iret)]
set_option maxRecDepth 100000 in
theorem k_E_account : x_bok m_E_account b_E_account := by
  unfold b_E_account
  refine x_bok.cons (xs_aload_n d_E_account_0 rfl) ?_
  refine x_bok.cons (xs_get d_E_account_1 xc6 xw6 (by decide) q2_162 (Or.inl rfl)) ?_
  refine x_bok.cons (xs_iret d_E_account_4 rfl) ?_
  exact x_bok.nil
set_option maxRecDepth 100000 in
theorem mn_E_account : x_bmn b_E_account := by
  unfold b_E_account
  refine x_bmn.cons (xm_aload) ?_
  refine x_bmn.cons (xm_get) ?_
  refine x_bmn.cons (xm_iret) ?_
  exact x_bmn.nil
theorem is_E_account : x_Is y_E_account m_E_account := x_is_code q4_1
def Y_E_account : XMeth := x_do 1 b_E_account
theorem sn_E_account : x_Snd y_E_account m_E_account Y_E_account := x_snd_of (by decide) rfl rfl is_E_account k_E_account
theorem ym_E_account : x_Ymn Y_E_account := x_ymn_of mn_E_account
/- CashLink$Entry.answer()I -/
abbrev c_E_answer : ByteArray := prog_4_method_12_code
def y_E_answer : MethodName := ⟨"CashLink$Entry", "answer", "()I"⟩
theorem d_E_answer_0 : decode c_E_answer 0 = .ok (.aload_n 0, 1) := by decide +kernel
theorem d_E_answer_1 : decode c_E_answer 1 = .ok (.getfield 25, 3) := by decide +kernel
theorem d_E_answer_4 : decode c_E_answer 4 = .ok (.ireturn, 1) := by decide +kernel
def m_E_answer : XM := ("CashLink$Entry", c_E_answer, 1, (some .int), "answer", [], 0, 0)
def b_E_answer : XB := [(0, X_aload 0 1),
  (1, X_get 6 5),
  (4, X_iret)]
set_option maxRecDepth 100000 in
theorem k_E_answer : x_bok m_E_answer b_E_answer := by
  unfold b_E_answer
  refine x_bok.cons (xs_aload_n d_E_answer_0 rfl) ?_
  refine x_bok.cons (xs_get d_E_answer_1 xc6 xw6 (by decide) q2_164 (Or.inl rfl)) ?_
  refine x_bok.cons (xs_iret d_E_answer_4 rfl) ?_
  exact x_bok.nil
set_option maxRecDepth 100000 in
theorem mn_E_answer : x_bmn b_E_answer := by
  unfold b_E_answer
  refine x_bmn.cons (xm_aload) ?_
  refine x_bmn.cons (xm_get) ?_
  refine x_bmn.cons (xm_iret) ?_
  exact x_bmn.nil
theorem is_E_answer : x_Is y_E_answer m_E_answer := x_is_code q4_10
def Y_E_answer : XMeth := x_do 1 b_E_answer
theorem sn_E_answer : x_Snd y_E_answer m_E_answer Y_E_answer := x_snd_of (by decide) rfl rfl is_E_answer k_E_answer
theorem ym_E_answer : x_Ymn Y_E_answer := x_ymn_of mn_E_answer
/- CashLink$Bank.changeBy(LCashLink$Entry;)I -/
abbrev c_B_changeBy : ByteArray := prog_2_method_4_code
def y_B_changeBy : MethodName := ⟨"CashLink$Bank", "changeBy", "(LCashLink$Entry;)I"⟩
theorem d_B_changeBy_0 : decode c_B_changeBy 0 = .ok (.aload_n 0, 1) := by decide +kernel
theorem d_B_changeBy_1 : decode c_B_changeBy 1 = .ok (.invokevirtual 52, 3) := by decide +kernel
theorem d_B_changeBy_4 : decode c_B_changeBy 4 = .ok (.bipush 7, 2) := by decide +kernel
theorem d_B_changeBy_6 : decode c_B_changeBy 6 = .ok (.if_icmp .ne 8, 3) := by decide +kernel
theorem d_B_changeBy_9 : decode c_B_changeBy 9 = .ok (.aload_n 0, 1) := by decide +kernel
theorem d_B_changeBy_10 : decode c_B_changeBy 10 = .ok (.invokevirtual 55, 3) := by decide +kernel
theorem d_B_changeBy_13 : decode c_B_changeBy 13 = .ok (.ireturn, 1) := by decide +kernel
theorem d_B_changeBy_14 : decode c_B_changeBy 14 = .ok (.aload_n 0, 1) := by decide +kernel
theorem d_B_changeBy_15 : decode c_B_changeBy 15 = .ok (.invokevirtual 58, 3) := by decide +kernel
theorem d_B_changeBy_18 : decode c_B_changeBy 18 = .ok (.ifCond .ne 11, 3) := by decide +kernel
theorem d_B_changeBy_21 : decode c_B_changeBy 21 = .ok (.aload_n 0, 1) := by decide +kernel
theorem d_B_changeBy_22 : decode c_B_changeBy 22 = .ok (.invokevirtual 55, 3) := by decide +kernel
theorem d_B_changeBy_25 : decode c_B_changeBy 25 = .ok (.ineg, 1) := by decide +kernel
theorem d_B_changeBy_26 : decode c_B_changeBy 26 = .ok (.goto 4, 3) := by decide +kernel
theorem d_B_changeBy_29 : decode c_B_changeBy 29 = .ok (.iconst 0, 1) := by decide +kernel
theorem d_B_changeBy_30 : decode c_B_changeBy 30 = .ok (.ireturn, 1) := by decide +kernel
def m_B_changeBy : XM := ("CashLink$Bank", c_B_changeBy, 1, (some .int), "changeBy", [], 1, 20)
def b_B_changeBy : XB := [(0, X_aload 0 1),
  (1, X_invV 6 Y_E_kind 0 []),
  (4, X_push (xv_i 7) 2),
  (6, X_icmp (fun x y => ¬ x = y) 14),
  (9, X_aload 0 1),
  (10, X_invV 6 Y_E_value 0 []),
  (13, X_iret),
  (14, X_aload 0 1),
  (15, X_invV 6 Y_E_answer 0 []),
  (18, X_if (fun x => ¬ x = 0) 29),
  (21, X_aload 0 1),
  (22, X_invV 6 Y_E_value 0 []),
  (25, X_un (fun x => -x)),
  (26, X_goto 30),
  (29, X_push (xv_i 0) 1),
  (30, X_iret)]
set_option maxRecDepth 100000 in
theorem k_B_changeBy : x_bok m_B_changeBy b_B_changeBy := by
  unfold b_B_changeBy
  refine x_bok.cons (xs_aload_n d_B_changeBy_0 rfl) ?_
  refine x_bok.cons (xs_invV d_B_changeBy_1 xc6 sn_E_kind is_E_kind ⟨q4_5, q3_141, q3_142, q1_21⟩ (by decide) (by decide) rfl) ?_
  refine x_bok.cons (xs_bipush d_B_changeBy_4 (by decide)) ?_
  refine x_bok.cons (xs_icmp_ne d_B_changeBy_6 (by decide)) ?_
  refine x_bok.cons (xs_aload_n d_B_changeBy_9 rfl) ?_
  refine x_bok.cons (xs_invV d_B_changeBy_10 xc6 sn_E_value is_E_value ⟨q4_6, q3_108, q3_109, q1_21⟩ (by decide) (by decide) rfl) ?_
  refine x_bok.cons (xs_iret d_B_changeBy_13 rfl) ?_
  refine x_bok.cons (xs_aload_n d_B_changeBy_14 rfl) ?_
  refine x_bok.cons (xs_invV d_B_changeBy_15 xc6 sn_E_answer is_E_answer ⟨q4_7, q4_8, q4_9, q1_21⟩ (by decide) (by decide) rfl) ?_
  refine x_bok.cons (xs_if_ne d_B_changeBy_18 (by decide)) ?_
  refine x_bok.cons (xs_aload_n d_B_changeBy_21 rfl) ?_
  refine x_bok.cons (xs_invV d_B_changeBy_22 xc6 sn_E_value is_E_value ⟨q4_6, q3_108, q3_109, q1_21⟩ (by decide) (by decide) rfl) ?_
  refine x_bok.cons (xs_ineg d_B_changeBy_25) ?_
  refine x_bok.cons (xs_goto d_B_changeBy_26 (by decide)) ?_
  refine x_bok.cons (xs_iconst d_B_changeBy_29 (by decide)) ?_
  refine x_bok.cons (xs_iret d_B_changeBy_30 rfl) ?_
  exact x_bok.nil
set_option maxRecDepth 100000 in
theorem mn_B_changeBy : x_bmn b_B_changeBy := by
  unfold b_B_changeBy
  refine x_bmn.cons (xm_aload) ?_
  refine x_bmn.cons (xm_invV ym_E_kind) ?_
  refine x_bmn.cons (xm_push) ?_
  refine x_bmn.cons (xm_icmp) ?_
  refine x_bmn.cons (xm_aload) ?_
  refine x_bmn.cons (xm_invV ym_E_value) ?_
  refine x_bmn.cons (xm_iret) ?_
  refine x_bmn.cons (xm_aload) ?_
  refine x_bmn.cons (xm_invV ym_E_answer) ?_
  refine x_bmn.cons (xm_if) ?_
  refine x_bmn.cons (xm_aload) ?_
  refine x_bmn.cons (xm_invV ym_E_value) ?_
  refine x_bmn.cons (xm_un) ?_
  refine x_bmn.cons (xm_goto) ?_
  refine x_bmn.cons (xm_push) ?_
  refine x_bmn.cons (xm_iret) ?_
  exact x_bmn.nil
theorem is_B_changeBy : x_Is y_B_changeBy m_B_changeBy := x_is_code q4_4
def Y_B_changeBy : XMeth := x_do 1 b_B_changeBy
theorem sn_B_changeBy : x_Snd y_B_changeBy m_B_changeBy Y_B_changeBy := x_snd_of (by decide) rfl rfl is_B_changeBy k_B_changeBy
theorem ym_B_changeBy : x_Ymn Y_B_changeBy := x_ymn_of mn_B_changeBy
/- CashLink$Bank.balanceOf(I)I -/
abbrev c_B_balanceOf : ByteArray := prog_2_method_3_code
def y_B_balanceOf : MethodName := ⟨"CashLink$Bank", "balanceOf", "(I)I"⟩
theorem d_B_balanceOf_0 : decode c_B_balanceOf 0 = .ok (.aload_n 0, 1) := by decide +kernel
theorem d_B_balanceOf_1 : decode c_B_balanceOf 1 = .ok (.getfield 35, 3) := by decide +kernel
theorem d_B_balanceOf_4 : decode c_B_balanceOf 4 = .ok (.aload_n 0, 1) := by decide +kernel
theorem d_B_balanceOf_5 : decode c_B_balanceOf 5 = .ok (.getfield 16, 3) := by decide +kernel
theorem d_B_balanceOf_8 : decode c_B_balanceOf 8 = .ok (.invokevirtual 31, 3) := by decide +kernel
theorem d_B_balanceOf_11 : decode c_B_balanceOf 11 = .ok (.if_icmp .ge 44, 3) := by decide +kernel
theorem d_B_balanceOf_14 : decode c_B_balanceOf 14 = .ok (.aload_n 0, 1) := by decide +kernel
theorem d_B_balanceOf_15 : decode c_B_balanceOf 15 = .ok (.getfield 16, 3) := by decide +kernel
theorem d_B_balanceOf_18 : decode c_B_balanceOf 18 = .ok (.aload_n 0, 1) := by decide +kernel
theorem d_B_balanceOf_19 : decode c_B_balanceOf 19 = .ok (.getfield 35, 3) := by decide +kernel
theorem d_B_balanceOf_22 : decode c_B_balanceOf 22 = .ok (.invokevirtual 39, 3) := by decide +kernel
theorem d_B_balanceOf_25 : decode c_B_balanceOf 25 = .ok (.astore_n 2, 1) := by decide +kernel
theorem d_B_balanceOf_26 : decode c_B_balanceOf 26 = .ok (.aload_n 0, 1) := by decide +kernel
theorem d_B_balanceOf_27 : decode c_B_balanceOf 27 = .ok (.getfield 20, 3) := by decide +kernel
theorem d_B_balanceOf_30 : decode c_B_balanceOf 30 = .ok (.aload_n 2, 1) := by decide +kernel
theorem d_B_balanceOf_31 : decode c_B_balanceOf 31 = .ok (.invokevirtual 43, 3) := by decide +kernel
theorem d_B_balanceOf_34 : decode c_B_balanceOf 34 = .ok (.dup2, 1) := by decide +kernel
theorem d_B_balanceOf_35 : decode c_B_balanceOf 35 = .ok (.iaload, 1) := by decide +kernel
theorem d_B_balanceOf_36 : decode c_B_balanceOf 36 = .ok (.aload_n 2, 1) := by decide +kernel
theorem d_B_balanceOf_37 : decode c_B_balanceOf 37 = .ok (.invokestatic 48, 3) := by decide +kernel
theorem d_B_balanceOf_40 : decode c_B_balanceOf 40 = .ok (.iadd, 1) := by decide +kernel
theorem d_B_balanceOf_41 : decode c_B_balanceOf 41 = .ok (.iastore, 1) := by decide +kernel
theorem d_B_balanceOf_42 : decode c_B_balanceOf 42 = .ok (.aload_n 0, 1) := by decide +kernel
theorem d_B_balanceOf_43 : decode c_B_balanceOf 43 = .ok (.dup, 1) := by decide +kernel
theorem d_B_balanceOf_44 : decode c_B_balanceOf 44 = .ok (.getfield 35, 3) := by decide +kernel
theorem d_B_balanceOf_47 : decode c_B_balanceOf 47 = .ok (.iconst 1, 1) := by decide +kernel
theorem d_B_balanceOf_48 : decode c_B_balanceOf 48 = .ok (.iadd, 1) := by decide +kernel
theorem d_B_balanceOf_49 : decode c_B_balanceOf 49 = .ok (.putfield 35, 3) := by decide +kernel
theorem d_B_balanceOf_52 : decode c_B_balanceOf 52 = .ok (.goto (-52), 3) := by decide +kernel
theorem d_B_balanceOf_55 : decode c_B_balanceOf 55 = .ok (.aload_n 0, 1) := by decide +kernel
theorem d_B_balanceOf_56 : decode c_B_balanceOf 56 = .ok (.getfield 20, 3) := by decide +kernel
theorem d_B_balanceOf_59 : decode c_B_balanceOf 59 = .ok (.iload_n 1, 1) := by decide +kernel
theorem d_B_balanceOf_60 : decode c_B_balanceOf 60 = .ok (.iaload, 1) := by decide +kernel
theorem d_B_balanceOf_61 : decode c_B_balanceOf 61 = .ok (.ireturn, 1) := by decide +kernel
def m_B_balanceOf : XM := ("CashLink$Bank", c_B_balanceOf, 3, (some .int), "balanceOf", [], 4, 85)
def b_B_balanceOf : XB := [(0, X_aload 0 1),
  (1, X_get 2 3),
  (4, X_aload 0 1),
  (5, X_get 2 1),
  (8, X_invV 4 Y_J_size 0 []),
  (11, X_icmp (fun x y => y ≤ x) 55),
  (14, X_aload 0 1),
  (15, X_get 2 1),
  (18, X_aload 0 1),
  (19, X_get 2 3),
  (22, X_invV 4 Y_J_entry 1 []),
  (25, X_astore 2 1),
  (26, X_aload 0 1),
  (27, X_get 2 2),
  (30, X_aload 2 1),
  (31, X_invV 6 Y_E_account 0 []),
  (34, X_dup2),
  (35, X_ald 0),
  (36, X_aload 2 1),
  (37, X_invS Y_B_changeBy 1 []),
  (40, X_bin (fun x y => x + y)),
  (41, X_ast 0 (fun x => x)),
  (42, X_aload 0 1),
  (43, X_dup),
  (44, X_get 2 3),
  (47, X_push (xv_i 1) 1),
  (48, X_bin (fun x y => x + y)),
  (49, X_put x_tI 2 3),
  (52, X_goto 0),
  (55, X_aload 0 1),
  (56, X_get 2 2),
  (59, X_iload 1 1),
  (60, X_ald 0),
  (61, X_iret)]
set_option maxRecDepth 100000 in
theorem k_B_balanceOf : x_bok m_B_balanceOf b_B_balanceOf := by
  unfold b_B_balanceOf
  refine x_bok.cons (xs_aload_n d_B_balanceOf_0 rfl) ?_
  refine x_bok.cons (xs_get d_B_balanceOf_1 xc2 xw2 (by decide) q1_117 (Or.inl rfl)) ?_
  refine x_bok.cons (xs_aload_n d_B_balanceOf_4 rfl) ?_
  refine x_bok.cons (xs_get d_B_balanceOf_5 xc2 xw2 (by decide) q1_114 (Or.inl rfl)) ?_
  refine x_bok.cons (xs_invV d_B_balanceOf_8 xc4 sn_J_size is_J_size ⟨q3_236, q3_131, q3_132, q1_7⟩ (by decide) (by decide) rfl) ?_
  refine x_bok.cons (xs_icmp_ge d_B_balanceOf_11 (by decide)) ?_
  refine x_bok.cons (xs_aload_n d_B_balanceOf_14 rfl) ?_
  refine x_bok.cons (xs_get d_B_balanceOf_15 xc2 xw2 (by decide) q1_114 (Or.inl rfl)) ?_
  refine x_bok.cons (xs_aload_n d_B_balanceOf_18 rfl) ?_
  refine x_bok.cons (xs_get d_B_balanceOf_19 xc2 xw2 (by decide) q1_117 (Or.inl rfl)) ?_
  refine x_bok.cons (xs_invV d_B_balanceOf_22 xc4 sn_J_entry is_J_entry ⟨q3_237, q3_135, q3_136, q1_7⟩ (by decide) (by decide) rfl) ?_
  refine x_bok.cons (xs_astore_n d_B_balanceOf_25 rfl (by decide)) ?_
  refine x_bok.cons (xs_aload_n d_B_balanceOf_26 rfl) ?_
  refine x_bok.cons (xs_get d_B_balanceOf_27 xc2 xw2 (by decide) q1_116 (Or.inl rfl)) ?_
  refine x_bok.cons (xs_aload_n d_B_balanceOf_30 rfl) ?_
  refine x_bok.cons (xs_invV d_B_balanceOf_31 xc6 sn_E_account is_E_account ⟨q3_238, q3_239, q4_0, q1_21⟩ (by decide) (by decide) rfl) ?_
  refine x_bok.cons (xs_dup2 d_B_balanceOf_34) ?_
  refine x_bok.cons (xs_iald d_B_balanceOf_35 rfl) ?_
  refine x_bok.cons (xs_aload_n d_B_balanceOf_36 rfl) ?_
  refine x_bok.cons (xs_invS d_B_balanceOf_37 sn_B_changeBy is_B_changeBy ⟨q4_2, q4_3, q1_6⟩ (by decide) (by decide) rfl) ?_
  refine x_bok.cons (xs_iadd d_B_balanceOf_40) ?_
  refine x_bok.cons (xs_iast d_B_balanceOf_41 rfl) ?_
  refine x_bok.cons (xs_aload_n d_B_balanceOf_42 rfl) ?_
  refine x_bok.cons (xs_dup d_B_balanceOf_43) ?_
  refine x_bok.cons (xs_get d_B_balanceOf_44 xc2 xw2 (by decide) q1_117 (Or.inl rfl)) ?_
  refine x_bok.cons (xs_iconst d_B_balanceOf_47 (by decide)) ?_
  refine x_bok.cons (xs_iadd d_B_balanceOf_48) ?_
  refine x_bok.cons (xs_put d_B_balanceOf_49 xc2 xw2 xt2 xn2 (by decide) q1_117 (Or.inl rfl) rfl rfl x_fitI) ?_
  refine x_bok.cons (xs_goto d_B_balanceOf_52 (by decide)) ?_
  refine x_bok.cons (xs_aload_n d_B_balanceOf_55 rfl) ?_
  refine x_bok.cons (xs_get d_B_balanceOf_56 xc2 xw2 (by decide) q1_116 (Or.inl rfl)) ?_
  refine x_bok.cons (xs_iload_n d_B_balanceOf_59 rfl) ?_
  refine x_bok.cons (xs_iald d_B_balanceOf_60 rfl) ?_
  refine x_bok.cons (xs_iret d_B_balanceOf_61 rfl) ?_
  exact x_bok.nil
set_option maxRecDepth 100000 in
theorem mn_B_balanceOf : x_bmn b_B_balanceOf := by
  unfold b_B_balanceOf
  refine x_bmn.cons (xm_aload) ?_
  refine x_bmn.cons (xm_get) ?_
  refine x_bmn.cons (xm_aload) ?_
  refine x_bmn.cons (xm_get) ?_
  refine x_bmn.cons (xm_invV ym_J_size) ?_
  refine x_bmn.cons (xm_icmp) ?_
  refine x_bmn.cons (xm_aload) ?_
  refine x_bmn.cons (xm_get) ?_
  refine x_bmn.cons (xm_aload) ?_
  refine x_bmn.cons (xm_get) ?_
  refine x_bmn.cons (xm_invV ym_J_entry) ?_
  refine x_bmn.cons (xm_astore) ?_
  refine x_bmn.cons (xm_aload) ?_
  refine x_bmn.cons (xm_get) ?_
  refine x_bmn.cons (xm_aload) ?_
  refine x_bmn.cons (xm_invV ym_E_account) ?_
  refine x_bmn.cons (xm_dup2) ?_
  refine x_bmn.cons (xm_ald) ?_
  refine x_bmn.cons (xm_aload) ?_
  refine x_bmn.cons (xm_invS ym_B_changeBy) ?_
  refine x_bmn.cons (xm_bin) ?_
  refine x_bmn.cons (xm_ast) ?_
  refine x_bmn.cons (xm_aload) ?_
  refine x_bmn.cons (xm_dup) ?_
  refine x_bmn.cons (xm_get) ?_
  refine x_bmn.cons (xm_push) ?_
  refine x_bmn.cons (xm_bin) ?_
  refine x_bmn.cons (xm_put) ?_
  refine x_bmn.cons (xm_goto) ?_
  refine x_bmn.cons (xm_aload) ?_
  refine x_bmn.cons (xm_get) ?_
  refine x_bmn.cons (xm_iload) ?_
  refine x_bmn.cons (xm_ald) ?_
  refine x_bmn.cons (xm_iret) ?_
  exact x_bmn.nil
theorem is_B_balanceOf : x_Is y_B_balanceOf m_B_balanceOf := x_is_code q3_235
def Y_B_balanceOf : XMeth := x_do 3 b_B_balanceOf
theorem sn_B_balanceOf : x_Snd y_B_balanceOf m_B_balanceOf Y_B_balanceOf := x_snd_of (by decide) rfl rfl is_B_balanceOf k_B_balanceOf
theorem ym_B_balanceOf : x_Ymn Y_B_balanceOf := x_ymn_of mn_B_balanceOf
/- CashLink$Bank.decide(LCashLink$Message;)I -/
abbrev c_B_decide : ByteArray := prog_2_method_7_code
def y_B_decide : MethodName := ⟨"CashLink$Bank", "decide", "(LCashLink$Message;)I"⟩
theorem d_B_decide_0 : decode c_B_decide 0 = .ok (.aload_n 0, 1) := by decide +kernel
theorem d_B_decide_1 : decode c_B_decide 1 = .ok (.bipush 7, 2) := by decide +kernel
theorem d_B_decide_3 : decode c_B_decide 3 = .ok (.aload_n 1, 1) := by decide +kernel
theorem d_B_decide_4 : decode c_B_decide 4 = .ok (.invokevirtual 90, 3) := by decide +kernel
theorem d_B_decide_7 : decode c_B_decide 7 = .ok (.ifnull 5, 3) := by decide +kernel
theorem d_B_decide_10 : decode c_B_decide 10 = .ok (.iconst 3, 1) := by decide +kernel
theorem d_B_decide_11 : decode c_B_decide 11 = .ok (.ireturn, 1) := by decide +kernel
theorem d_B_decide_12 : decode c_B_decide 12 = .ok (.aload_n 0, 1) := by decide +kernel
theorem d_B_decide_13 : decode c_B_decide 13 = .ok (.aload_n 1, 1) := by decide +kernel
theorem d_B_decide_14 : decode c_B_decide 14 = .ok (.invokevirtual 104, 3) := by decide +kernel
theorem d_B_decide_17 : decode c_B_decide 17 = .ok (.invokevirtual 126, 3) := by decide +kernel
theorem d_B_decide_20 : decode c_B_decide 20 = .ok (.aload_n 1, 1) := by decide +kernel
theorem d_B_decide_21 : decode c_B_decide 21 = .ok (.invokevirtual 105, 3) := by decide +kernel
theorem d_B_decide_24 : decode c_B_decide 24 = .ok (.if_icmp .ge 7, 3) := by decide +kernel
theorem d_B_decide_27 : decode c_B_decide 27 = .ok (.iconst 1, 1) := by decide +kernel
theorem d_B_decide_28 : decode c_B_decide 28 = .ok (.goto 4, 3) := by decide +kernel
theorem d_B_decide_31 : decode c_B_decide 31 = .ok (.iconst 0, 1) := by decide +kernel
theorem d_B_decide_32 : decode c_B_decide 32 = .ok (.ireturn, 1) := by decide +kernel
def m_B_decide : XM := ("CashLink$Bank", c_B_decide, 2, (some .int), "decide", [], 5, 111)
def b_B_decide : XB := [(0, X_aload 0 1),
  (1, X_push (xv_i 7) 2),
  (3, X_aload 1 1),
  (4, X_invV 2 Y_B_find 2 []),
  (7, X_ifnull 12),
  (10, X_push (xv_i 3) 1),
  (11, X_iret),
  (12, X_aload 0 1),
  (13, X_aload 1 1),
  (14, X_invV 7 Y_G_account 0 []),
  (17, X_invV 2 Y_B_balanceOf 1 []),
  (20, X_aload 1 1),
  (21, X_invV 7 Y_G_amount 0 []),
  (24, X_icmp (fun x y => y ≤ x) 31),
  (27, X_push (xv_i 1) 1),
  (28, X_goto 32),
  (31, X_push (xv_i 0) 1),
  (32, X_iret)]
set_option maxRecDepth 100000 in
theorem k_B_decide : x_bok m_B_decide b_B_decide := by
  unfold b_B_decide
  refine x_bok.cons (xs_aload_n d_B_decide_0 rfl) ?_
  refine x_bok.cons (xs_bipush d_B_decide_1 (by decide)) ?_
  refine x_bok.cons (xs_aload_n d_B_decide_3 rfl) ?_
  refine x_bok.cons (xs_invV d_B_decide_4 xc2 sn_B_find is_B_find ⟨q3_198, q3_200, (x_sel (x_p1 (List.mem_of_getElem? (i := 8) rfl))), q1_6⟩ (by decide) (by decide) rfl) ?_
  refine x_bok.cons (xs_ifnull d_B_decide_7 (by decide)) ?_
  refine x_bok.cons (xs_iconst d_B_decide_10 (by decide)) ?_
  refine x_bok.cons (xs_iret d_B_decide_11 rfl) ?_
  refine x_bok.cons (xs_aload_n d_B_decide_12 rfl) ?_
  refine x_bok.cons (xs_aload_n d_B_decide_13 rfl) ?_
  refine x_bok.cons (xs_invV d_B_decide_14 xc7 sn_G_account is_G_account ⟨q3_220, q3_221, q3_222, q1_27⟩ (by decide) (by decide) rfl) ?_
  refine x_bok.cons (xs_invV d_B_decide_17 xc2 sn_B_balanceOf is_B_balanceOf ⟨q3_232, q3_233, q3_234, q1_6⟩ (by decide) (by decide) rfl) ?_
  refine x_bok.cons (xs_aload_n d_B_decide_20 rfl) ?_
  refine x_bok.cons (xs_invV d_B_decide_21 xc7 sn_G_amount is_G_amount ⟨q3_224, q3_225, q3_226, q1_27⟩ (by decide) (by decide) rfl) ?_
  refine x_bok.cons (xs_icmp_ge d_B_decide_24 (by decide)) ?_
  refine x_bok.cons (xs_iconst d_B_decide_27 (by decide)) ?_
  refine x_bok.cons (xs_goto d_B_decide_28 (by decide)) ?_
  refine x_bok.cons (xs_iconst d_B_decide_31 (by decide)) ?_
  refine x_bok.cons (xs_iret d_B_decide_32 rfl) ?_
  exact x_bok.nil
set_option maxRecDepth 100000 in
theorem mn_B_decide : x_bmn b_B_decide := by
  unfold b_B_decide
  refine x_bmn.cons (xm_aload) ?_
  refine x_bmn.cons (xm_push) ?_
  refine x_bmn.cons (xm_aload) ?_
  refine x_bmn.cons (xm_invV ym_B_find) ?_
  refine x_bmn.cons (xm_ifnull) ?_
  refine x_bmn.cons (xm_push) ?_
  refine x_bmn.cons (xm_iret) ?_
  refine x_bmn.cons (xm_aload) ?_
  refine x_bmn.cons (xm_aload) ?_
  refine x_bmn.cons (xm_invV ym_G_account) ?_
  refine x_bmn.cons (xm_invV ym_B_balanceOf) ?_
  refine x_bmn.cons (xm_aload) ?_
  refine x_bmn.cons (xm_invV ym_G_amount) ?_
  refine x_bmn.cons (xm_icmp) ?_
  refine x_bmn.cons (xm_push) ?_
  refine x_bmn.cons (xm_goto) ?_
  refine x_bmn.cons (xm_push) ?_
  refine x_bmn.cons (xm_iret) ?_
  exact x_bmn.nil
theorem is_B_decide : x_Is y_B_decide m_B_decide := x_is_code q3_231
def Y_B_decide : XMeth := x_do 2 b_B_decide
theorem sn_B_decide : x_Snd y_B_decide m_B_decide Y_B_decide := x_snd_of (by decide) rfl rfl is_B_decide k_B_decide
theorem ym_B_decide : x_Ymn Y_B_decide := x_ymn_of mn_B_decide
/- CashLink$Bank.reply(LCashLink$Type;LCashLink$Message;I)Z -/
abbrev c_B_reply : ByteArray := prog_2_method_13_code
def y_B_reply : MethodName := ⟨"CashLink$Bank", "reply", "(LCashLink$Type;LCashLink$Message;I)Z"⟩
theorem d_B_reply_0 : decode c_B_reply 0 = .ok (.aload_n 0, 1) := by decide +kernel
theorem d_B_reply_1 : decode c_B_reply 1 = .ok (.getfield 24, 3) := by decide +kernel
theorem d_B_reply_4 : decode c_B_reply 4 = .ok (.aload_n 1, 1) := by decide +kernel
theorem d_B_reply_5 : decode c_B_reply 5 = .ok (.aload_n 2, 1) := by decide +kernel
theorem d_B_reply_6 : decode c_B_reply 6 = .ok (.invokevirtual 98, 3) := by decide +kernel
theorem d_B_reply_9 : decode c_B_reply 9 = .ok (.aload_n 2, 1) := by decide +kernel
theorem d_B_reply_10 : decode c_B_reply 10 = .ok (.invokevirtual 101, 3) := by decide +kernel
theorem d_B_reply_13 : decode c_B_reply 13 = .ok (.iconst 0, 1) := by decide +kernel
theorem d_B_reply_14 : decode c_B_reply 14 = .ok (.iconst 0, 1) := by decide +kernel
theorem d_B_reply_15 : decode c_B_reply 15 = .ok (.iload_n 3, 1) := by decide +kernel
theorem d_B_reply_16 : decode c_B_reply 16 = .ok (.invokevirtual 152, 3) := by decide +kernel
theorem d_B_reply_19 : decode c_B_reply 19 = .ok (.ireturn, 1) := by decide +kernel
def m_B_reply : XM := ("CashLink$Bank", c_B_reply, 4, (some .boolean), "reply", [], 8, 183)
def b_B_reply : XB := [(0, X_aload 0 1),
  (1, X_get 2 0),
  (4, X_aload 1 1),
  (5, X_aload 2 1),
  (6, X_invV 7 Y_G_machine 0 []),
  (9, X_aload 2 1),
  (10, X_invV 7 Y_G_trace 0 []),
  (13, X_push (xv_i 0) 1),
  (14, X_push (xv_i 0) 1),
  (15, X_iload 3 1),
  (16, X_invV 1 Y_N_send 6 []),
  (19, X_zret)]
set_option maxRecDepth 100000 in
theorem k_B_reply : x_bok m_B_reply b_B_reply := by
  unfold b_B_reply
  refine x_bok.cons (xs_aload_n d_B_reply_0 rfl) ?_
  refine x_bok.cons (xs_get d_B_reply_1 xc2 xw2 (by decide) q1_113 (Or.inl rfl)) ?_
  refine x_bok.cons (xs_aload_n d_B_reply_4 rfl) ?_
  refine x_bok.cons (xs_aload_n d_B_reply_5 rfl) ?_
  refine x_bok.cons (xs_invV d_B_reply_6 xc7 sn_G_machine is_G_machine ⟨q3_202, q3_203, q3_204, q1_27⟩ (by decide) (by decide) rfl) ?_
  refine x_bok.cons (xs_aload_n d_B_reply_9 rfl) ?_
  refine x_bok.cons (xs_invV d_B_reply_10 xc7 sn_G_trace is_G_trace ⟨q3_206, q3_207, q3_208, q1_27⟩ (by decide) (by decide) rfl) ?_
  refine x_bok.cons (xs_iconst d_B_reply_13 (by decide)) ?_
  refine x_bok.cons (xs_iconst d_B_reply_14 (by decide)) ?_
  refine x_bok.cons (xs_iload_n d_B_reply_15 rfl) ?_
  refine x_bok.cons (xs_invV d_B_reply_16 xc1 sn_N_send is_N_send ⟨q4_19, q3_24, q3_25, q1_2⟩ (by decide) (by decide) rfl) ?_
  refine x_bok.cons (xs_zret d_B_reply_19 rfl) ?_
  exact x_bok.nil
set_option maxRecDepth 100000 in
theorem mn_B_reply : x_bmn b_B_reply := by
  unfold b_B_reply
  refine x_bmn.cons (xm_aload) ?_
  refine x_bmn.cons (xm_get) ?_
  refine x_bmn.cons (xm_aload) ?_
  refine x_bmn.cons (xm_aload) ?_
  refine x_bmn.cons (xm_invV ym_G_machine) ?_
  refine x_bmn.cons (xm_aload) ?_
  refine x_bmn.cons (xm_invV ym_G_trace) ?_
  refine x_bmn.cons (xm_push) ?_
  refine x_bmn.cons (xm_push) ?_
  refine x_bmn.cons (xm_iload) ?_
  refine x_bmn.cons (xm_invV ym_N_send) ?_
  refine x_bmn.cons (xm_zret) ?_
  exact x_bmn.nil
theorem is_B_reply : x_Is y_B_reply m_B_reply := x_is_code q4_18
def Y_B_reply : XMeth := x_do 4 b_B_reply
theorem sn_B_reply : x_Snd y_B_reply m_B_reply Y_B_reply := x_snd_of (by decide) rfl rfl is_B_reply k_B_reply
theorem ym_B_reply : x_Ymn Y_B_reply := x_ymn_of mn_B_reply
