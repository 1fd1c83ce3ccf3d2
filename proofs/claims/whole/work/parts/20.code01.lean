/- CashLink$Machine.insert(I)V -/
abbrev c_M_insert : ByteArray := prog_6_method_2_code
def y_M_insert : MethodName := ⟨"CashLink$Machine", "insert", "(I)V"⟩
theorem d_M_insert_0 : decode c_M_insert 0 = .ok (.aload_n 0, 1) := by decide +kernel
theorem d_M_insert_1 : decode c_M_insert 1 = .ok (.getfield 14, 3) := by decide +kernel
theorem d_M_insert_4 : decode c_M_insert 4 = .ok (.invokevirtual 53, 3) := by decide +kernel
theorem d_M_insert_7 : decode c_M_insert 7 = .ok (.ifCond .eq 17, 3) := by decide +kernel
theorem d_M_insert_10 : decode c_M_insert 10 = .ok (.aload_n 0, 1) := by decide +kernel
theorem d_M_insert_11 : decode c_M_insert 11 = .ok (.getfield 31, 3) := by decide +kernel
theorem d_M_insert_14 : decode c_M_insert 14 = .ok (.getstatic 25, 3) := by decide +kernel
theorem d_M_insert_17 : decode c_M_insert 17 = .ok (.if_acmp .ne 7, 3) := by decide +kernel
theorem d_M_insert_20 : decode c_M_insert 20 = .ok (.iconst 1, 1) := by decide +kernel
theorem d_M_insert_21 : decode c_M_insert 21 = .ok (.goto 4, 3) := by decide +kernel
theorem d_M_insert_24 : decode c_M_insert 24 = .ok (.iconst 0, 1) := by decide +kernel
theorem d_M_insert_25 : decode c_M_insert 25 = .ok (.invokestatic 57, 3) := by decide +kernel
theorem d_M_insert_28 : decode c_M_insert 28 = .ok (.aload_n 0, 1) := by decide +kernel
theorem d_M_insert_29 : decode c_M_insert 29 = .ok (.iload_n 1, 1) := by decide +kernel
theorem d_M_insert_30 : decode c_M_insert 30 = .ok (.putfield 63, 3) := by decide +kernel
theorem d_M_insert_33 : decode c_M_insert 33 = .ok (.aload_n 0, 1) := by decide +kernel
theorem d_M_insert_34 : decode c_M_insert 34 = .ok (.iconst 0, 1) := by decide +kernel
theorem d_M_insert_35 : decode c_M_insert 35 = .ok (.putfield 66, 3) := by decide +kernel
theorem d_M_insert_38 : decode c_M_insert 38 = .ok (.aload_n 0, 1) := by decide +kernel
theorem d_M_insert_39 : decode c_M_insert 39 = .ok (.getstatic 69, 3) := by decide +kernel
theorem d_M_insert_42 : decode c_M_insert 42 = .ok (.putfield 31, 3) := by decide +kernel
theorem d_M_insert_45 : decode c_M_insert 45 = .ok (.return_, 1) := by decide +kernel
def m_M_insert : XM := ("CashLink$Machine", c_M_insert, 2, none, "insert", [], 7, 110)
def b_M_insert : XB := [(0, X_aload 0 1),
  (1, X_get 3 3),
  (4, X_invV 4 Y_J_isOn 0 []),
  (7, X_if (fun x => x = 0) 24),
  (10, X_aload 0 1),
  (11, X_get 3 5),
  (14, X_push (xv_r 49 0) 3),
  (17, X_acmp (fun q => ¬ q) 24),
  (20, X_push (xv_i 1) 1),
  (21, X_goto 25),
  (24, X_push (xv_i 0) 1),
  (25, X_invS Y_C_demand 1 []),
  (28, X_aload 0 1),
  (29, X_iload 1 1),
  (30, X_put x_tI 3 6),
  (33, X_aload 0 1),
  (34, X_push (xv_i 0) 1),
  (35, X_put x_tI 3 7),
  (38, X_aload 0 1),
  (39, X_push (xv_r 49 1) 3),
  (42, X_put x_tR 3 5),
  (45, X_vret)]
set_option maxRecDepth 100000 in
theorem k_M_insert : x_bok m_M_insert b_M_insert := by
  unfold b_M_insert
  refine x_bok.cons (xs_aload_n d_M_insert_0 rfl) ?_
  refine x_bok.cons (xs_get d_M_insert_1 xc3 xw3 (by decide) q1_168 (Or.inl rfl)) ?_
  refine x_bok.cons (xs_invV d_M_insert_4 xc4 sn_J_isOn is_J_isOn ⟨q2_67, q2_68, q2_69, q1_7⟩ (by decide) (by decide) rfl) ?_
  refine x_bok.cons (xs_if_eq d_M_insert_7 (by decide)) ?_
  refine x_bok.cons (xs_aload_n d_M_insert_10 rfl) ?_
  refine x_bok.cons (xs_get d_M_insert_11 xc3 xw3 (by decide) q1_172 (Or.inl rfl)) ?_
  refine x_bok.cons (xs_gets d_M_insert_14 (List.mem_of_getElem? (i := 0) rfl) q1_161 (Or.inl rfl)) ?_
  refine x_bok.cons (xs_acmp_ne d_M_insert_17 (by decide)) ?_
  refine x_bok.cons (xs_iconst d_M_insert_20 (by decide)) ?_
  refine x_bok.cons (xs_goto d_M_insert_21 (by decide)) ?_
  refine x_bok.cons (xs_iconst d_M_insert_24 (by decide)) ?_
  refine x_bok.cons (xs_invSN d_M_insert_25 sn_C_demand is_C_demand ⟨q2_71, q2_72, q1_1⟩ (by decide) (by decide) rfl) ?_
  refine x_bok.cons (xs_aload_n d_M_insert_28 rfl) ?_
  refine x_bok.cons (xs_iload_n d_M_insert_29 rfl) ?_
  refine x_bok.cons (xs_put d_M_insert_30 xc3 xw3 xt3 xn3 (by decide) q1_173 (Or.inl rfl) rfl rfl x_fitI) ?_
  refine x_bok.cons (xs_aload_n d_M_insert_33 rfl) ?_
  refine x_bok.cons (xs_iconst d_M_insert_34 (by decide)) ?_
  refine x_bok.cons (xs_put d_M_insert_35 xc3 xw3 xt3 xn3 (by decide) q1_174 (Or.inl rfl) rfl rfl x_fitI) ?_
  refine x_bok.cons (xs_aload_n d_M_insert_38 rfl) ?_
  refine x_bok.cons (xs_gets d_M_insert_39 (List.mem_of_getElem? (i := 1) rfl) q2_90 (Or.inl rfl)) ?_
  refine x_bok.cons (xs_put d_M_insert_42 xc3 xw3 xt3 xn3 (by decide) q1_172 (Or.inl rfl) rfl rfl x_fitO) ?_
  refine x_bok.cons (xs_vret d_M_insert_45 rfl) ?_
  exact x_bok.nil
set_option maxRecDepth 100000 in
theorem mn_M_insert : x_bmn b_M_insert := by
  unfold b_M_insert
  refine x_bmn.cons (xm_aload) ?_
  refine x_bmn.cons (xm_get) ?_
  refine x_bmn.cons (xm_invV ym_J_isOn) ?_
  refine x_bmn.cons (xm_if) ?_
  refine x_bmn.cons (xm_aload) ?_
  refine x_bmn.cons (xm_get) ?_
  refine x_bmn.cons (xm_push) ?_
  refine x_bmn.cons (xm_acmp) ?_
  refine x_bmn.cons (xm_push) ?_
  refine x_bmn.cons (xm_goto) ?_
  refine x_bmn.cons (xm_push) ?_
  refine x_bmn.cons (xm_invS ym_C_demand) ?_
  refine x_bmn.cons (xm_aload) ?_
  refine x_bmn.cons (xm_iload) ?_
  refine x_bmn.cons (xm_put) ?_
  refine x_bmn.cons (xm_aload) ?_
  refine x_bmn.cons (xm_push) ?_
  refine x_bmn.cons (xm_put) ?_
  refine x_bmn.cons (xm_aload) ?_
  refine x_bmn.cons (xm_push) ?_
  refine x_bmn.cons (xm_put) ?_
  refine x_bmn.cons (xm_vret) ?_
  exact x_bmn.nil
theorem is_M_insert : x_Is y_M_insert m_M_insert := x_is_code q2_66
def Y_M_insert : XMeth := x_do 2 b_M_insert
theorem sn_M_insert : x_Snd y_M_insert m_M_insert Y_M_insert := x_snd_of (by decide) rfl rfl is_M_insert k_M_insert
theorem ym_M_insert : x_Ymn Y_M_insert := x_ymn_of mn_M_insert
/- CashLink.card(II)V -/
abbrev c_C_card : ByteArray := prog_1_method_2_code
def y_C_card : MethodName := ⟨"CashLink", "card", "(II)V"⟩
theorem d_C_card_0 : decode c_C_card 0 = .ok (.aload_n 0, 1) := by decide +kernel
theorem d_C_card_1 : decode c_C_card 1 = .ok (.iload_n 1, 1) := by decide +kernel
theorem d_C_card_2 : decode c_C_card 2 = .ok (.invokevirtual 38, 3) := by decide +kernel
theorem d_C_card_5 : decode c_C_card 5 = .ok (.astore_n 3, 1) := by decide +kernel
theorem d_C_card_6 : decode c_C_card 6 = .ok (.iload_n 2, 1) := by decide +kernel
theorem d_C_card_7 : decode c_C_card 7 = .ok (.invokestatic 42, 3) := by decide +kernel
theorem d_C_card_10 : decode c_C_card 10 = .ok (.invokestatic 46, 3) := by decide +kernel
theorem d_C_card_13 : decode c_C_card 13 = .ok (.aload_n 3, 1) := by decide +kernel
theorem d_C_card_14 : decode c_C_card 14 = .ok (.iload_n 2, 1) := by decide +kernel
theorem d_C_card_15 : decode c_C_card 15 = .ok (.invokevirtual 50, 3) := by decide +kernel
theorem d_C_card_18 : decode c_C_card 18 = .ok (.return_, 1) := by decide +kernel
def m_C_card : XM := ("CashLink", c_C_card, 4, none, "card", [], 8, 131)
def b_C_card : XB := [(0, X_aload 0 1),
  (1, X_iload 1 1),
  (2, X_invV 0 Y_C_machineAt 1 []),
  (5, X_astore 3 1),
  (6, X_iload 2 1),
  (7, X_invS Y_C_isAccount 1 []),
  (10, X_invS Y_C_allow 1 []),
  (13, X_aload 3 1),
  (14, X_iload 2 1),
  (15, X_invV 3 Y_M_insert 1 []),
  (18, X_vret)]
set_option maxRecDepth 100000 in
theorem k_C_card : x_bok m_C_card b_C_card := by
  unfold b_C_card
  refine x_bok.cons (xs_aload_n d_C_card_0 rfl) ?_
  refine x_bok.cons (xs_iload_n d_C_card_1 rfl) ?_
  refine x_bok.cons (xs_invV d_C_card_2 xc0 sn_C_machineAt is_C_machineAt ⟨q1_223, q1_225, (x_sel (x_p1 (List.mem_of_getElem? (i := 0) rfl))), q1_1⟩ (by decide) (by decide) rfl) ?_
  refine x_bok.cons (xs_astore_n d_C_card_5 rfl (by decide)) ?_
  refine x_bok.cons (xs_iload_n d_C_card_6 rfl) ?_
  refine x_bok.cons (xs_invS d_C_card_7 sn_C_isAccount is_C_isAccount ⟨q2_60, q2_61, q1_1⟩ (by decide) (by decide) rfl) ?_
  refine x_bok.cons (xs_invS d_C_card_10 sn_C_allow is_C_allow ⟨q1_227, q1_228, q1_1⟩ (by decide) (by decide) rfl) ?_
  refine x_bok.cons (xs_aload_n d_C_card_13 rfl) ?_
  refine x_bok.cons (xs_iload_n d_C_card_14 rfl) ?_
  refine x_bok.cons (xs_invV d_C_card_15 xc3 sn_M_insert is_M_insert ⟨q2_63, q2_64, q2_65, q1_8⟩ (by decide) (by decide) rfl) ?_
  refine x_bok.cons (xs_vret d_C_card_18 rfl) ?_
  exact x_bok.nil
set_option maxRecDepth 100000 in
theorem mn_C_card : x_bmn b_C_card := by
  unfold b_C_card
  refine x_bmn.cons (xm_aload) ?_
  refine x_bmn.cons (xm_iload) ?_
  refine x_bmn.cons (xm_invV ym_C_machineAt) ?_
  refine x_bmn.cons (xm_astore) ?_
  refine x_bmn.cons (xm_iload) ?_
  refine x_bmn.cons (xm_invS ym_C_isAccount) ?_
  refine x_bmn.cons (xm_invS ym_C_allow) ?_
  refine x_bmn.cons (xm_aload) ?_
  refine x_bmn.cons (xm_iload) ?_
  refine x_bmn.cons (xm_invV ym_M_insert) ?_
  refine x_bmn.cons (xm_vret) ?_
  exact x_bmn.nil
theorem is_C_card : x_Is y_C_card m_C_card := x_is_code q1_222
def Y_C_card : XMeth := x_do 4 b_C_card
theorem sn_C_card : x_Snd y_C_card m_C_card Y_C_card := x_snd_of (by decide) rfl rfl is_C_card k_C_card
theorem ym_C_card : x_Ymn Y_C_card := x_ymn_of mn_C_card
/- CashLinkLaw.card(LCashLink;II)I -/
abbrev c_L_card : ByteArray := method_3_code
def y_L_card : MethodName := ⟨"CashLinkLaw", "card", "(LCashLink;II)I"⟩
theorem d_L_card_0 : decode c_L_card 0 = .ok (.aload_n 0, 1) := by decide +kernel
theorem d_L_card_1 : decode c_L_card 1 = .ok (.iload_n 1, 1) := by decide +kernel
theorem d_L_card_2 : decode c_L_card 2 = .ok (.iload_n 2, 1) := by decide +kernel
theorem d_L_card_3 : decode c_L_card 3 = .ok (.invokevirtual 7, 3) := by decide +kernel
theorem d_L_card_6 : decode c_L_card 6 = .ok (.goto 9, 3) := by decide +kernel
theorem d_L_card_9 : decode c_L_card 9 = .ok (.astore_n 3, 1) := by decide +kernel
theorem d_L_card_10 : decode c_L_card 10 = .ok (.iconst 1, 1) := by decide +kernel
theorem d_L_card_11 : decode c_L_card 11 = .ok (.ireturn, 1) := by decide +kernel
theorem d_L_card_12 : decode c_L_card 12 = .ok (.astore_n 3, 1) := by decide +kernel
theorem d_L_card_13 : decode c_L_card 13 = .ok (.iconst 2, 1) := by decide +kernel
theorem d_L_card_14 : decode c_L_card 14 = .ok (.ireturn, 1) := by decide +kernel
theorem d_L_card_15 : decode c_L_card 15 = .ok (.iconst 0, 1) := by decide +kernel
theorem d_L_card_16 : decode c_L_card 16 = .ok (.ireturn, 1) := by decide +kernel
def m_L_card : XM := ("CashLinkLaw", c_L_card, 4, (some .int), "card", [(0, 6, 9, 13), (0, 6, 12, 15)], 9, 154)
theorem h_L_card_3 : x_hok m_L_card 3 [(11, 9), (12, 12)] := by
  intro ci h hc
  by_cases e0 : ci = 11
  · subst e0
    have hh : h = 9 := (Option.some.inj (hc.symm.trans (by rfl : x_catch [(11, 9), (12, 12)] 11 = some 9)))
    subst hh
    refine ⟨"java/lang/IllegalArgumentException", xT11, 0, [], ⟨0, 6, 9, 13⟩, [⟨0, 6, 12, 15⟩], rfl, rfl, rfl, rfl, by decide, q1_217, ?_⟩
    intro z hz
    cases hz
  by_cases e1 : ci = 12
  · subst e1
    have hh : h = 12 := (Option.some.inj (hc.symm.trans (by rfl : x_catch [(11, 9), (12, 12)] 12 = some 12)))
    subst hh
    refine ⟨"java/lang/IllegalStateException", xT12, 0, [⟨0, 6, 9, 13⟩], ⟨0, 6, 12, 15⟩, [], rfl, rfl, rfl, rfl, by decide, q1_218, ?_⟩
    intro z hz
    simp only [List.mem_cons, List.not_mem_nil, or_false] at hz
    rcases hz with rfl
    · exact Or.inr ⟨by decide, "java/lang/IllegalArgumentException", q1_217, x_inN 0 rfl⟩
  exfalso
  simp only [x_catch] at hc
  rw [if_neg (fun q => e0 q.symm)] at hc
  rw [if_neg (fun q => e1 q.symm)] at hc
  cases hc
def b_L_card : XB := [(0, X_aload 0 1),
  (1, X_iload 1 1),
  (2, X_iload 2 1),
  (3, X_invV 0 Y_C_card 2 [(11, 9), (12, 12)]),
  (6, X_goto 15),
  (9, X_astore 3 1),
  (10, X_push (xv_i 1) 1),
  (11, X_iret),
  (12, X_astore 3 1),
  (13, X_push (xv_i 2) 1),
  (14, X_iret),
  (15, X_push (xv_i 0) 1),
  (16, X_iret)]
set_option maxRecDepth 100000 in
theorem k_L_card : x_bok m_L_card b_L_card := by
  unfold b_L_card
  refine x_bok.cons (xs_aload_n d_L_card_0 rfl) ?_
  refine x_bok.cons (xs_iload_n d_L_card_1 rfl) ?_
  refine x_bok.cons (xs_iload_n d_L_card_2 rfl) ?_
  refine x_bok.cons (xs_invV d_L_card_3 xc0 sn_C_card is_C_card ⟨q1_219, q1_220, q1_221, q1_1⟩ (by decide) (by decide) h_L_card_3) ?_
  refine x_bok.cons (xs_goto d_L_card_6 (by decide)) ?_
  refine x_bok.cons (xs_astore_n d_L_card_9 rfl (by decide)) ?_
  refine x_bok.cons (xs_iconst d_L_card_10 (by decide)) ?_
  refine x_bok.cons (xs_iret d_L_card_11 rfl) ?_
  refine x_bok.cons (xs_astore_n d_L_card_12 rfl (by decide)) ?_
  refine x_bok.cons (xs_iconst d_L_card_13 (by decide)) ?_
  refine x_bok.cons (xs_iret d_L_card_14 rfl) ?_
  refine x_bok.cons (xs_iconst d_L_card_15 (by decide)) ?_
  refine x_bok.cons (xs_iret d_L_card_16 rfl) ?_
  exact x_bok.nil
set_option maxRecDepth 100000 in
theorem mn_L_card : x_bmn b_L_card := by
  unfold b_L_card
  refine x_bmn.cons (xm_aload) ?_
  refine x_bmn.cons (xm_iload) ?_
  refine x_bmn.cons (xm_iload) ?_
  refine x_bmn.cons (xm_invV ym_C_card) ?_
  refine x_bmn.cons (xm_goto) ?_
  refine x_bmn.cons (xm_astore) ?_
  refine x_bmn.cons (xm_push) ?_
  refine x_bmn.cons (xm_iret) ?_
  refine x_bmn.cons (xm_astore) ?_
  refine x_bmn.cons (xm_push) ?_
  refine x_bmn.cons (xm_iret) ?_
  refine x_bmn.cons (xm_push) ?_
  refine x_bmn.cons (xm_iret) ?_
  exact x_bmn.nil
theorem is_L_card : x_Is y_L_card m_L_card := x_is_with q1_216
def Y_L_card : XMeth := x_do 4 b_L_card
theorem sn_L_card : x_Snd y_L_card m_L_card Y_L_card := x_snd_of (by decide) rfl rfl is_L_card k_L_card
theorem ym_L_card : x_Ymn Y_L_card := x_ymn_of mn_L_card
/- CashLink$Machine.enter(I)Z -/
abbrev c_M_enter : ByteArray := prog_6_method_3_code
def y_M_enter : MethodName := ⟨"CashLink$Machine", "enter", "(I)Z"⟩
theorem d_M_enter_0 : decode c_M_enter 0 = .ok (.aload_n 0, 1) := by decide +kernel
theorem d_M_enter_1 : decode c_M_enter 1 = .ok (.getfield 14, 3) := by decide +kernel
theorem d_M_enter_4 : decode c_M_enter 4 = .ok (.invokevirtual 53, 3) := by decide +kernel
theorem d_M_enter_7 : decode c_M_enter 7 = .ok (.ifCond .eq 17, 3) := by decide +kernel
theorem d_M_enter_10 : decode c_M_enter 10 = .ok (.aload_n 0, 1) := by decide +kernel
theorem d_M_enter_11 : decode c_M_enter 11 = .ok (.getfield 31, 3) := by decide +kernel
theorem d_M_enter_14 : decode c_M_enter 14 = .ok (.getstatic 69, 3) := by decide +kernel
theorem d_M_enter_17 : decode c_M_enter 17 = .ok (.if_acmp .ne 7, 3) := by decide +kernel
theorem d_M_enter_20 : decode c_M_enter 20 = .ok (.iconst 1, 1) := by decide +kernel
theorem d_M_enter_21 : decode c_M_enter 21 = .ok (.goto 4, 3) := by decide +kernel
theorem d_M_enter_24 : decode c_M_enter 24 = .ok (.iconst 0, 1) := by decide +kernel
theorem d_M_enter_25 : decode c_M_enter 25 = .ok (.invokestatic 57, 3) := by decide +kernel
theorem d_M_enter_28 : decode c_M_enter 28 = .ok (.iload_n 1, 1) := by decide +kernel
theorem d_M_enter_29 : decode c_M_enter 29 = .ok (.sipush 1000, 3) := by decide +kernel
theorem d_M_enter_32 : decode c_M_enter 32 = .ok (.bipush 37, 2) := by decide +kernel
theorem d_M_enter_34 : decode c_M_enter 34 = .ok (.aload_n 0, 1) := by decide +kernel
theorem d_M_enter_35 : decode c_M_enter 35 = .ok (.getfield 63, 3) := by decide +kernel
theorem d_M_enter_38 : decode c_M_enter 38 = .ok (.imul, 1) := by decide +kernel
theorem d_M_enter_39 : decode c_M_enter 39 = .ok (.iadd, 1) := by decide +kernel
theorem d_M_enter_40 : decode c_M_enter 40 = .ok (.if_icmp .ne 12, 3) := by decide +kernel
theorem d_M_enter_43 : decode c_M_enter 43 = .ok (.aload_n 0, 1) := by decide +kernel
theorem d_M_enter_44 : decode c_M_enter 44 = .ok (.getstatic 72, 3) := by decide +kernel
theorem d_M_enter_47 : decode c_M_enter 47 = .ok (.putfield 31, 3) := by decide +kernel
theorem d_M_enter_50 : decode c_M_enter 50 = .ok (.iconst 1, 1) := by decide +kernel
theorem d_M_enter_51 : decode c_M_enter 51 = .ok (.ireturn, 1) := by decide +kernel
theorem d_M_enter_52 : decode c_M_enter 52 = .ok (.aload_n 0, 1) := by decide +kernel
theorem d_M_enter_53 : decode c_M_enter 53 = .ok (.dup, 1) := by decide +kernel
theorem d_M_enter_54 : decode c_M_enter 54 = .ok (.getfield 66, 3) := by decide +kernel
theorem d_M_enter_57 : decode c_M_enter 57 = .ok (.iconst 1, 1) := by decide +kernel
theorem d_M_enter_58 : decode c_M_enter 58 = .ok (.iadd, 1) := by decide +kernel
theorem d_M_enter_59 : decode c_M_enter 59 = .ok (.putfield 66, 3) := by decide +kernel
theorem d_M_enter_62 : decode c_M_enter 62 = .ok (.aload_n 0, 1) := by decide +kernel
theorem d_M_enter_63 : decode c_M_enter 63 = .ok (.getfield 66, 3) := by decide +kernel
theorem d_M_enter_66 : decode c_M_enter 66 = .ok (.iconst 3, 1) := by decide +kernel
theorem d_M_enter_67 : decode c_M_enter 67 = .ok (.if_icmp .ne 10, 3) := by decide +kernel
theorem d_M_enter_70 : decode c_M_enter 70 = .ok (.aload_n 0, 1) := by decide +kernel
theorem d_M_enter_71 : decode c_M_enter 71 = .ok (.getstatic 25, 3) := by decide +kernel
theorem d_M_enter_74 : decode c_M_enter 74 = .ok (.putfield 31, 3) := by decide +kernel
theorem d_M_enter_77 : decode c_M_enter 77 = .ok (.iconst 0, 1) := by decide +kernel
theorem d_M_enter_78 : decode c_M_enter 78 = .ok (.ireturn, 1) := by decide +kernel
def m_M_enter : XM := ("CashLink$Machine", c_M_enter, 2, (some .boolean), "enter", [], 7, 110)
def b_M_enter : XB := [(0, X_aload 0 1),
  (1, X_get 3 3),
  (4, X_invV 4 Y_J_isOn 0 []),
  (7, X_if (fun x => x = 0) 24),
  (10, X_aload 0 1),
  (11, X_get 3 5),
  (14, X_push (xv_r 49 1) 3),
  (17, X_acmp (fun q => ¬ q) 24),
  (20, X_push (xv_i 1) 1),
  (21, X_goto 25),
  (24, X_push (xv_i 0) 1),
  (25, X_invS Y_C_demand 1 []),
  (28, X_iload 1 1),
  (29, X_push (xv_i 1000) 3),
  (32, X_push (xv_i 37) 2),
  (34, X_aload 0 1),
  (35, X_get 3 6),
  (38, X_bin (fun x y => x * y)),
  (39, X_bin (fun x y => x + y)),
  (40, X_icmp (fun x y => ¬ x = y) 52),
  (43, X_aload 0 1),
  (44, X_push (xv_r 49 2) 3),
  (47, X_put x_tR 3 5),
  (50, X_push (xv_i 1) 1),
  (51, X_zret),
  (52, X_aload 0 1),
  (53, X_dup),
  (54, X_get 3 7),
  (57, X_push (xv_i 1) 1),
  (58, X_bin (fun x y => x + y)),
  (59, X_put x_tI 3 7),
  (62, X_aload 0 1),
  (63, X_get 3 7),
  (66, X_push (xv_i 3) 1),
  (67, X_icmp (fun x y => ¬ x = y) 77),
  (70, X_aload 0 1),
  (71, X_push (xv_r 49 0) 3),
  (74, X_put x_tR 3 5),
  (77, X_push (xv_i 0) 1),
  (78, X_zret)]
set_option maxRecDepth 100000 in
theorem k_M_enter : x_bok m_M_enter b_M_enter := by
  unfold b_M_enter
  refine x_bok.cons (xs_aload_n d_M_enter_0 rfl) ?_
  refine x_bok.cons (xs_get d_M_enter_1 xc3 xw3 (by decide) q1_168 (Or.inl rfl)) ?_
  refine x_bok.cons (xs_invV d_M_enter_4 xc4 sn_J_isOn is_J_isOn ⟨q2_67, q2_68, q2_69, q1_7⟩ (by decide) (by decide) rfl) ?_
  refine x_bok.cons (xs_if_eq d_M_enter_7 (by decide)) ?_
  refine x_bok.cons (xs_aload_n d_M_enter_10 rfl) ?_
  refine x_bok.cons (xs_get d_M_enter_11 xc3 xw3 (by decide) q1_172 (Or.inl rfl)) ?_
  refine x_bok.cons (xs_gets d_M_enter_14 (List.mem_of_getElem? (i := 1) rfl) q2_90 (Or.inl rfl)) ?_
  refine x_bok.cons (xs_acmp_ne d_M_enter_17 (by decide)) ?_
  refine x_bok.cons (xs_iconst d_M_enter_20 (by decide)) ?_
  refine x_bok.cons (xs_goto d_M_enter_21 (by decide)) ?_
  refine x_bok.cons (xs_iconst d_M_enter_24 (by decide)) ?_
  refine x_bok.cons (xs_invSN d_M_enter_25 sn_C_demand is_C_demand ⟨q2_71, q2_72, q1_1⟩ (by decide) (by decide) rfl) ?_
  refine x_bok.cons (xs_iload_n d_M_enter_28 rfl) ?_
  refine x_bok.cons (xs_sipush d_M_enter_29 (by decide)) ?_
  refine x_bok.cons (xs_bipush d_M_enter_32 (by decide)) ?_
  refine x_bok.cons (xs_aload_n d_M_enter_34 rfl) ?_
  refine x_bok.cons (xs_get d_M_enter_35 xc3 xw3 (by decide) q1_173 (Or.inl rfl)) ?_
  refine x_bok.cons (xs_imul d_M_enter_38) ?_
  refine x_bok.cons (xs_iadd d_M_enter_39) ?_
  refine x_bok.cons (xs_icmp_ne d_M_enter_40 (by decide)) ?_
  refine x_bok.cons (xs_aload_n d_M_enter_43 rfl) ?_
  refine x_bok.cons (xs_gets d_M_enter_44 (List.mem_of_getElem? (i := 2) rfl) q2_103 (Or.inl rfl)) ?_
  refine x_bok.cons (xs_put d_M_enter_47 xc3 xw3 xt3 xn3 (by decide) q1_172 (Or.inl rfl) rfl rfl x_fitO) ?_
  refine x_bok.cons (xs_iconst d_M_enter_50 (by decide)) ?_
  refine x_bok.cons (xs_zret d_M_enter_51 rfl) ?_
  refine x_bok.cons (xs_aload_n d_M_enter_52 rfl) ?_
  refine x_bok.cons (xs_dup d_M_enter_53) ?_
  refine x_bok.cons (xs_get d_M_enter_54 xc3 xw3 (by decide) q1_174 (Or.inl rfl)) ?_
  refine x_bok.cons (xs_iconst d_M_enter_57 (by decide)) ?_
  refine x_bok.cons (xs_iadd d_M_enter_58) ?_
  refine x_bok.cons (xs_put d_M_enter_59 xc3 xw3 xt3 xn3 (by decide) q1_174 (Or.inl rfl) rfl rfl x_fitI) ?_
  refine x_bok.cons (xs_aload_n d_M_enter_62 rfl) ?_
  refine x_bok.cons (xs_get d_M_enter_63 xc3 xw3 (by decide) q1_174 (Or.inl rfl)) ?_
  refine x_bok.cons (xs_iconst d_M_enter_66 (by decide)) ?_
  refine x_bok.cons (xs_icmp_ne d_M_enter_67 (by decide)) ?_
  refine x_bok.cons (xs_aload_n d_M_enter_70 rfl) ?_
  refine x_bok.cons (xs_gets d_M_enter_71 (List.mem_of_getElem? (i := 0) rfl) q1_161 (Or.inl rfl)) ?_
  refine x_bok.cons (xs_put d_M_enter_74 xc3 xw3 xt3 xn3 (by decide) q1_172 (Or.inl rfl) rfl rfl x_fitO) ?_
  refine x_bok.cons (xs_iconst d_M_enter_77 (by decide)) ?_
  refine x_bok.cons (xs_zret d_M_enter_78 rfl) ?_
  exact x_bok.nil
set_option maxRecDepth 100000 in
theorem mn_M_enter : x_bmn b_M_enter := by
  unfold b_M_enter
  refine x_bmn.cons (xm_aload) ?_
  refine x_bmn.cons (xm_get) ?_
  refine x_bmn.cons (xm_invV ym_J_isOn) ?_
  refine x_bmn.cons (xm_if) ?_
  refine x_bmn.cons (xm_aload) ?_
  refine x_bmn.cons (xm_get) ?_
  refine x_bmn.cons (xm_push) ?_
  refine x_bmn.cons (xm_acmp) ?_
  refine x_bmn.cons (xm_push) ?_
  refine x_bmn.cons (xm_goto) ?_
  refine x_bmn.cons (xm_push) ?_
  refine x_bmn.cons (xm_invS ym_C_demand) ?_
  refine x_bmn.cons (xm_iload) ?_
  refine x_bmn.cons (xm_push) ?_
  refine x_bmn.cons (xm_push) ?_
  refine x_bmn.cons (xm_aload) ?_
  refine x_bmn.cons (xm_get) ?_
  refine x_bmn.cons (xm_bin) ?_
  refine x_bmn.cons (xm_bin) ?_
  refine x_bmn.cons (xm_icmp) ?_
  refine x_bmn.cons (xm_aload) ?_
  refine x_bmn.cons (xm_push) ?_
  refine x_bmn.cons (xm_put) ?_
  refine x_bmn.cons (xm_push) ?_
  refine x_bmn.cons (xm_zret) ?_
  refine x_bmn.cons (xm_aload) ?_
  refine x_bmn.cons (xm_dup) ?_
  refine x_bmn.cons (xm_get) ?_
  refine x_bmn.cons (xm_push) ?_
  refine x_bmn.cons (xm_bin) ?_
  refine x_bmn.cons (xm_put) ?_
  refine x_bmn.cons (xm_aload) ?_
  refine x_bmn.cons (xm_get) ?_
  refine x_bmn.cons (xm_push) ?_
  refine x_bmn.cons (xm_icmp) ?_
  refine x_bmn.cons (xm_aload) ?_
  refine x_bmn.cons (xm_push) ?_
  refine x_bmn.cons (xm_put) ?_
  refine x_bmn.cons (xm_push) ?_
  refine x_bmn.cons (xm_zret) ?_
  exact x_bmn.nil
theorem is_M_enter : x_Is y_M_enter m_M_enter := x_is_code q2_102
def Y_M_enter : XMeth := x_do 2 b_M_enter
theorem sn_M_enter : x_Snd y_M_enter m_M_enter Y_M_enter := x_snd_of (by decide) rfl rfl is_M_enter k_M_enter
theorem ym_M_enter : x_Ymn Y_M_enter := x_ymn_of mn_M_enter
/- CashLink.pin(II)Z -/
abbrev c_C_pin : ByteArray := prog_1_method_3_code
def y_C_pin : MethodName := ⟨"CashLink", "pin", "(II)Z"⟩
theorem d_C_pin_0 : decode c_C_pin 0 = .ok (.aload_n 0, 1) := by decide +kernel
theorem d_C_pin_1 : decode c_C_pin 1 = .ok (.iload_n 1, 1) := by decide +kernel
theorem d_C_pin_2 : decode c_C_pin 2 = .ok (.invokevirtual 38, 3) := by decide +kernel
theorem d_C_pin_5 : decode c_C_pin 5 = .ok (.iload_n 2, 1) := by decide +kernel
theorem d_C_pin_6 : decode c_C_pin 6 = .ok (.invokevirtual 54, 3) := by decide +kernel
theorem d_C_pin_9 : decode c_C_pin 9 = .ok (.ireturn, 1) := by decide +kernel
def m_C_pin : XM := ("CashLink", c_C_pin, 3, (some .boolean), "pin", [], 8, 131)
def b_C_pin : XB := [(0, X_aload 0 1),
  (1, X_iload 1 1),
  (2, X_invV 0 Y_C_machineAt 1 []),
  (5, X_iload 2 1),
  (6, X_invV 3 Y_M_enter 1 []),
  (9, X_zret)]
set_option maxRecDepth 100000 in
theorem k_C_pin : x_bok m_C_pin b_C_pin := by
  unfold b_C_pin
  refine x_bok.cons (xs_aload_n d_C_pin_0 rfl) ?_
  refine x_bok.cons (xs_iload_n d_C_pin_1 rfl) ?_
  refine x_bok.cons (xs_invV d_C_pin_2 xc0 sn_C_machineAt is_C_machineAt ⟨q1_223, q1_225, (x_sel (x_p1 (List.mem_of_getElem? (i := 0) rfl))), q1_1⟩ (by decide) (by decide) rfl) ?_
  refine x_bok.cons (xs_iload_n d_C_pin_5 rfl) ?_
  refine x_bok.cons (xs_invV d_C_pin_6 xc3 sn_M_enter is_M_enter ⟨q2_99, q2_100, q2_101, q1_8⟩ (by decide) (by decide) rfl) ?_
  refine x_bok.cons (xs_zret d_C_pin_9 rfl) ?_
  exact x_bok.nil
set_option maxRecDepth 100000 in
theorem mn_C_pin : x_bmn b_C_pin := by
  unfold b_C_pin
  refine x_bmn.cons (xm_aload) ?_
  refine x_bmn.cons (xm_iload) ?_
  refine x_bmn.cons (xm_invV ym_C_machineAt) ?_
  refine x_bmn.cons (xm_iload) ?_
  refine x_bmn.cons (xm_invV ym_M_enter) ?_
  refine x_bmn.cons (xm_zret) ?_
  exact x_bmn.nil
theorem is_C_pin : x_Is y_C_pin m_C_pin := x_is_code q2_98
def Y_C_pin : XMeth := x_do 3 b_C_pin
theorem sn_C_pin : x_Snd y_C_pin m_C_pin Y_C_pin := x_snd_of (by decide) rfl rfl is_C_pin k_C_pin
theorem ym_C_pin : x_Ymn Y_C_pin := x_ymn_of mn_C_pin
/- CashLinkLaw.pin(LCashLink;II[J)I -/
abbrev c_L_pin : ByteArray := method_4_code
def y_L_pin : MethodName := ⟨"CashLinkLaw", "pin", "(LCashLink;II[J)I"⟩
theorem d_L_pin_0 : decode c_L_pin 0 = .ok (.aload_n 3, 1) := by decide +kernel
theorem d_L_pin_1 : decode c_L_pin 1 = .ok (.iconst 0, 1) := by decide +kernel
theorem d_L_pin_2 : decode c_L_pin 2 = .ok (.aload_n 0, 1) := by decide +kernel
theorem d_L_pin_3 : decode c_L_pin 3 = .ok (.iload_n 1, 1) := by decide +kernel
theorem d_L_pin_4 : decode c_L_pin 4 = .ok (.iload_n 2, 1) := by decide +kernel
theorem d_L_pin_5 : decode c_L_pin 5 = .ok (.invokevirtual 17, 3) := by decide +kernel
theorem d_L_pin_8 : decode c_L_pin 8 = .ok (.ifCond .eq 7, 3) := by decide +kernel
theorem d_L_pin_11 : decode c_L_pin 11 = .ok (.lconst 1, 1) := by decide +kernel
theorem d_L_pin_12 : decode c_L_pin 12 = .ok (.goto 4, 3) := by decide +kernel
theorem d_L_pin_15 : decode c_L_pin 15 = .ok (.lconst 0, 1) := by decide +kernel
theorem d_L_pin_16 : decode c_L_pin 16 = .ok (.lastore, 1) := by decide +kernel
theorem d_L_pin_17 : decode c_L_pin 17 = .ok (.goto 11, 3) := by decide +kernel
theorem d_L_pin_20 : decode c_L_pin 20 = .ok (.astore 4, 2) := by decide +kernel
theorem d_L_pin_22 : decode c_L_pin 22 = .ok (.iconst 1, 1) := by decide +kernel
theorem d_L_pin_23 : decode c_L_pin 23 = .ok (.ireturn, 1) := by decide +kernel
theorem d_L_pin_24 : decode c_L_pin 24 = .ok (.astore 4, 2) := by decide +kernel
theorem d_L_pin_26 : decode c_L_pin 26 = .ok (.iconst 2, 1) := by decide +kernel
theorem d_L_pin_27 : decode c_L_pin 27 = .ok (.ireturn, 1) := by decide +kernel
theorem d_L_pin_28 : decode c_L_pin 28 = .ok (.iconst 0, 1) := by decide +kernel
theorem d_L_pin_29 : decode c_L_pin 29 = .ok (.ireturn, 1) := by decide +kernel
def m_L_pin : XM := ("CashLinkLaw", c_L_pin, 5, (some .int), "pin", [(0, 17, 20, 13), (0, 17, 24, 15)], 9, 153)
theorem h_L_pin_5 : x_hok m_L_pin 5 [(11, 20), (12, 24)] := by
  intro ci h hc
  by_cases e0 : ci = 11
  · subst e0
    have hh : h = 20 := (Option.some.inj (hc.symm.trans (by rfl : x_catch [(11, 20), (12, 24)] 11 = some 20)))
    subst hh
    refine ⟨"java/lang/IllegalArgumentException", xT11, 0, [], ⟨0, 17, 20, 13⟩, [⟨0, 17, 24, 15⟩], rfl, rfl, rfl, rfl, by decide, q1_217, ?_⟩
    intro z hz
    cases hz
  by_cases e1 : ci = 12
  · subst e1
    have hh : h = 24 := (Option.some.inj (hc.symm.trans (by rfl : x_catch [(11, 20), (12, 24)] 12 = some 24)))
    subst hh
    refine ⟨"java/lang/IllegalStateException", xT12, 0, [⟨0, 17, 20, 13⟩], ⟨0, 17, 24, 15⟩, [], rfl, rfl, rfl, rfl, by decide, q1_218, ?_⟩
    intro z hz
    simp only [List.mem_cons, List.not_mem_nil, or_false] at hz
    rcases hz with rfl
    · exact Or.inr ⟨by decide, "java/lang/IllegalArgumentException", q1_217, x_inN 0 rfl⟩
  exfalso
  simp only [x_catch] at hc
  rw [if_neg (fun q => e0 q.symm)] at hc
  rw [if_neg (fun q => e1 q.symm)] at hc
  cases hc
def b_L_pin : XB := [(0, X_aload 3 1),
  (1, X_push (xv_i 0) 1),
  (2, X_aload 0 1),
  (3, X_iload 1 1),
  (4, X_iload 2 1),
  (5, X_invV 0 Y_C_pin 2 [(11, 20), (12, 24)]),
  (8, X_if (fun x => x = 0) 15),
  (11, X_push (xv_l 1) 1),
  (12, X_goto 16),
  (15, X_push (xv_l 0) 1),
  (16, X_last 1),
  (17, X_goto 28),
  (20, X_astore 4 2),
  (22, X_push (xv_i 1) 1),
  (23, X_iret),
  (24, X_astore 4 2),
  (26, X_push (xv_i 2) 1),
  (27, X_iret),
  (28, X_push (xv_i 0) 1),
  (29, X_iret)]
set_option maxRecDepth 100000 in
theorem k_L_pin : x_bok m_L_pin b_L_pin := by
  unfold b_L_pin
  refine x_bok.cons (xs_aload_n d_L_pin_0 rfl) ?_
  refine x_bok.cons (xs_iconst d_L_pin_1 (by decide)) ?_
  refine x_bok.cons (xs_aload_n d_L_pin_2 rfl) ?_
  refine x_bok.cons (xs_iload_n d_L_pin_3 rfl) ?_
  refine x_bok.cons (xs_iload_n d_L_pin_4 rfl) ?_
  refine x_bok.cons (xs_invV d_L_pin_5 xc0 sn_C_pin is_C_pin ⟨q2_95, q2_96, q2_97, q1_1⟩ (by decide) (by decide) h_L_pin_5) ?_
  refine x_bok.cons (xs_if_eq d_L_pin_8 (by decide)) ?_
  refine x_bok.cons (xs_lconst d_L_pin_11 (by decide)) ?_
  refine x_bok.cons (xs_goto d_L_pin_12 (by decide)) ?_
  refine x_bok.cons (xs_lconst d_L_pin_15 (by decide)) ?_
  refine x_bok.cons (xs_last d_L_pin_16 rfl) ?_
  refine x_bok.cons (xs_goto d_L_pin_17 (by decide)) ?_
  refine x_bok.cons (xs_astore d_L_pin_20 (by decide)) ?_
  refine x_bok.cons (xs_iconst d_L_pin_22 (by decide)) ?_
  refine x_bok.cons (xs_iret d_L_pin_23 rfl) ?_
  refine x_bok.cons (xs_astore d_L_pin_24 (by decide)) ?_
  refine x_bok.cons (xs_iconst d_L_pin_26 (by decide)) ?_
  refine x_bok.cons (xs_iret d_L_pin_27 rfl) ?_
  refine x_bok.cons (xs_iconst d_L_pin_28 (by decide)) ?_
  refine x_bok.cons (xs_iret d_L_pin_29 rfl) ?_
  exact x_bok.nil
set_option maxRecDepth 100000 in
theorem mn_L_pin : x_bmn b_L_pin := by
  unfold b_L_pin
  refine x_bmn.cons (xm_aload) ?_
  refine x_bmn.cons (xm_push) ?_
  refine x_bmn.cons (xm_aload) ?_
  refine x_bmn.cons (xm_iload) ?_
  refine x_bmn.cons (xm_iload) ?_
  refine x_bmn.cons (xm_invV ym_C_pin) ?_
  refine x_bmn.cons (xm_if) ?_
  refine x_bmn.cons (xm_push) ?_
  refine x_bmn.cons (xm_goto) ?_
  refine x_bmn.cons (xm_push) ?_
  refine x_bmn.cons (xm_last) ?_
  refine x_bmn.cons (xm_goto) ?_
  refine x_bmn.cons (xm_astore) ?_
  refine x_bmn.cons (xm_push) ?_
  refine x_bmn.cons (xm_iret) ?_
  refine x_bmn.cons (xm_astore) ?_
  refine x_bmn.cons (xm_push) ?_
  refine x_bmn.cons (xm_iret) ?_
  refine x_bmn.cons (xm_push) ?_
  refine x_bmn.cons (xm_iret) ?_
  exact x_bmn.nil
theorem is_L_pin : x_Is y_L_pin m_L_pin := x_is_with q2_94
def Y_L_pin : XMeth := x_do 5 b_L_pin
theorem sn_L_pin : x_Snd y_L_pin m_L_pin Y_L_pin := x_snd_of (by decide) rfl rfl is_L_pin k_L_pin
theorem ym_L_pin : x_Ymn Y_L_pin := x_ymn_of mn_L_pin
/- CashLink$Dispenser.mixOf(I)I -/
abbrev c_D_mixOf : ByteArray := prog_3_method_3_code
def y_D_mixOf : MethodName := ⟨"CashLink$Dispenser", "mixOf", "(I)I"⟩
theorem d_D_mixOf_0 : decode c_D_mixOf 0 = .ok (.iconst (-1), 1) := by decide +kernel
theorem d_D_mixOf_1 : decode c_D_mixOf 1 = .ok (.istore_n 2, 1) := by decide +kernel
theorem d_D_mixOf_2 : decode c_D_mixOf 2 = .ok (.bipush 41, 2) := by decide +kernel
theorem d_D_mixOf_4 : decode c_D_mixOf 4 = .ok (.istore_n 3, 1) := by decide +kernel
theorem d_D_mixOf_5 : decode c_D_mixOf 5 = .ok (.aload_n 0, 1) := by decide +kernel
theorem d_D_mixOf_6 : decode c_D_mixOf 6 = .ok (.getfield 9, 3) := by decide +kernel
theorem d_D_mixOf_9 : decode c_D_mixOf 9 = .ok (.iconst 3, 1) := by decide +kernel
theorem d_D_mixOf_10 : decode c_D_mixOf 10 = .ok (.iaload, 1) := by decide +kernel
theorem d_D_mixOf_11 : decode c_D_mixOf 11 = .ok (.iload_n 1, 1) := by decide +kernel
theorem d_D_mixOf_12 : decode c_D_mixOf 12 = .ok (.bipush 50, 2) := by decide +kernel
theorem d_D_mixOf_14 : decode c_D_mixOf 14 = .ok (.idiv, 1) := by decide +kernel
theorem d_D_mixOf_15 : decode c_D_mixOf 15 = .ok (.invokestatic 23, 3) := by decide +kernel
theorem d_D_mixOf_18 : decode c_D_mixOf 18 = .ok (.istore 4, 2) := by decide +kernel
theorem d_D_mixOf_20 : decode c_D_mixOf 20 = .ok (.iload 4, 2) := by decide +kernel
theorem d_D_mixOf_22 : decode c_D_mixOf 22 = .ok (.ifCond .lt 137, 3) := by decide +kernel
theorem d_D_mixOf_25 : decode c_D_mixOf 25 = .ok (.iload_n 1, 1) := by decide +kernel
theorem d_D_mixOf_26 : decode c_D_mixOf 26 = .ok (.bipush 50, 2) := by decide +kernel
theorem d_D_mixOf_28 : decode c_D_mixOf 28 = .ok (.iload 4, 2) := by decide +kernel
theorem d_D_mixOf_30 : decode c_D_mixOf 30 = .ok (.imul, 1) := by decide +kernel
theorem d_D_mixOf_31 : decode c_D_mixOf 31 = .ok (.isub, 1) := by decide +kernel
theorem d_D_mixOf_32 : decode c_D_mixOf 32 = .ok (.istore 5, 2) := by decide +kernel
theorem d_D_mixOf_34 : decode c_D_mixOf 34 = .ok (.aload_n 0, 1) := by decide +kernel
theorem d_D_mixOf_35 : decode c_D_mixOf 35 = .ok (.getfield 9, 3) := by decide +kernel
theorem d_D_mixOf_38 : decode c_D_mixOf 38 = .ok (.iconst 2, 1) := by decide +kernel
theorem d_D_mixOf_39 : decode c_D_mixOf 39 = .ok (.iaload, 1) := by decide +kernel
theorem d_D_mixOf_40 : decode c_D_mixOf 40 = .ok (.iload 5, 2) := by decide +kernel
theorem d_D_mixOf_42 : decode c_D_mixOf 42 = .ok (.bipush 20, 2) := by decide +kernel
theorem d_D_mixOf_44 : decode c_D_mixOf 44 = .ok (.idiv, 1) := by decide +kernel
theorem d_D_mixOf_45 : decode c_D_mixOf 45 = .ok (.invokestatic 23, 3) := by decide +kernel
theorem d_D_mixOf_48 : decode c_D_mixOf 48 = .ok (.istore 6, 2) := by decide +kernel
theorem d_D_mixOf_50 : decode c_D_mixOf 50 = .ok (.iload 5, 2) := by decide +kernel
theorem d_D_mixOf_52 : decode c_D_mixOf 52 = .ok (.bipush 20, 2) := by decide +kernel
theorem d_D_mixOf_54 : decode c_D_mixOf 54 = .ok (.iload 6, 2) := by decide +kernel
theorem d_D_mixOf_56 : decode c_D_mixOf 56 = .ok (.imul, 1) := by decide +kernel
theorem d_D_mixOf_57 : decode c_D_mixOf 57 = .ok (.isub, 1) := by decide +kernel
theorem d_D_mixOf_58 : decode c_D_mixOf 58 = .ok (.istore 5, 2) := by decide +kernel
theorem d_D_mixOf_60 : decode c_D_mixOf 60 = .ok (.aload_n 0, 1) := by decide +kernel
theorem d_D_mixOf_61 : decode c_D_mixOf 61 = .ok (.getfield 9, 3) := by decide +kernel
theorem d_D_mixOf_64 : decode c_D_mixOf 64 = .ok (.iconst 1, 1) := by decide +kernel
theorem d_D_mixOf_65 : decode c_D_mixOf 65 = .ok (.iaload, 1) := by decide +kernel
theorem d_D_mixOf_66 : decode c_D_mixOf 66 = .ok (.iload 5, 2) := by decide +kernel
theorem d_D_mixOf_68 : decode c_D_mixOf 68 = .ok (.bipush 10, 2) := by decide +kernel
theorem d_D_mixOf_70 : decode c_D_mixOf 70 = .ok (.idiv, 1) := by decide +kernel
theorem d_D_mixOf_71 : decode c_D_mixOf 71 = .ok (.invokestatic 23, 3) := by decide +kernel
theorem d_D_mixOf_74 : decode c_D_mixOf 74 = .ok (.istore 7, 2) := by decide +kernel
theorem d_D_mixOf_76 : decode c_D_mixOf 76 = .ok (.iload 5, 2) := by decide +kernel
theorem d_D_mixOf_78 : decode c_D_mixOf 78 = .ok (.bipush 10, 2) := by decide +kernel
theorem d_D_mixOf_80 : decode c_D_mixOf 80 = .ok (.iload 7, 2) := by decide +kernel
theorem d_D_mixOf_82 : decode c_D_mixOf 82 = .ok (.imul, 1) := by decide +kernel
theorem d_D_mixOf_83 : decode c_D_mixOf 83 = .ok (.isub, 1) := by decide +kernel
theorem d_D_mixOf_84 : decode c_D_mixOf 84 = .ok (.istore 5, 2) := by decide +kernel
theorem d_D_mixOf_86 : decode c_D_mixOf 86 = .ok (.iload 5, 2) := by decide +kernel
theorem d_D_mixOf_88 : decode c_D_mixOf 88 = .ok (.iconst 5, 1) := by decide +kernel
theorem d_D_mixOf_89 : decode c_D_mixOf 89 = .ok (.idiv, 1) := by decide +kernel
theorem d_D_mixOf_90 : decode c_D_mixOf 90 = .ok (.istore 8, 2) := by decide +kernel
theorem d_D_mixOf_92 : decode c_D_mixOf 92 = .ok (.iload 4, 2) := by decide +kernel
theorem d_D_mixOf_94 : decode c_D_mixOf 94 = .ok (.iload 6, 2) := by decide +kernel
theorem d_D_mixOf_96 : decode c_D_mixOf 96 = .ok (.iadd, 1) := by decide +kernel
theorem d_D_mixOf_97 : decode c_D_mixOf 97 = .ok (.iload 7, 2) := by decide +kernel
theorem d_D_mixOf_99 : decode c_D_mixOf 99 = .ok (.iadd, 1) := by decide +kernel
theorem d_D_mixOf_100 : decode c_D_mixOf 100 = .ok (.iload 8, 2) := by decide +kernel
theorem d_D_mixOf_102 : decode c_D_mixOf 102 = .ok (.iadd, 1) := by decide +kernel
theorem d_D_mixOf_103 : decode c_D_mixOf 103 = .ok (.istore 9, 2) := by decide +kernel
theorem d_D_mixOf_105 : decode c_D_mixOf 105 = .ok (.iload 5, 2) := by decide +kernel
theorem d_D_mixOf_107 : decode c_D_mixOf 107 = .ok (.iconst 5, 1) := by decide +kernel
theorem d_D_mixOf_108 : decode c_D_mixOf 108 = .ok (.irem, 1) := by decide +kernel
theorem d_D_mixOf_109 : decode c_D_mixOf 109 = .ok (.ifCond .ne 44, 3) := by decide +kernel
theorem d_D_mixOf_112 : decode c_D_mixOf 112 = .ok (.iload 8, 2) := by decide +kernel
theorem d_D_mixOf_114 : decode c_D_mixOf 114 = .ok (.aload_n 0, 1) := by decide +kernel
theorem d_D_mixOf_115 : decode c_D_mixOf 115 = .ok (.getfield 9, 3) := by decide +kernel
theorem d_D_mixOf_118 : decode c_D_mixOf 118 = .ok (.iconst 0, 1) := by decide +kernel
theorem d_D_mixOf_119 : decode c_D_mixOf 119 = .ok (.iaload, 1) := by decide +kernel
theorem d_D_mixOf_120 : decode c_D_mixOf 120 = .ok (.if_icmp .gt 33, 3) := by decide +kernel
theorem d_D_mixOf_123 : decode c_D_mixOf 123 = .ok (.iload 9, 2) := by decide +kernel
theorem d_D_mixOf_125 : decode c_D_mixOf 125 = .ok (.iload_n 3, 1) := by decide +kernel
theorem d_D_mixOf_126 : decode c_D_mixOf 126 = .ok (.if_icmp .ge 27, 3) := by decide +kernel
theorem d_D_mixOf_129 : decode c_D_mixOf 129 = .ok (.iload 9, 2) := by decide +kernel
theorem d_D_mixOf_131 : decode c_D_mixOf 131 = .ok (.istore_n 3, 1) := by decide +kernel
theorem d_D_mixOf_132 : decode c_D_mixOf 132 = .ok (.iload 4, 2) := by decide +kernel
theorem d_D_mixOf_134 : decode c_D_mixOf 134 = .ok (.bipush 24, 2) := by decide +kernel
theorem d_D_mixOf_136 : decode c_D_mixOf 136 = .ok (.ishl, 1) := by decide +kernel
theorem d_D_mixOf_137 : decode c_D_mixOf 137 = .ok (.iload 6, 2) := by decide +kernel
theorem d_D_mixOf_139 : decode c_D_mixOf 139 = .ok (.bipush 16, 2) := by decide +kernel
theorem d_D_mixOf_141 : decode c_D_mixOf 141 = .ok (.ishl, 1) := by decide +kernel
theorem d_D_mixOf_142 : decode c_D_mixOf 142 = .ok (.ior, 1) := by decide +kernel
theorem d_D_mixOf_143 : decode c_D_mixOf 143 = .ok (.iload 7, 2) := by decide +kernel
theorem d_D_mixOf_145 : decode c_D_mixOf 145 = .ok (.bipush 8, 2) := by decide +kernel
theorem d_D_mixOf_147 : decode c_D_mixOf 147 = .ok (.ishl, 1) := by decide +kernel
theorem d_D_mixOf_148 : decode c_D_mixOf 148 = .ok (.ior, 1) := by decide +kernel
theorem d_D_mixOf_149 : decode c_D_mixOf 149 = .ok (.iload 8, 2) := by decide +kernel
theorem d_D_mixOf_151 : decode c_D_mixOf 151 = .ok (.ior, 1) := by decide +kernel
theorem d_D_mixOf_152 : decode c_D_mixOf 152 = .ok (.istore_n 2, 1) := by decide +kernel
theorem d_D_mixOf_153 : decode c_D_mixOf 153 = .ok (.iinc 4 (-1), 3) := by decide +kernel
theorem d_D_mixOf_156 : decode c_D_mixOf 156 = .ok (.goto (-136), 3) := by decide +kernel
theorem d_D_mixOf_159 : decode c_D_mixOf 159 = .ok (.iload_n 2, 1) := by decide +kernel
theorem d_D_mixOf_160 : decode c_D_mixOf 160 = .ok (.ireturn, 1) := by decide +kernel
def m_D_mixOf : XM := ("CashLink$Dispenser", c_D_mixOf, 10, (some .int), "mixOf", [], 1, 21)
def b_D_mixOf : XB := [(0, X_push (xv_i (-1)) 1),
  (1, X_istore 2 1),
  (2, X_push (xv_i 41) 2),
  (4, X_istore 3 1),
  (5, X_aload 0 1),
  (6, X_get 5 0),
  (9, X_push (xv_i 3) 1),
  (10, X_ald 0),
  (11, X_iload 1 1),
  (12, X_push (xv_i 50) 2),
  (14, X_div),
  (15, X_mm (fun x y => if y < x then y else x)),
  (18, X_istore 4 2),
  (20, X_iload 4 2),
  (22, X_if (fun x => x < 0) 159),
  (25, X_iload 1 1),
  (26, X_push (xv_i 50) 2),
  (28, X_iload 4 2),
  (30, X_bin (fun x y => x * y)),
  (31, X_bin (fun x y => x - y)),
  (32, X_istore 5 2),
  (34, X_aload 0 1),
  (35, X_get 5 0),
  (38, X_push (xv_i 2) 1),
  (39, X_ald 0),
  (40, X_iload 5 2),
  (42, X_push (xv_i 20) 2),
  (44, X_div),
  (45, X_mm (fun x y => if y < x then y else x)),
  (48, X_istore 6 2),
  (50, X_iload 5 2),
  (52, X_push (xv_i 20) 2),
  (54, X_iload 6 2),
  (56, X_bin (fun x y => x * y)),
  (57, X_bin (fun x y => x - y)),
  (58, X_istore 5 2),
  (60, X_aload 0 1),
  (61, X_get 5 0),
  (64, X_push (xv_i 1) 1),
  (65, X_ald 0),
  (66, X_iload 5 2),
  (68, X_push (xv_i 10) 2),
  (70, X_div),
  (71, X_mm (fun x y => if y < x then y else x)),
  (74, X_istore 7 2),
  (76, X_iload 5 2),
  (78, X_push (xv_i 10) 2),
  (80, X_iload 7 2),
  (82, X_bin (fun x y => x * y)),
  (83, X_bin (fun x y => x - y)),
  (84, X_istore 5 2),
  (86, X_iload 5 2),
  (88, X_push (xv_i 5) 1),
  (89, X_div),
  (90, X_istore 8 2),
  (92, X_iload 4 2),
  (94, X_iload 6 2),
  (96, X_bin (fun x y => x + y)),
  (97, X_iload 7 2),
  (99, X_bin (fun x y => x + y)),
  (100, X_iload 8 2),
  (102, X_bin (fun x y => x + y)),
  (103, X_istore 9 2),
  (105, X_iload 5 2),
  (107, X_push (xv_i 5) 1),
  (108, X_rem),
  (109, X_if (fun x => ¬ x = 0) 153),
  (112, X_iload 8 2),
  (114, X_aload 0 1),
  (115, X_get 5 0),
  (118, X_push (xv_i 0) 1),
  (119, X_ald 0),
  (120, X_icmp (fun x y => y < x) 153),
  (123, X_iload 9 2),
  (125, X_iload 3 1),
  (126, X_icmp (fun x y => y ≤ x) 153),
  (129, X_iload 9 2),
  (131, X_istore 3 1),
  (132, X_iload 4 2),
  (134, X_push (xv_i 24) 2),
  (136, X_bin (fun x y => x <<< (y &&& 31))),
  (137, X_iload 6 2),
  (139, X_push (xv_i 16) 2),
  (141, X_bin (fun x y => x <<< (y &&& 31))),
  (142, X_bin (fun x y => x ||| y)),
  (143, X_iload 7 2),
  (145, X_push (xv_i 8) 2),
  (147, X_bin (fun x y => x <<< (y &&& 31))),
  (148, X_bin (fun x y => x ||| y)),
  (149, X_iload 8 2),
  (151, X_bin (fun x y => x ||| y)),
  (152, X_istore 2 1),
  (153, X_iinc 4 (-1)),
  (156, X_goto 20),
  (159, X_iload 2 1),
  (160, X_iret)]
set_option maxRecDepth 100000 in
theorem k_D_mixOf : x_bok m_D_mixOf b_D_mixOf := by
  unfold b_D_mixOf
  refine x_bok.cons (xs_iconst d_D_mixOf_0 (by decide)) ?_
  refine x_bok.cons (xs_istore_n d_D_mixOf_1 rfl (by decide)) ?_
  refine x_bok.cons (xs_bipush d_D_mixOf_2 (by decide)) ?_
  refine x_bok.cons (xs_istore_n d_D_mixOf_4 rfl (by decide)) ?_
  refine x_bok.cons (xs_aload_n d_D_mixOf_5 rfl) ?_
  refine x_bok.cons (xs_get d_D_mixOf_6 xc5 xw5 (by decide) q1_144 (Or.inl rfl)) ?_
  refine x_bok.cons (xs_iconst d_D_mixOf_9 (by decide)) ?_
  refine x_bok.cons (xs_iald d_D_mixOf_10 rfl) ?_
  refine x_bok.cons (xs_iload_n d_D_mixOf_11 rfl) ?_
  refine x_bok.cons (xs_bipush d_D_mixOf_12 (by decide)) ?_
  refine x_bok.cons (xs_idiv d_D_mixOf_14) ?_
  refine x_bok.cons (xs_mmin d_D_mixOf_15 ⟨q2_122, q2_123, q1_18, q2_124⟩ (by decide)) ?_
  refine x_bok.cons (xs_istore d_D_mixOf_18 (by decide)) ?_
  refine x_bok.cons (xs_iload d_D_mixOf_20) ?_
  refine x_bok.cons (xs_if_lt d_D_mixOf_22 (by decide)) ?_
  refine x_bok.cons (xs_iload_n d_D_mixOf_25 rfl) ?_
  refine x_bok.cons (xs_bipush d_D_mixOf_26 (by decide)) ?_
  refine x_bok.cons (xs_iload d_D_mixOf_28) ?_
  refine x_bok.cons (xs_imul d_D_mixOf_30) ?_
  refine x_bok.cons (xs_isub d_D_mixOf_31) ?_
  refine x_bok.cons (xs_istore d_D_mixOf_32 (by decide)) ?_
  refine x_bok.cons (xs_aload_n d_D_mixOf_34 rfl) ?_
  refine x_bok.cons (xs_get d_D_mixOf_35 xc5 xw5 (by decide) q1_144 (Or.inl rfl)) ?_
  refine x_bok.cons (xs_iconst d_D_mixOf_38 (by decide)) ?_
  refine x_bok.cons (xs_iald d_D_mixOf_39 rfl) ?_
  refine x_bok.cons (xs_iload d_D_mixOf_40) ?_
  refine x_bok.cons (xs_bipush d_D_mixOf_42 (by decide)) ?_
  refine x_bok.cons (xs_idiv d_D_mixOf_44) ?_
  refine x_bok.cons (xs_mmin d_D_mixOf_45 ⟨q2_122, q2_123, q1_18, q2_124⟩ (by decide)) ?_
  refine x_bok.cons (xs_istore d_D_mixOf_48 (by decide)) ?_
  refine x_bok.cons (xs_iload d_D_mixOf_50) ?_
  refine x_bok.cons (xs_bipush d_D_mixOf_52 (by decide)) ?_
  refine x_bok.cons (xs_iload d_D_mixOf_54) ?_
  refine x_bok.cons (xs_imul d_D_mixOf_56) ?_
  refine x_bok.cons (xs_isub d_D_mixOf_57) ?_
  refine x_bok.cons (xs_istore d_D_mixOf_58 (by decide)) ?_
  refine x_bok.cons (xs_aload_n d_D_mixOf_60 rfl) ?_
  refine x_bok.cons (xs_get d_D_mixOf_61 xc5 xw5 (by decide) q1_144 (Or.inl rfl)) ?_
  refine x_bok.cons (xs_iconst d_D_mixOf_64 (by decide)) ?_
  refine x_bok.cons (xs_iald d_D_mixOf_65 rfl) ?_
  refine x_bok.cons (xs_iload d_D_mixOf_66) ?_
  refine x_bok.cons (xs_bipush d_D_mixOf_68 (by decide)) ?_
  refine x_bok.cons (xs_idiv d_D_mixOf_70) ?_
  refine x_bok.cons (xs_mmin d_D_mixOf_71 ⟨q2_122, q2_123, q1_18, q2_124⟩ (by decide)) ?_
  refine x_bok.cons (xs_istore d_D_mixOf_74 (by decide)) ?_
  refine x_bok.cons (xs_iload d_D_mixOf_76) ?_
  refine x_bok.cons (xs_bipush d_D_mixOf_78 (by decide)) ?_
  refine x_bok.cons (xs_iload d_D_mixOf_80) ?_
  refine x_bok.cons (xs_imul d_D_mixOf_82) ?_
  refine x_bok.cons (xs_isub d_D_mixOf_83) ?_
  refine x_bok.cons (xs_istore d_D_mixOf_84 (by decide)) ?_
  refine x_bok.cons (xs_iload d_D_mixOf_86) ?_
  refine x_bok.cons (xs_iconst d_D_mixOf_88 (by decide)) ?_
  refine x_bok.cons (xs_idiv d_D_mixOf_89) ?_
  refine x_bok.cons (xs_istore d_D_mixOf_90 (by decide)) ?_
  refine x_bok.cons (xs_iload d_D_mixOf_92) ?_
  refine x_bok.cons (xs_iload d_D_mixOf_94) ?_
  refine x_bok.cons (xs_iadd d_D_mixOf_96) ?_
  refine x_bok.cons (xs_iload d_D_mixOf_97) ?_
  refine x_bok.cons (xs_iadd d_D_mixOf_99) ?_
  refine x_bok.cons (xs_iload d_D_mixOf_100) ?_
  refine x_bok.cons (xs_iadd d_D_mixOf_102) ?_
  refine x_bok.cons (xs_istore d_D_mixOf_103 (by decide)) ?_
  refine x_bok.cons (xs_iload d_D_mixOf_105) ?_
  refine x_bok.cons (xs_iconst d_D_mixOf_107 (by decide)) ?_
  refine x_bok.cons (xs_irem d_D_mixOf_108) ?_
  refine x_bok.cons (xs_if_ne d_D_mixOf_109 (by decide)) ?_
  refine x_bok.cons (xs_iload d_D_mixOf_112) ?_
  refine x_bok.cons (xs_aload_n d_D_mixOf_114 rfl) ?_
  refine x_bok.cons (xs_get d_D_mixOf_115 xc5 xw5 (by decide) q1_144 (Or.inl rfl)) ?_
  refine x_bok.cons (xs_iconst d_D_mixOf_118 (by decide)) ?_
  refine x_bok.cons (xs_iald d_D_mixOf_119 rfl) ?_
  refine x_bok.cons (xs_icmp_gt d_D_mixOf_120 (by decide)) ?_
  refine x_bok.cons (xs_iload d_D_mixOf_123) ?_
  refine x_bok.cons (xs_iload_n d_D_mixOf_125 rfl) ?_
  refine x_bok.cons (xs_icmp_ge d_D_mixOf_126 (by decide)) ?_
  refine x_bok.cons (xs_iload d_D_mixOf_129) ?_
  refine x_bok.cons (xs_istore_n d_D_mixOf_131 rfl (by decide)) ?_
  refine x_bok.cons (xs_iload d_D_mixOf_132) ?_
  refine x_bok.cons (xs_bipush d_D_mixOf_134 (by decide)) ?_
  refine x_bok.cons (xs_ishl d_D_mixOf_136) ?_
  refine x_bok.cons (xs_iload d_D_mixOf_137) ?_
  refine x_bok.cons (xs_bipush d_D_mixOf_139 (by decide)) ?_
  refine x_bok.cons (xs_ishl d_D_mixOf_141) ?_
  refine x_bok.cons (xs_ior d_D_mixOf_142) ?_
  refine x_bok.cons (xs_iload d_D_mixOf_143) ?_
  refine x_bok.cons (xs_bipush d_D_mixOf_145 (by decide)) ?_
  refine x_bok.cons (xs_ishl d_D_mixOf_147) ?_
  refine x_bok.cons (xs_ior d_D_mixOf_148) ?_
  refine x_bok.cons (xs_iload d_D_mixOf_149) ?_
  refine x_bok.cons (xs_ior d_D_mixOf_151) ?_
  refine x_bok.cons (xs_istore_n d_D_mixOf_152 rfl (by decide)) ?_
  refine x_bok.cons (xs_iinc d_D_mixOf_153 (by decide) (by decide)) ?_
  refine x_bok.cons (xs_goto d_D_mixOf_156 (by decide)) ?_
  refine x_bok.cons (xs_iload_n d_D_mixOf_159 rfl) ?_
  refine x_bok.cons (xs_iret d_D_mixOf_160 rfl) ?_
  exact x_bok.nil
set_option maxRecDepth 100000 in
theorem mn_D_mixOf : x_bmn b_D_mixOf := by
  unfold b_D_mixOf
  refine x_bmn.cons (xm_push) ?_
  refine x_bmn.cons (xm_istore) ?_
  refine x_bmn.cons (xm_push) ?_
  refine x_bmn.cons (xm_istore) ?_
  refine x_bmn.cons (xm_aload) ?_
  refine x_bmn.cons (xm_get) ?_
  refine x_bmn.cons (xm_push) ?_
  refine x_bmn.cons (xm_ald) ?_
  refine x_bmn.cons (xm_iload) ?_
  refine x_bmn.cons (xm_push) ?_
  refine x_bmn.cons (xm_div) ?_
  refine x_bmn.cons (xm_mm) ?_
  refine x_bmn.cons (xm_istore) ?_
  refine x_bmn.cons (xm_iload) ?_
  refine x_bmn.cons (xm_if) ?_
  refine x_bmn.cons (xm_iload) ?_
  refine x_bmn.cons (xm_push) ?_
  refine x_bmn.cons (xm_iload) ?_
  refine x_bmn.cons (xm_bin) ?_
  refine x_bmn.cons (xm_bin) ?_
  refine x_bmn.cons (xm_istore) ?_
  refine x_bmn.cons (xm_aload) ?_
  refine x_bmn.cons (xm_get) ?_
  refine x_bmn.cons (xm_push) ?_
  refine x_bmn.cons (xm_ald) ?_
  refine x_bmn.cons (xm_iload) ?_
  refine x_bmn.cons (xm_push) ?_
  refine x_bmn.cons (xm_div) ?_
  refine x_bmn.cons (xm_mm) ?_
  refine x_bmn.cons (xm_istore) ?_
  refine x_bmn.cons (xm_iload) ?_
  refine x_bmn.cons (xm_push) ?_
  refine x_bmn.cons (xm_iload) ?_
  refine x_bmn.cons (xm_bin) ?_
  refine x_bmn.cons (xm_bin) ?_
  refine x_bmn.cons (xm_istore) ?_
  refine x_bmn.cons (xm_aload) ?_
  refine x_bmn.cons (xm_get) ?_
  refine x_bmn.cons (xm_push) ?_
  refine x_bmn.cons (xm_ald) ?_
  refine x_bmn.cons (xm_iload) ?_
  refine x_bmn.cons (xm_push) ?_
  refine x_bmn.cons (xm_div) ?_
  refine x_bmn.cons (xm_mm) ?_
  refine x_bmn.cons (xm_istore) ?_
  refine x_bmn.cons (xm_iload) ?_
  refine x_bmn.cons (xm_push) ?_
  refine x_bmn.cons (xm_iload) ?_
  refine x_bmn.cons (xm_bin) ?_
  refine x_bmn.cons (xm_bin) ?_
  refine x_bmn.cons (xm_istore) ?_
  refine x_bmn.cons (xm_iload) ?_
  refine x_bmn.cons (xm_push) ?_
  refine x_bmn.cons (xm_div) ?_
  refine x_bmn.cons (xm_istore) ?_
  refine x_bmn.cons (xm_iload) ?_
  refine x_bmn.cons (xm_iload) ?_
  refine x_bmn.cons (xm_bin) ?_
  refine x_bmn.cons (xm_iload) ?_
  refine x_bmn.cons (xm_bin) ?_
  refine x_bmn.cons (xm_iload) ?_
  refine x_bmn.cons (xm_bin) ?_
  refine x_bmn.cons (xm_istore) ?_
  refine x_bmn.cons (xm_iload) ?_
  refine x_bmn.cons (xm_push) ?_
  refine x_bmn.cons (xm_rem) ?_
  refine x_bmn.cons (xm_if) ?_
  refine x_bmn.cons (xm_iload) ?_
  refine x_bmn.cons (xm_aload) ?_
  refine x_bmn.cons (xm_get) ?_
  refine x_bmn.cons (xm_push) ?_
  refine x_bmn.cons (xm_ald) ?_
  refine x_bmn.cons (xm_icmp) ?_
  refine x_bmn.cons (xm_iload) ?_
  refine x_bmn.cons (xm_iload) ?_
  refine x_bmn.cons (xm_icmp) ?_
  refine x_bmn.cons (xm_iload) ?_
  refine x_bmn.cons (xm_istore) ?_
  refine x_bmn.cons (xm_iload) ?_
  refine x_bmn.cons (xm_push) ?_
  refine x_bmn.cons (xm_bin) ?_
  refine x_bmn.cons (xm_iload) ?_
  refine x_bmn.cons (xm_push) ?_
  refine x_bmn.cons (xm_bin) ?_
  refine x_bmn.cons (xm_bin) ?_
  refine x_bmn.cons (xm_iload) ?_
  refine x_bmn.cons (xm_push) ?_
  refine x_bmn.cons (xm_bin) ?_
  refine x_bmn.cons (xm_bin) ?_
  refine x_bmn.cons (xm_iload) ?_
  refine x_bmn.cons (xm_bin) ?_
  refine x_bmn.cons (xm_istore) ?_
  refine x_bmn.cons (xm_iinc) ?_
  refine x_bmn.cons (xm_goto) ?_
  refine x_bmn.cons (xm_iload) ?_
  refine x_bmn.cons (xm_iret) ?_
  exact x_bmn.nil
theorem is_D_mixOf : x_Is y_D_mixOf m_D_mixOf := x_is_code q2_121
def Y_D_mixOf : XMeth := x_do 10 b_D_mixOf
theorem sn_D_mixOf : x_Snd y_D_mixOf m_D_mixOf Y_D_mixOf := x_snd_of (by decide) rfl rfl is_D_mixOf k_D_mixOf
theorem ym_D_mixOf : x_Ymn Y_D_mixOf := x_ymn_of mn_D_mixOf
/- java/util/ArrayList.size()I -/
abbrev c_A_size : ByteArray := prog_35_method_8_code
def y_A_size : MethodName := ⟨"java/util/ArrayList", "size", "()I"⟩
theorem d_A_size_0 : decode c_A_size 0 = .ok (.aload_n 0, 1) := by decide +kernel
theorem d_A_size_1 : decode c_A_size 1 = .ok (.getfield 48, 3) := by decide +kernel
theorem d_A_size_4 : decode c_A_size 4 = .ok (.ireturn, 1) := by decide +kernel
def m_A_size : XM := ("java/util/ArrayList", c_A_size, 1, (some .int), "size", [], 0, 0)
def b_A_size : XB := [(0, X_aload 0 1),
  (1, X_get 8 1),
  (4, X_iret)]
set_option maxRecDepth 100000 in
theorem k_A_size : x_bok m_A_size b_A_size := by
  unfold b_A_size
  refine x_bok.cons (xs_aload_n d_A_size_0 rfl) ?_
  refine x_bok.cons (xs_get d_A_size_1 xc8 xw8 (by decide) q1_67 (Or.inl rfl)) ?_
  refine x_bok.cons (xs_iret d_A_size_4 rfl) ?_
  exact x_bok.nil
set_option maxRecDepth 100000 in
theorem mn_A_size : x_bmn b_A_size := by
  unfold b_A_size
  refine x_bmn.cons (xm_aload) ?_
  refine x_bmn.cons (xm_get) ?_
  refine x_bmn.cons (xm_iret) ?_
  exact x_bmn.nil
theorem is_A_size : x_Is y_A_size m_A_size := x_is_code q2_128
def Y_A_size : XMeth := x_do 1 b_A_size
theorem sn_A_size : x_Snd y_A_size m_A_size Y_A_size := x_snd_of (by decide) rfl rfl is_A_size k_A_size
theorem ym_A_size : x_Ymn Y_A_size := x_ymn_of mn_A_size
/- CashLink$Journal.hasRoomFor(I)Z -/
abbrev c_J_hasRoomFor : ByteArray := prog_5_method_4_code
def y_J_hasRoomFor : MethodName := ⟨"CashLink$Journal", "hasRoomFor", "(I)Z"⟩
theorem d_J_hasRoomFor_0 : decode c_J_hasRoomFor 0 = .ok (.aload_n 0, 1) := by decide +kernel
theorem d_J_hasRoomFor_1 : decode c_J_hasRoomFor 1 = .ok (.getfield 10, 3) := by decide +kernel
theorem d_J_hasRoomFor_4 : decode c_J_hasRoomFor 4 = .ok (.invokevirtual 27, 3) := by decide +kernel
theorem d_J_hasRoomFor_7 : decode c_J_hasRoomFor 7 = .ok (.iload_n 1, 1) := by decide +kernel
theorem d_J_hasRoomFor_8 : decode c_J_hasRoomFor 8 = .ok (.iadd, 1) := by decide +kernel
theorem d_J_hasRoomFor_9 : decode c_J_hasRoomFor 9 = .ok (.aload_n 0, 1) := by decide +kernel
theorem d_J_hasRoomFor_10 : decode c_J_hasRoomFor 10 = .ok (.getfield 24, 3) := by decide +kernel
theorem d_J_hasRoomFor_13 : decode c_J_hasRoomFor 13 = .ok (.if_icmp .gt 7, 3) := by decide +kernel
theorem d_J_hasRoomFor_16 : decode c_J_hasRoomFor 16 = .ok (.iconst 1, 1) := by decide +kernel
theorem d_J_hasRoomFor_17 : decode c_J_hasRoomFor 17 = .ok (.goto 4, 3) := by decide +kernel
theorem d_J_hasRoomFor_20 : decode c_J_hasRoomFor 20 = .ok (.iconst 0, 1) := by decide +kernel
theorem d_J_hasRoomFor_21 : decode c_J_hasRoomFor 21 = .ok (.ireturn, 1) := by decide +kernel
def m_J_hasRoomFor : XM := ("CashLink$Journal", c_J_hasRoomFor, 2, (some .boolean), "hasRoomFor", [], 1, 20)
def b_J_hasRoomFor : XB := [(0, X_aload 0 1),
  (1, X_get 4 0),
  (4, X_invV 8 Y_A_size 0 []),
  (7, X_iload 1 1),
  (8, X_bin (fun x y => x + y)),
  (9, X_aload 0 1),
  (10, X_get 4 1),
  (13, X_icmp (fun x y => y < x) 20),
  (16, X_push (xv_i 1) 1),
  (17, X_goto 21),
  (20, X_push (xv_i 0) 1),
  (21, X_zret)]
set_option maxRecDepth 100000 in
theorem k_J_hasRoomFor : x_bok m_J_hasRoomFor b_J_hasRoomFor := by
  unfold b_J_hasRoomFor
  refine x_bok.cons (xs_aload_n d_J_hasRoomFor_0 rfl) ?_
  refine x_bok.cons (xs_get d_J_hasRoomFor_1 xc4 xw4 (by decide) q1_96 (Or.inl rfl)) ?_
  refine x_bok.cons (xs_invV d_J_hasRoomFor_4 xc8 sn_A_size is_A_size ⟨q2_133, q2_126, q2_127, q1_5⟩ (by decide) (by decide) rfl) ?_
  refine x_bok.cons (xs_iload_n d_J_hasRoomFor_7 rfl) ?_
  refine x_bok.cons (xs_iadd d_J_hasRoomFor_8) ?_
  refine x_bok.cons (xs_aload_n d_J_hasRoomFor_9 rfl) ?_
  refine x_bok.cons (xs_get d_J_hasRoomFor_10 xc4 xw4 (by decide) q1_97 (Or.inl rfl)) ?_
  refine x_bok.cons (xs_icmp_gt d_J_hasRoomFor_13 (by decide)) ?_
  refine x_bok.cons (xs_iconst d_J_hasRoomFor_16 (by decide)) ?_
  refine x_bok.cons (xs_goto d_J_hasRoomFor_17 (by decide)) ?_
  refine x_bok.cons (xs_iconst d_J_hasRoomFor_20 (by decide)) ?_
  refine x_bok.cons (xs_zret d_J_hasRoomFor_21 rfl) ?_
  exact x_bok.nil
set_option maxRecDepth 100000 in
theorem mn_J_hasRoomFor : x_bmn b_J_hasRoomFor := by
  unfold b_J_hasRoomFor
  refine x_bmn.cons (xm_aload) ?_
  refine x_bmn.cons (xm_get) ?_
  refine x_bmn.cons (xm_invV ym_A_size) ?_
  refine x_bmn.cons (xm_iload) ?_
  refine x_bmn.cons (xm_bin) ?_
  refine x_bmn.cons (xm_aload) ?_
  refine x_bmn.cons (xm_get) ?_
  refine x_bmn.cons (xm_icmp) ?_
  refine x_bmn.cons (xm_push) ?_
  refine x_bmn.cons (xm_goto) ?_
  refine x_bmn.cons (xm_push) ?_
  refine x_bmn.cons (xm_zret) ?_
  exact x_bmn.nil
theorem is_J_hasRoomFor : x_Is y_J_hasRoomFor m_J_hasRoomFor := x_is_code q2_132
def Y_J_hasRoomFor : XMeth := x_do 2 b_J_hasRoomFor
theorem sn_J_hasRoomFor : x_Snd y_J_hasRoomFor m_J_hasRoomFor Y_J_hasRoomFor := x_snd_of (by decide) rfl rfl is_J_hasRoomFor k_J_hasRoomFor
theorem ym_J_hasRoomFor : x_Ymn Y_J_hasRoomFor := x_ymn_of mn_J_hasRoomFor
/- java/lang/Record.<init>()V -/
abbrev c_ZRecord_init : ByteArray := prog_24_method_1_code
def y_ZRecord_init : MethodName := ⟨"java/lang/Record", "<init>", "()V"⟩
theorem d_ZRecord_init_0 : decode c_ZRecord_init 0 = .ok (.aload_n 0, 1) := by decide +kernel
theorem d_ZRecord_init_1 : decode c_ZRecord_init 1 = .ok (.invokespecial 1, 3) := by decide +kernel
theorem d_ZRecord_init_4 : decode c_ZRecord_init 4 = .ok (.return_, 1) := by decide +kernel
def m_ZRecord_init : XM := ("java/lang/Record", c_ZRecord_init, 1, none, "<init>", [], 1, 20)
def b_ZRecord_init : XB := [(0, X_aload 0 1),
  (1, X_obj),
  (4, X_vret)]
set_option maxRecDepth 100000 in
theorem k_ZRecord_init : x_bok m_ZRecord_init b_ZRecord_init := by
  unfold b_ZRecord_init
  refine x_bok.cons (xs_aload_n d_ZRecord_init_0 rfl) ?_
  refine x_bok.cons (xs_obj d_ZRecord_init_1 ⟨q2_158, q1_42, q1_43⟩ (by decide)) ?_
  refine x_bok.cons (xs_vret d_ZRecord_init_4 rfl) ?_
  exact x_bok.nil
set_option maxRecDepth 100000 in
theorem mn_ZRecord_init : x_bmn b_ZRecord_init := by
  unfold b_ZRecord_init
  refine x_bmn.cons (xm_aload) ?_
  refine x_bmn.cons (xm_obj) ?_
  refine x_bmn.cons (xm_vret) ?_
  exact x_bmn.nil
theorem is_ZRecord_init : x_Is y_ZRecord_init m_ZRecord_init := x_is_code q2_157
def Y_ZRecord_init : XMeth := x_do 1 b_ZRecord_init
theorem sn_ZRecord_init : x_Snd y_ZRecord_init m_ZRecord_init Y_ZRecord_init := x_snd_of (by decide) rfl rfl is_ZRecord_init k_ZRecord_init
theorem ym_ZRecord_init : x_Ymn Y_ZRecord_init := x_ymn_of mn_ZRecord_init
