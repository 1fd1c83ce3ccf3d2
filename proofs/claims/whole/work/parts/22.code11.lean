/- CashLinkLaw.told(LCashLink;II[J)I -/
abbrev c_L_told : ByteArray := method_14_code
def y_L_told : MethodName := ⟨"CashLinkLaw", "told", "(LCashLink;II[J)I"⟩
theorem d_L_told_0 : decode c_L_told 0 = .ok (.aload_n 3, 1) := by decide +kernel
theorem d_L_told_1 : decode c_L_told 1 = .ok (.iconst 0, 1) := by decide +kernel
theorem d_L_told_2 : decode c_L_told 2 = .ok (.aload_n 0, 1) := by decide +kernel
theorem d_L_told_3 : decode c_L_told 3 = .ok (.iload_n 1, 1) := by decide +kernel
theorem d_L_told_4 : decode c_L_told 4 = .ok (.iload_n 2, 1) := by decide +kernel
theorem d_L_told_5 : decode c_L_told 5 = .ok (.invokevirtual 59, 3) := by decide +kernel
theorem d_L_told_8 : decode c_L_told 8 = .ok (.i2l, 1) := by decide +kernel
theorem d_L_told_9 : decode c_L_told 9 = .ok (.lastore, 1) := by decide +kernel
theorem d_L_told_10 : decode c_L_told 10 = .ok (.goto 7, 3) := by decide +kernel
theorem d_L_told_13 : decode c_L_told 13 = .ok (.astore 4, 2) := by decide +kernel
theorem d_L_told_15 : decode c_L_told 15 = .ok (.iconst 1, 1) := by decide +kernel
theorem d_L_told_16 : decode c_L_told 16 = .ok (.ireturn, 1) := by decide +kernel
theorem d_L_told_17 : decode c_L_told 17 = .ok (.iconst 0, 1) := by decide +kernel
theorem d_L_told_18 : decode c_L_told 18 = .ok (.ireturn, 1) := by decide +kernel
def m_L_told : XM := ("CashLinkLaw", c_L_told, 5, (some .int), "told", [(0, 10, 13, 13)], 9, 154)
theorem h_L_told_5 : x_hok m_L_told 5 [(11, 13)] := by
  intro ci h hc
  by_cases e0 : ci = 11
  · subst e0
    have hh : h = 13 := (Option.some.inj (hc.symm.trans (by rfl : x_catch [(11, 13)] 11 = some 13)))
    subst hh
    refine ⟨"java/lang/IllegalArgumentException", xT11, 0, [], ⟨0, 10, 13, 13⟩, [], rfl, rfl, rfl, rfl, by decide, q1_217, ?_⟩
    intro z hz
    cases hz
  exfalso
  simp only [x_catch] at hc
  rw [if_neg (fun q => e0 q.symm)] at hc
  cases hc
def b_L_told : XB := [(0, X_aload 3 1),
  (1, X_push (xv_i 0) 1),
  (2, X_aload 0 1),
  (3, X_iload 1 1),
  (4, X_iload 2 1),
  (5, X_invV 0 Y_C_told 2 [(11, 13)]),
  (8, X_i2l),
  (9, X_last 1),
  (10, X_goto 17),
  (13, X_astore 4 2),
  (15, X_push (xv_i 1) 1),
  (16, X_iret),
  (17, X_push (xv_i 0) 1),
  (18, X_iret)]
set_option maxRecDepth 100000 in
theorem k_L_told : x_bok m_L_told b_L_told := by
  unfold b_L_told
  refine x_bok.cons (xs_aload_n d_L_told_0 rfl) ?_
  refine x_bok.cons (xs_iconst d_L_told_1 (by decide)) ?_
  refine x_bok.cons (xs_aload_n d_L_told_2 rfl) ?_
  refine x_bok.cons (xs_iload_n d_L_told_3 rfl) ?_
  refine x_bok.cons (xs_iload_n d_L_told_4 rfl) ?_
  refine x_bok.cons (xs_invV d_L_told_5 xc0 sn_C_told is_C_told ⟨q4_178, q4_179, q4_180, q1_1⟩ (by decide) (by decide) h_L_told_5) ?_
  refine x_bok.cons (xs_i2l d_L_told_8) ?_
  refine x_bok.cons (xs_last d_L_told_9 rfl) ?_
  refine x_bok.cons (xs_goto d_L_told_10 (by decide)) ?_
  refine x_bok.cons (xs_astore d_L_told_13 (by decide)) ?_
  refine x_bok.cons (xs_iconst d_L_told_15 (by decide)) ?_
  refine x_bok.cons (xs_iret d_L_told_16 rfl) ?_
  refine x_bok.cons (xs_iconst d_L_told_17 (by decide)) ?_
  refine x_bok.cons (xs_iret d_L_told_18 rfl) ?_
  exact x_bok.nil
set_option maxRecDepth 100000 in
theorem mn_L_told : x_bmn b_L_told := by
  unfold b_L_told
  refine x_bmn.cons (xm_aload) ?_
  refine x_bmn.cons (xm_push) ?_
  refine x_bmn.cons (xm_aload) ?_
  refine x_bmn.cons (xm_iload) ?_
  refine x_bmn.cons (xm_iload) ?_
  refine x_bmn.cons (xm_invV ym_C_told) ?_
  refine x_bmn.cons (xm_i2l) ?_
  refine x_bmn.cons (xm_last) ?_
  refine x_bmn.cons (xm_goto) ?_
  refine x_bmn.cons (xm_astore) ?_
  refine x_bmn.cons (xm_push) ?_
  refine x_bmn.cons (xm_iret) ?_
  refine x_bmn.cons (xm_push) ?_
  refine x_bmn.cons (xm_iret) ?_
  exact x_bmn.nil
theorem is_L_told : x_Is y_L_told m_L_told := x_is_with q4_177
def Y_L_told : XMeth := x_do 5 b_L_told
theorem sn_L_told : x_Snd y_L_told m_L_told Y_L_told := x_snd_of (by decide) rfl rfl is_L_told k_L_told
theorem ym_L_told : x_Ymn Y_L_told := x_ymn_of mn_L_told
/- CashLink.balance(I)I -/
abbrev c_C_balance : ByteArray := prog_1_method_14_code
def y_C_balance : MethodName := ⟨"CashLink", "balance", "(I)I"⟩
theorem d_C_balance_0 : decode c_C_balance 0 = .ok (.iload_n 1, 1) := by decide +kernel
theorem d_C_balance_1 : decode c_C_balance 1 = .ok (.invokestatic 42, 3) := by decide +kernel
theorem d_C_balance_4 : decode c_C_balance 4 = .ok (.invokestatic 46, 3) := by decide +kernel
theorem d_C_balance_7 : decode c_C_balance 7 = .ok (.aload_n 0, 1) := by decide +kernel
theorem d_C_balance_8 : decode c_C_balance 8 = .ok (.getfield 31, 3) := by decide +kernel
theorem d_C_balance_11 : decode c_C_balance 11 = .ok (.iload_n 1, 1) := by decide +kernel
theorem d_C_balance_12 : decode c_C_balance 12 = .ok (.invokevirtual 134, 3) := by decide +kernel
theorem d_C_balance_15 : decode c_C_balance 15 = .ok (.ireturn, 1) := by decide +kernel
def m_C_balance : XM := ("CashLink", c_C_balance, 2, (some .int), "balance", [], 7, 110)
def b_C_balance : XB := [(0, X_iload 1 1),
  (1, X_invS Y_C_isAccount 1 []),
  (4, X_invS Y_C_allow 1 []),
  (7, X_aload 0 1),
  (8, X_get 0 1),
  (11, X_iload 1 1),
  (12, X_invV 2 Y_B_balanceOf 1 []),
  (15, X_iret)]
set_option maxRecDepth 100000 in
theorem k_C_balance : x_bok m_C_balance b_C_balance := by
  unfold b_C_balance
  refine x_bok.cons (xs_iload_n d_C_balance_0 rfl) ?_
  refine x_bok.cons (xs_invS d_C_balance_1 sn_C_isAccount is_C_isAccount ⟨q2_60, q2_61, q1_1⟩ (by decide) (by decide) rfl) ?_
  refine x_bok.cons (xs_invS d_C_balance_4 sn_C_allow is_C_allow ⟨q1_227, q1_228, q1_1⟩ (by decide) (by decide) rfl) ?_
  refine x_bok.cons (xs_aload_n d_C_balance_7 rfl) ?_
  refine x_bok.cons (xs_get d_C_balance_8 xc0 xw0 (by decide) q1_202 (Or.inl rfl)) ?_
  refine x_bok.cons (xs_iload_n d_C_balance_11 rfl) ?_
  refine x_bok.cons (xs_invV d_C_balance_12 xc2 sn_B_balanceOf is_B_balanceOf ⟨q4_197, q3_233, q3_234, q1_6⟩ (by decide) (by decide) rfl) ?_
  refine x_bok.cons (xs_iret d_C_balance_15 rfl) ?_
  exact x_bok.nil
set_option maxRecDepth 100000 in
theorem mn_C_balance : x_bmn b_C_balance := by
  unfold b_C_balance
  refine x_bmn.cons (xm_iload) ?_
  refine x_bmn.cons (xm_invS ym_C_isAccount) ?_
  refine x_bmn.cons (xm_invS ym_C_allow) ?_
  refine x_bmn.cons (xm_aload) ?_
  refine x_bmn.cons (xm_get) ?_
  refine x_bmn.cons (xm_iload) ?_
  refine x_bmn.cons (xm_invV ym_B_balanceOf) ?_
  refine x_bmn.cons (xm_iret) ?_
  exact x_bmn.nil
theorem is_C_balance : x_Is y_C_balance m_C_balance := x_is_code q4_196
def Y_C_balance : XMeth := x_do 2 b_C_balance
theorem sn_C_balance : x_Snd y_C_balance m_C_balance Y_C_balance := x_snd_of (by decide) rfl rfl is_C_balance k_C_balance
theorem ym_C_balance : x_Ymn Y_C_balance := x_ymn_of mn_C_balance
/- CashLinkLaw.balance(LCashLink;I[J)I -/
abbrev c_L_balance : ByteArray := method_15_code
def y_L_balance : MethodName := ⟨"CashLinkLaw", "balance", "(LCashLink;I[J)I"⟩
theorem d_L_balance_0 : decode c_L_balance 0 = .ok (.aload_n 2, 1) := by decide +kernel
theorem d_L_balance_1 : decode c_L_balance 1 = .ok (.iconst 0, 1) := by decide +kernel
theorem d_L_balance_2 : decode c_L_balance 2 = .ok (.aload_n 0, 1) := by decide +kernel
theorem d_L_balance_3 : decode c_L_balance 3 = .ok (.iload_n 1, 1) := by decide +kernel
theorem d_L_balance_4 : decode c_L_balance 4 = .ok (.invokevirtual 62, 3) := by decide +kernel
theorem d_L_balance_7 : decode c_L_balance 7 = .ok (.i2l, 1) := by decide +kernel
theorem d_L_balance_8 : decode c_L_balance 8 = .ok (.lastore, 1) := by decide +kernel
theorem d_L_balance_9 : decode c_L_balance 9 = .ok (.goto 6, 3) := by decide +kernel
theorem d_L_balance_12 : decode c_L_balance 12 = .ok (.astore_n 3, 1) := by decide +kernel
theorem d_L_balance_13 : decode c_L_balance 13 = .ok (.iconst 1, 1) := by decide +kernel
theorem d_L_balance_14 : decode c_L_balance 14 = .ok (.ireturn, 1) := by decide +kernel
theorem d_L_balance_15 : decode c_L_balance 15 = .ok (.iconst 0, 1) := by decide +kernel
theorem d_L_balance_16 : decode c_L_balance 16 = .ok (.ireturn, 1) := by decide +kernel
def m_L_balance : XM := ("CashLinkLaw", c_L_balance, 4, (some .int), "balance", [(0, 9, 12, 13)], 8, 131)
theorem h_L_balance_4 : x_hok m_L_balance 4 [(11, 12)] := by
  intro ci h hc
  by_cases e0 : ci = 11
  · subst e0
    have hh : h = 12 := (Option.some.inj (hc.symm.trans (by rfl : x_catch [(11, 12)] 11 = some 12)))
    subst hh
    refine ⟨"java/lang/IllegalArgumentException", xT11, 0, [], ⟨0, 9, 12, 13⟩, [], rfl, rfl, rfl, rfl, by decide, q1_217, ?_⟩
    intro z hz
    cases hz
  exfalso
  simp only [x_catch] at hc
  rw [if_neg (fun q => e0 q.symm)] at hc
  cases hc
def b_L_balance : XB := [(0, X_aload 2 1),
  (1, X_push (xv_i 0) 1),
  (2, X_aload 0 1),
  (3, X_iload 1 1),
  (4, X_invV 0 Y_C_balance 1 [(11, 12)]),
  (7, X_i2l),
  (8, X_last 1),
  (9, X_goto 15),
  (12, X_astore 3 1),
  (13, X_push (xv_i 1) 1),
  (14, X_iret),
  (15, X_push (xv_i 0) 1),
  (16, X_iret)]
set_option maxRecDepth 100000 in
theorem k_L_balance : x_bok m_L_balance b_L_balance := by
  unfold b_L_balance
  refine x_bok.cons (xs_aload_n d_L_balance_0 rfl) ?_
  refine x_bok.cons (xs_iconst d_L_balance_1 (by decide)) ?_
  refine x_bok.cons (xs_aload_n d_L_balance_2 rfl) ?_
  refine x_bok.cons (xs_iload_n d_L_balance_3 rfl) ?_
  refine x_bok.cons (xs_invV d_L_balance_4 xc0 sn_C_balance is_C_balance ⟨q4_193, q4_194, q4_195, q1_1⟩ (by decide) (by decide) h_L_balance_4) ?_
  refine x_bok.cons (xs_i2l d_L_balance_7) ?_
  refine x_bok.cons (xs_last d_L_balance_8 rfl) ?_
  refine x_bok.cons (xs_goto d_L_balance_9 (by decide)) ?_
  refine x_bok.cons (xs_astore_n d_L_balance_12 rfl (by decide)) ?_
  refine x_bok.cons (xs_iconst d_L_balance_13 (by decide)) ?_
  refine x_bok.cons (xs_iret d_L_balance_14 rfl) ?_
  refine x_bok.cons (xs_iconst d_L_balance_15 (by decide)) ?_
  refine x_bok.cons (xs_iret d_L_balance_16 rfl) ?_
  exact x_bok.nil
set_option maxRecDepth 100000 in
theorem mn_L_balance : x_bmn b_L_balance := by
  unfold b_L_balance
  refine x_bmn.cons (xm_aload) ?_
  refine x_bmn.cons (xm_push) ?_
  refine x_bmn.cons (xm_aload) ?_
  refine x_bmn.cons (xm_iload) ?_
  refine x_bmn.cons (xm_invV ym_C_balance) ?_
  refine x_bmn.cons (xm_i2l) ?_
  refine x_bmn.cons (xm_last) ?_
  refine x_bmn.cons (xm_goto) ?_
  refine x_bmn.cons (xm_astore) ?_
  refine x_bmn.cons (xm_push) ?_
  refine x_bmn.cons (xm_iret) ?_
  refine x_bmn.cons (xm_push) ?_
  refine x_bmn.cons (xm_iret) ?_
  exact x_bmn.nil
theorem is_L_balance : x_Is y_L_balance m_L_balance := x_is_with q4_192
def Y_L_balance : XMeth := x_do 4 b_L_balance
theorem sn_L_balance : x_Snd y_L_balance m_L_balance Y_L_balance := x_snd_of (by decide) rfl rfl is_L_balance k_L_balance
theorem ym_L_balance : x_Ymn Y_L_balance := x_ymn_of mn_L_balance
/- CashLink.taken(I)I -/
abbrev c_C_taken : ByteArray := prog_1_method_15_code
def y_C_taken : MethodName := ⟨"CashLink", "taken", "(I)I"⟩
theorem d_C_taken_0 : decode c_C_taken 0 = .ok (.iload_n 1, 1) := by decide +kernel
theorem d_C_taken_1 : decode c_C_taken 1 = .ok (.invokestatic 42, 3) := by decide +kernel
theorem d_C_taken_4 : decode c_C_taken 4 = .ok (.invokestatic 46, 3) := by decide +kernel
theorem d_C_taken_7 : decode c_C_taken 7 = .ok (.aload_n 0, 1) := by decide +kernel
theorem d_C_taken_8 : decode c_C_taken 8 = .ok (.getfield 22, 3) := by decide +kernel
theorem d_C_taken_11 : decode c_C_taken 11 = .ok (.iload_n 1, 1) := by decide +kernel
theorem d_C_taken_12 : decode c_C_taken 12 = .ok (.iaload, 1) := by decide +kernel
theorem d_C_taken_13 : decode c_C_taken 13 = .ok (.ireturn, 1) := by decide +kernel
def m_C_taken : XM := ("CashLink", c_C_taken, 2, (some .int), "taken", [], 7, 110)
def b_C_taken : XB := [(0, X_iload 1 1),
  (1, X_invS Y_C_isAccount 1 []),
  (4, X_invS Y_C_allow 1 []),
  (7, X_aload 0 1),
  (8, X_get 0 3),
  (11, X_iload 1 1),
  (12, X_ald 0),
  (13, X_iret)]
set_option maxRecDepth 100000 in
theorem k_C_taken : x_bok m_C_taken b_C_taken := by
  unfold b_C_taken
  refine x_bok.cons (xs_iload_n d_C_taken_0 rfl) ?_
  refine x_bok.cons (xs_invS d_C_taken_1 sn_C_isAccount is_C_isAccount ⟨q2_60, q2_61, q1_1⟩ (by decide) (by decide) rfl) ?_
  refine x_bok.cons (xs_invS d_C_taken_4 sn_C_allow is_C_allow ⟨q1_227, q1_228, q1_1⟩ (by decide) (by decide) rfl) ?_
  refine x_bok.cons (xs_aload_n d_C_taken_7 rfl) ?_
  refine x_bok.cons (xs_get d_C_taken_8 xc0 xw0 (by decide) q1_204 (Or.inl rfl)) ?_
  refine x_bok.cons (xs_iload_n d_C_taken_11 rfl) ?_
  refine x_bok.cons (xs_iald d_C_taken_12 rfl) ?_
  refine x_bok.cons (xs_iret d_C_taken_13 rfl) ?_
  exact x_bok.nil
set_option maxRecDepth 100000 in
theorem mn_C_taken : x_bmn b_C_taken := by
  unfold b_C_taken
  refine x_bmn.cons (xm_iload) ?_
  refine x_bmn.cons (xm_invS ym_C_isAccount) ?_
  refine x_bmn.cons (xm_invS ym_C_allow) ?_
  refine x_bmn.cons (xm_aload) ?_
  refine x_bmn.cons (xm_get) ?_
  refine x_bmn.cons (xm_iload) ?_
  refine x_bmn.cons (xm_ald) ?_
  refine x_bmn.cons (xm_iret) ?_
  exact x_bmn.nil
theorem is_C_taken : x_Is y_C_taken m_C_taken := x_is_code q4_204
def Y_C_taken : XMeth := x_do 2 b_C_taken
theorem sn_C_taken : x_Snd y_C_taken m_C_taken Y_C_taken := x_snd_of (by decide) rfl rfl is_C_taken k_C_taken
theorem ym_C_taken : x_Ymn Y_C_taken := x_ymn_of mn_C_taken
/- CashLinkLaw.taken(LCashLink;I[J)I -/
abbrev c_L_taken : ByteArray := method_16_code
def y_L_taken : MethodName := ⟨"CashLinkLaw", "taken", "(LCashLink;I[J)I"⟩
theorem d_L_taken_0 : decode c_L_taken 0 = .ok (.aload_n 2, 1) := by decide +kernel
theorem d_L_taken_1 : decode c_L_taken 1 = .ok (.iconst 0, 1) := by decide +kernel
theorem d_L_taken_2 : decode c_L_taken 2 = .ok (.aload_n 0, 1) := by decide +kernel
theorem d_L_taken_3 : decode c_L_taken 3 = .ok (.iload_n 1, 1) := by decide +kernel
theorem d_L_taken_4 : decode c_L_taken 4 = .ok (.invokevirtual 65, 3) := by decide +kernel
theorem d_L_taken_7 : decode c_L_taken 7 = .ok (.i2l, 1) := by decide +kernel
theorem d_L_taken_8 : decode c_L_taken 8 = .ok (.lastore, 1) := by decide +kernel
theorem d_L_taken_9 : decode c_L_taken 9 = .ok (.goto 6, 3) := by decide +kernel
theorem d_L_taken_12 : decode c_L_taken 12 = .ok (.astore_n 3, 1) := by decide +kernel
theorem d_L_taken_13 : decode c_L_taken 13 = .ok (.iconst 1, 1) := by decide +kernel
theorem d_L_taken_14 : decode c_L_taken 14 = .ok (.ireturn, 1) := by decide +kernel
theorem d_L_taken_15 : decode c_L_taken 15 = .ok (.iconst 0, 1) := by decide +kernel
theorem d_L_taken_16 : decode c_L_taken 16 = .ok (.ireturn, 1) := by decide +kernel
def m_L_taken : XM := ("CashLinkLaw", c_L_taken, 4, (some .int), "taken", [(0, 9, 12, 13)], 8, 131)
theorem h_L_taken_4 : x_hok m_L_taken 4 [(11, 12)] := by
  intro ci h hc
  by_cases e0 : ci = 11
  · subst e0
    have hh : h = 12 := (Option.some.inj (hc.symm.trans (by rfl : x_catch [(11, 12)] 11 = some 12)))
    subst hh
    refine ⟨"java/lang/IllegalArgumentException", xT11, 0, [], ⟨0, 9, 12, 13⟩, [], rfl, rfl, rfl, rfl, by decide, q1_217, ?_⟩
    intro z hz
    cases hz
  exfalso
  simp only [x_catch] at hc
  rw [if_neg (fun q => e0 q.symm)] at hc
  cases hc
def b_L_taken : XB := [(0, X_aload 2 1),
  (1, X_push (xv_i 0) 1),
  (2, X_aload 0 1),
  (3, X_iload 1 1),
  (4, X_invV 0 Y_C_taken 1 [(11, 12)]),
  (7, X_i2l),
  (8, X_last 1),
  (9, X_goto 15),
  (12, X_astore 3 1),
  (13, X_push (xv_i 1) 1),
  (14, X_iret),
  (15, X_push (xv_i 0) 1),
  (16, X_iret)]
set_option maxRecDepth 100000 in
theorem k_L_taken : x_bok m_L_taken b_L_taken := by
  unfold b_L_taken
  refine x_bok.cons (xs_aload_n d_L_taken_0 rfl) ?_
  refine x_bok.cons (xs_iconst d_L_taken_1 (by decide)) ?_
  refine x_bok.cons (xs_aload_n d_L_taken_2 rfl) ?_
  refine x_bok.cons (xs_iload_n d_L_taken_3 rfl) ?_
  refine x_bok.cons (xs_invV d_L_taken_4 xc0 sn_C_taken is_C_taken ⟨q4_201, q4_202, q4_203, q1_1⟩ (by decide) (by decide) h_L_taken_4) ?_
  refine x_bok.cons (xs_i2l d_L_taken_7) ?_
  refine x_bok.cons (xs_last d_L_taken_8 rfl) ?_
  refine x_bok.cons (xs_goto d_L_taken_9 (by decide)) ?_
  refine x_bok.cons (xs_astore_n d_L_taken_12 rfl (by decide)) ?_
  refine x_bok.cons (xs_iconst d_L_taken_13 (by decide)) ?_
  refine x_bok.cons (xs_iret d_L_taken_14 rfl) ?_
  refine x_bok.cons (xs_iconst d_L_taken_15 (by decide)) ?_
  refine x_bok.cons (xs_iret d_L_taken_16 rfl) ?_
  exact x_bok.nil
set_option maxRecDepth 100000 in
theorem mn_L_taken : x_bmn b_L_taken := by
  unfold b_L_taken
  refine x_bmn.cons (xm_aload) ?_
  refine x_bmn.cons (xm_push) ?_
  refine x_bmn.cons (xm_aload) ?_
  refine x_bmn.cons (xm_iload) ?_
  refine x_bmn.cons (xm_invV ym_C_taken) ?_
  refine x_bmn.cons (xm_i2l) ?_
  refine x_bmn.cons (xm_last) ?_
  refine x_bmn.cons (xm_goto) ?_
  refine x_bmn.cons (xm_astore) ?_
  refine x_bmn.cons (xm_push) ?_
  refine x_bmn.cons (xm_iret) ?_
  refine x_bmn.cons (xm_push) ?_
  refine x_bmn.cons (xm_iret) ?_
  exact x_bmn.nil
theorem is_L_taken : x_Is y_L_taken m_L_taken := x_is_with q4_200
def Y_L_taken : XMeth := x_do 4 b_L_taken
theorem sn_L_taken : x_Snd y_L_taken m_L_taken Y_L_taken := x_snd_of (by decide) rfl rfl is_L_taken k_L_taken
theorem ym_L_taken : x_Ymn Y_L_taken := x_ymn_of mn_L_taken
/- java/lang/StringUTF16.newBytesLength(I)I -/
abbrev c_ZStringUTF16_newBytesLength : ByteArray := prog_29_method_3_code
def y_ZStringUTF16_newBytesLength : MethodName := ⟨"java/lang/StringUTF16", "newBytesLength", "(I)I"⟩
theorem d_ZStringUTF16_newBytesLength_0 : decode c_ZStringUTF16_newBytesLength 0 = .ok (.iload_n 0, 1) := by decide +kernel
theorem d_ZStringUTF16_newBytesLength_1 : decode c_ZStringUTF16_newBytesLength 1 = .ok (.ifCond .ge 11, 3) := by decide +kernel
theorem d_ZStringUTF16_newBytesLength_4 : decode c_ZStringUTF16_newBytesLength 4 = .ok (.new 17, 3) := by decide +kernel
theorem d_ZStringUTF16_newBytesLength_7 : decode c_ZStringUTF16_newBytesLength 7 = .ok (.dup, 1) := by decide +kernel
theorem d_ZStringUTF16_newBytesLength_8 : decode c_ZStringUTF16_newBytesLength 8 = .ok (.invokespecial 19, 3) := by decide +kernel
theorem d_ZStringUTF16_newBytesLength_11 : decode c_ZStringUTF16_newBytesLength 11 = .ok (.athrow, 1) := by decide +kernel
theorem d_ZStringUTF16_newBytesLength_12 : decode c_ZStringUTF16_newBytesLength 12 = .ok (.iload_n 0, 1) := by decide +kernel
theorem d_ZStringUTF16_newBytesLength_13 : decode c_ZStringUTF16_newBytesLength 13 = .ok (.ldc 20, 2) := by decide +kernel
theorem d_ZStringUTF16_newBytesLength_15 : decode c_ZStringUTF16_newBytesLength 15 = .ok (.if_icmp .lt 40, 3) := by decide +kernel
theorem d_ZStringUTF16_newBytesLength_18 : decode c_ZStringUTF16_newBytesLength 18 = .ok (.new 21, 3) := by decide +kernel
theorem d_ZStringUTF16_newBytesLength_21 : decode c_ZStringUTF16_newBytesLength 21 = .ok (.dup, 1) := by decide +kernel
theorem d_ZStringUTF16_newBytesLength_22 : decode c_ZStringUTF16_newBytesLength 22 = .ok (.new 23, 3) := by decide +kernel
theorem d_ZStringUTF16_newBytesLength_25 : decode c_ZStringUTF16_newBytesLength 25 = .ok (.dup, 1) := by decide +kernel
theorem d_ZStringUTF16_newBytesLength_26 : decode c_ZStringUTF16_newBytesLength 26 = .ok (.invokespecial 25, 3) := by decide +kernel
theorem d_ZStringUTF16_newBytesLength_29 : decode c_ZStringUTF16_newBytesLength 29 = .ok (.ldc 26, 2) := by decide +kernel
theorem d_ZStringUTF16_newBytesLength_31 : decode c_ZStringUTF16_newBytesLength 31 = .ok (.invokevirtual 28, 3) := by decide +kernel
theorem d_ZStringUTF16_newBytesLength_34 : decode c_ZStringUTF16_newBytesLength 34 = .ok (.iload_n 0, 1) := by decide +kernel
theorem d_ZStringUTF16_newBytesLength_35 : decode c_ZStringUTF16_newBytesLength 35 = .ok (.invokevirtual 32, 3) := by decide +kernel
theorem d_ZStringUTF16_newBytesLength_38 : decode c_ZStringUTF16_newBytesLength 38 = .ok (.ldc 35, 2) := by decide +kernel
theorem d_ZStringUTF16_newBytesLength_40 : decode c_ZStringUTF16_newBytesLength 40 = .ok (.invokevirtual 28, 3) := by decide +kernel
theorem d_ZStringUTF16_newBytesLength_43 : decode c_ZStringUTF16_newBytesLength 43 = .ok (.ldc 20, 2) := by decide +kernel
theorem d_ZStringUTF16_newBytesLength_45 : decode c_ZStringUTF16_newBytesLength 45 = .ok (.invokevirtual 32, 3) := by decide +kernel
theorem d_ZStringUTF16_newBytesLength_48 : decode c_ZStringUTF16_newBytesLength 48 = .ok (.invokevirtual 37, 3) := by decide +kernel
theorem d_ZStringUTF16_newBytesLength_51 : decode c_ZStringUTF16_newBytesLength 51 = .ok (.invokespecial 41, 3) := by decide +kernel
theorem d_ZStringUTF16_newBytesLength_54 : decode c_ZStringUTF16_newBytesLength 54 = .ok (.athrow, 1) := by decide +kernel
theorem d_ZStringUTF16_newBytesLength_55 : decode c_ZStringUTF16_newBytesLength 55 = .ok (.iload_n 0, 1) := by decide +kernel
theorem d_ZStringUTF16_newBytesLength_56 : decode c_ZStringUTF16_newBytesLength 56 = .ok (.iconst 1, 1) := by decide +kernel
theorem d_ZStringUTF16_newBytesLength_57 : decode c_ZStringUTF16_newBytesLength 57 = .ok (.ishl, 1) := by decide +kernel
theorem d_ZStringUTF16_newBytesLength_58 : decode c_ZStringUTF16_newBytesLength 58 = .ok (.ireturn, 1) := by decide +kernel
def m_ZStringUTF16_newBytesLength : XM := ("java/lang/StringUTF16", c_ZStringUTF16_newBytesLength, 1, (some .int), "newBytesLength", [], 0, 0)
def b_ZStringUTF16_newBytesLength : XB := [(0, X_iload 0 1),
  (1, X_if (fun x => 0 ≤ x) 12),
  (4, X_bad),
  (7, X_dup),
  (8, X_bad),
  (11, X_bad),
  (12, X_iload 0 1),
  (13, X_push (xv_i 1073741823) 2),
  (15, X_icmp (fun x y => x < y) 55),
  (18, X_bad),
  (21, X_dup),
  (22, X_bad),
  (25, X_dup),
  (26, X_bad),
  (29, X_bad),
  (31, X_bad),
  (34, X_iload 0 1),
  (35, X_bad),
  (38, X_bad),
  (40, X_bad),
  (43, X_push (xv_i 1073741823) 2),
  (45, X_bad),
  (48, X_bad),
  (51, X_bad),
  (54, X_bad),
  (55, X_iload 0 1),
  (56, X_push (xv_i 1) 1),
  (57, X_bin (fun x y => x <<< (y &&& 31))),
  (58, X_iret)]
set_option maxRecDepth 100000 in
theorem k_ZStringUTF16_newBytesLength : x_bok m_ZStringUTF16_newBytesLength b_ZStringUTF16_newBytesLength := by
  unfold b_ZStringUTF16_newBytesLength
  refine x_bok.cons (xs_iload_n d_ZStringUTF16_newBytesLength_0 rfl) ?_
  refine x_bok.cons (xs_if_ge d_ZStringUTF16_newBytesLength_1 (by decide)) ?_
  refine x_bok.cons (xs_bad) ?_
  refine x_bok.cons (xs_dup d_ZStringUTF16_newBytesLength_7) ?_
  refine x_bok.cons (xs_bad) ?_
  refine x_bok.cons (xs_bad) ?_
  refine x_bok.cons (xs_iload_n d_ZStringUTF16_newBytesLength_12 rfl) ?_
  refine x_bok.cons (xs_ldc d_ZStringUTF16_newBytesLength_13 q4_234) ?_
  refine x_bok.cons (xs_icmp_lt d_ZStringUTF16_newBytesLength_15 (by decide)) ?_
  refine x_bok.cons (xs_bad) ?_
  refine x_bok.cons (xs_dup d_ZStringUTF16_newBytesLength_21) ?_
  refine x_bok.cons (xs_bad) ?_
  refine x_bok.cons (xs_dup d_ZStringUTF16_newBytesLength_25) ?_
  refine x_bok.cons (xs_bad) ?_
  refine x_bok.cons (xs_bad) ?_
  refine x_bok.cons (xs_bad) ?_
  refine x_bok.cons (xs_iload_n d_ZStringUTF16_newBytesLength_34 rfl) ?_
  refine x_bok.cons (xs_bad) ?_
  refine x_bok.cons (xs_bad) ?_
  refine x_bok.cons (xs_bad) ?_
  refine x_bok.cons (xs_ldc d_ZStringUTF16_newBytesLength_43 q4_234) ?_
  refine x_bok.cons (xs_bad) ?_
  refine x_bok.cons (xs_bad) ?_
  refine x_bok.cons (xs_bad) ?_
  refine x_bok.cons (xs_bad) ?_
  refine x_bok.cons (xs_iload_n d_ZStringUTF16_newBytesLength_55 rfl) ?_
  refine x_bok.cons (xs_iconst d_ZStringUTF16_newBytesLength_56 (by decide)) ?_
  refine x_bok.cons (xs_ishl d_ZStringUTF16_newBytesLength_57) ?_
  refine x_bok.cons (xs_iret d_ZStringUTF16_newBytesLength_58 rfl) ?_
  exact x_bok.nil
set_option maxRecDepth 100000 in
theorem mn_ZStringUTF16_newBytesLength : x_bmn b_ZStringUTF16_newBytesLength := by
  unfold b_ZStringUTF16_newBytesLength
  refine x_bmn.cons (xm_iload) ?_
  refine x_bmn.cons (xm_if) ?_
  refine x_bmn.cons (xm_bad) ?_
  refine x_bmn.cons (xm_dup) ?_
  refine x_bmn.cons (xm_bad) ?_
  refine x_bmn.cons (xm_bad) ?_
  refine x_bmn.cons (xm_iload) ?_
  refine x_bmn.cons (xm_push) ?_
  refine x_bmn.cons (xm_icmp) ?_
  refine x_bmn.cons (xm_bad) ?_
  refine x_bmn.cons (xm_dup) ?_
  refine x_bmn.cons (xm_bad) ?_
  refine x_bmn.cons (xm_dup) ?_
  refine x_bmn.cons (xm_bad) ?_
  refine x_bmn.cons (xm_bad) ?_
  refine x_bmn.cons (xm_bad) ?_
  refine x_bmn.cons (xm_iload) ?_
  refine x_bmn.cons (xm_bad) ?_
  refine x_bmn.cons (xm_bad) ?_
  refine x_bmn.cons (xm_bad) ?_
  refine x_bmn.cons (xm_push) ?_
  refine x_bmn.cons (xm_bad) ?_
  refine x_bmn.cons (xm_bad) ?_
  refine x_bmn.cons (xm_bad) ?_
  refine x_bmn.cons (xm_bad) ?_
  refine x_bmn.cons (xm_iload) ?_
  refine x_bmn.cons (xm_push) ?_
  refine x_bmn.cons (xm_bin) ?_
  refine x_bmn.cons (xm_iret) ?_
  exact x_bmn.nil
theorem is_ZStringUTF16_newBytesLength : x_Is y_ZStringUTF16_newBytesLength m_ZStringUTF16_newBytesLength := x_is_code q4_233
def Y_ZStringUTF16_newBytesLength : XMeth := x_do 1 b_ZStringUTF16_newBytesLength
theorem sn_ZStringUTF16_newBytesLength : x_Snd y_ZStringUTF16_newBytesLength m_ZStringUTF16_newBytesLength Y_ZStringUTF16_newBytesLength := x_snd_of (by decide) rfl rfl is_ZStringUTF16_newBytesLength k_ZStringUTF16_newBytesLength
theorem ym_ZStringUTF16_newBytesLength : x_Ymn Y_ZStringUTF16_newBytesLength := x_ymn_of mn_ZStringUTF16_newBytesLength
/- java/lang/StringUTF16.newBytesFor(I)[B -/
abbrev c_ZStringUTF16_newBytesFor : ByteArray := prog_29_method_2_code
def y_ZStringUTF16_newBytesFor : MethodName := ⟨"java/lang/StringUTF16", "newBytesFor", "(I)[B"⟩
theorem d_ZStringUTF16_newBytesFor_0 : decode c_ZStringUTF16_newBytesFor 0 = .ok (.iload_n 0, 1) := by decide +kernel
theorem d_ZStringUTF16_newBytesFor_1 : decode c_ZStringUTF16_newBytesFor 1 = .ok (.invokestatic 11, 3) := by decide +kernel
theorem d_ZStringUTF16_newBytesFor_4 : decode c_ZStringUTF16_newBytesFor 4 = .ok (.newarray .byte, 2) := by decide +kernel
theorem d_ZStringUTF16_newBytesFor_6 : decode c_ZStringUTF16_newBytesFor 6 = .ok (.areturn, 1) := by decide +kernel
def m_ZStringUTF16_newBytesFor : XM := ("java/lang/StringUTF16", c_ZStringUTF16_newBytesFor, 1, (some (.array .byte)), "newBytesFor", [], 1, 20)
def b_ZStringUTF16_newBytesFor : XB := [(0, X_iload 0 1),
  (1, X_invS Y_ZStringUTF16_newBytesLength 1 []),
  (4, X_newa 2 1 (.inl (fun _ => 0)) 2),
  (6, X_aret)]
set_option maxRecDepth 100000 in
theorem k_ZStringUTF16_newBytesFor : x_bok m_ZStringUTF16_newBytesFor b_ZStringUTF16_newBytesFor := by
  unfold b_ZStringUTF16_newBytesFor
  refine x_bok.cons (xs_iload_n d_ZStringUTF16_newBytesFor_0 rfl) ?_
  refine x_bok.cons (xs_invS d_ZStringUTF16_newBytesFor_1 sn_ZStringUTF16_newBytesLength is_ZStringUTF16_newBytesLength ⟨q4_231, q4_232, q1_34⟩ (by decide) (by decide) rfl) ?_
  refine x_bok.cons (xs_newa (ty := .byte) d_ZStringUTF16_newBytesFor_4 rfl rfl q2_59 (fun _ _ _ => rfl) x_zbyte) ?_
  refine x_bok.cons (xs_aret d_ZStringUTF16_newBytesFor_6 rfl (by first | exact Or.inl ⟨_, rfl⟩ | exact Or.inr ⟨_, rfl⟩)) ?_
  exact x_bok.nil
set_option maxRecDepth 100000 in
theorem mn_ZStringUTF16_newBytesFor : x_bmn b_ZStringUTF16_newBytesFor := by
  unfold b_ZStringUTF16_newBytesFor
  refine x_bmn.cons (xm_iload) ?_
  refine x_bmn.cons (xm_invS ym_ZStringUTF16_newBytesLength) ?_
  refine x_bmn.cons (xm_newa) ?_
  refine x_bmn.cons (xm_aret) ?_
  exact x_bmn.nil
theorem is_ZStringUTF16_newBytesFor : x_Is y_ZStringUTF16_newBytesFor m_ZStringUTF16_newBytesFor := x_is_code q4_230
def Y_ZStringUTF16_newBytesFor : XMeth := x_do 1 b_ZStringUTF16_newBytesFor
theorem sn_ZStringUTF16_newBytesFor : x_Snd y_ZStringUTF16_newBytesFor m_ZStringUTF16_newBytesFor Y_ZStringUTF16_newBytesFor := x_snd_of (by decide) rfl rfl is_ZStringUTF16_newBytesFor k_ZStringUTF16_newBytesFor
theorem ym_ZStringUTF16_newBytesFor : x_Ymn Y_ZStringUTF16_newBytesFor := x_ymn_of mn_ZStringUTF16_newBytesFor
/- java/lang/AbstractStringBuilder.<init>(I)V -/
abbrev c_ZAbstractStringBuilder_init : ByteArray := prog_14_method_2_code
def y_ZAbstractStringBuilder_init : MethodName := ⟨"java/lang/AbstractStringBuilder", "<init>", "(I)V"⟩
theorem d_ZAbstractStringBuilder_init_0 : decode c_ZAbstractStringBuilder_init 0 = .ok (.aload_n 0, 1) := by decide +kernel
theorem d_ZAbstractStringBuilder_init_1 : decode c_ZAbstractStringBuilder_init 1 = .ok (.invokespecial 3, 3) := by decide +kernel
theorem d_ZAbstractStringBuilder_init_4 : decode c_ZAbstractStringBuilder_init 4 = .ok (.getstatic 18, 3) := by decide +kernel
theorem d_ZAbstractStringBuilder_init_7 : decode c_ZAbstractStringBuilder_init 7 = .ok (.ifCond .eq 18, 3) := by decide +kernel
theorem d_ZAbstractStringBuilder_init_10 : decode c_ZAbstractStringBuilder_init 10 = .ok (.aload_n 0, 1) := by decide +kernel
theorem d_ZAbstractStringBuilder_init_11 : decode c_ZAbstractStringBuilder_init 11 = .ok (.iload_n 1, 1) := by decide +kernel
theorem d_ZAbstractStringBuilder_init_12 : decode c_ZAbstractStringBuilder_init 12 = .ok (.newarray .byte, 2) := by decide +kernel
theorem d_ZAbstractStringBuilder_init_14 : decode c_ZAbstractStringBuilder_init 14 = .ok (.putfield 15, 3) := by decide +kernel
theorem d_ZAbstractStringBuilder_init_17 : decode c_ZAbstractStringBuilder_init 17 = .ok (.aload_n 0, 1) := by decide +kernel
theorem d_ZAbstractStringBuilder_init_18 : decode c_ZAbstractStringBuilder_init 18 = .ok (.iconst 0, 1) := by decide +kernel
theorem d_ZAbstractStringBuilder_init_19 : decode c_ZAbstractStringBuilder_init 19 = .ok (.putfield 22, 3) := by decide +kernel
theorem d_ZAbstractStringBuilder_init_22 : decode c_ZAbstractStringBuilder_init 22 = .ok (.goto 16, 3) := by decide +kernel
theorem d_ZAbstractStringBuilder_init_25 : decode c_ZAbstractStringBuilder_init 25 = .ok (.aload_n 0, 1) := by decide +kernel
theorem d_ZAbstractStringBuilder_init_26 : decode c_ZAbstractStringBuilder_init 26 = .ok (.iload_n 1, 1) := by decide +kernel
theorem d_ZAbstractStringBuilder_init_27 : decode c_ZAbstractStringBuilder_init 27 = .ok (.invokestatic 26, 3) := by decide +kernel
theorem d_ZAbstractStringBuilder_init_30 : decode c_ZAbstractStringBuilder_init 30 = .ok (.putfield 15, 3) := by decide +kernel
theorem d_ZAbstractStringBuilder_init_33 : decode c_ZAbstractStringBuilder_init 33 = .ok (.aload_n 0, 1) := by decide +kernel
theorem d_ZAbstractStringBuilder_init_34 : decode c_ZAbstractStringBuilder_init 34 = .ok (.iconst 1, 1) := by decide +kernel
theorem d_ZAbstractStringBuilder_init_35 : decode c_ZAbstractStringBuilder_init 35 = .ok (.putfield 22, 3) := by decide +kernel
theorem d_ZAbstractStringBuilder_init_38 : decode c_ZAbstractStringBuilder_init 38 = .ok (.return_, 1) := by decide +kernel
def m_ZAbstractStringBuilder_init : XM := ("java/lang/AbstractStringBuilder", c_ZAbstractStringBuilder_init, 2, none, "<init>", [], 2, 40)
def b_ZAbstractStringBuilder_init : XB := [(0, X_aload 0 1),
  (1, X_obj),
  (4, X_push (xv_i 1) 3),
  (7, X_if (fun x => x = 0) 25),
  (10, X_aload 0 1),
  (11, X_iload 1 1),
  (12, X_newa 2 1 (.inl (fun _ => 0)) 2),
  (14, X_put x_tR 9 0),
  (17, X_aload 0 1),
  (18, X_push (xv_i 0) 1),
  (19, X_put x_tB 9 1),
  (22, X_goto 38),
  (25, X_aload 0 1),
  (26, X_iload 1 1),
  (27, X_invS Y_ZStringUTF16_newBytesFor 1 []),
  (30, X_put x_tR 9 0),
  (33, X_aload 0 1),
  (34, X_push (xv_i 1) 1),
  (35, X_put x_tB 9 1),
  (38, X_vret)]
set_option maxRecDepth 100000 in
theorem k_ZAbstractStringBuilder_init : x_bok m_ZAbstractStringBuilder_init b_ZAbstractStringBuilder_init := by
  unfold b_ZAbstractStringBuilder_init
  refine x_bok.cons (xs_aload_n d_ZAbstractStringBuilder_init_0 rfl) ?_
  refine x_bok.cons (xs_obj d_ZAbstractStringBuilder_init_1 ⟨q4_225, q1_42, q1_43⟩ (by decide)) ?_
  refine x_bok.cons (xs_gets d_ZAbstractStringBuilder_init_4 (List.mem_of_getElem? (i := 13) rfl) q4_226 (Or.inl rfl)) ?_
  refine x_bok.cons (xs_if_eq d_ZAbstractStringBuilder_init_7 (by decide)) ?_
  refine x_bok.cons (xs_aload_n d_ZAbstractStringBuilder_init_10 rfl) ?_
  refine x_bok.cons (xs_iload_n d_ZAbstractStringBuilder_init_11 rfl) ?_
  refine x_bok.cons (xs_newa (ty := .byte) d_ZAbstractStringBuilder_init_12 rfl rfl q2_59 (fun _ _ _ => rfl) x_zbyte) ?_
  refine x_bok.cons (xs_put d_ZAbstractStringBuilder_init_14 xc9 xw9 xt9 xn9 (by decide) q4_235 (Or.inl rfl) rfl rfl x_fitA) ?_
  refine x_bok.cons (xs_aload_n d_ZAbstractStringBuilder_init_17 rfl) ?_
  refine x_bok.cons (xs_iconst d_ZAbstractStringBuilder_init_18 (by decide)) ?_
  refine x_bok.cons (xs_put d_ZAbstractStringBuilder_init_19 xc9 xw9 xt9 xn9 (by decide) q4_236 (Or.inl rfl) rfl rfl x_fitB) ?_
  refine x_bok.cons (xs_goto d_ZAbstractStringBuilder_init_22 (by decide)) ?_
  refine x_bok.cons (xs_aload_n d_ZAbstractStringBuilder_init_25 rfl) ?_
  refine x_bok.cons (xs_iload_n d_ZAbstractStringBuilder_init_26 rfl) ?_
  refine x_bok.cons (xs_invS d_ZAbstractStringBuilder_init_27 sn_ZStringUTF16_newBytesFor is_ZStringUTF16_newBytesFor ⟨q4_228, q4_229, q1_34⟩ (by decide) (by decide) rfl) ?_
  refine x_bok.cons (xs_put d_ZAbstractStringBuilder_init_30 xc9 xw9 xt9 xn9 (by decide) q4_235 (Or.inl rfl) rfl rfl x_fitA) ?_
  refine x_bok.cons (xs_aload_n d_ZAbstractStringBuilder_init_33 rfl) ?_
  refine x_bok.cons (xs_iconst d_ZAbstractStringBuilder_init_34 (by decide)) ?_
  refine x_bok.cons (xs_put d_ZAbstractStringBuilder_init_35 xc9 xw9 xt9 xn9 (by decide) q4_236 (Or.inl rfl) rfl rfl x_fitB) ?_
  refine x_bok.cons (xs_vret d_ZAbstractStringBuilder_init_38 rfl) ?_
  exact x_bok.nil
set_option maxRecDepth 100000 in
theorem mn_ZAbstractStringBuilder_init : x_bmn b_ZAbstractStringBuilder_init := by
  unfold b_ZAbstractStringBuilder_init
  refine x_bmn.cons (xm_aload) ?_
  refine x_bmn.cons (xm_obj) ?_
  refine x_bmn.cons (xm_push) ?_
  refine x_bmn.cons (xm_if) ?_
  refine x_bmn.cons (xm_aload) ?_
  refine x_bmn.cons (xm_iload) ?_
  refine x_bmn.cons (xm_newa) ?_
  refine x_bmn.cons (xm_put) ?_
  refine x_bmn.cons (xm_aload) ?_
  refine x_bmn.cons (xm_push) ?_
  refine x_bmn.cons (xm_put) ?_
  refine x_bmn.cons (xm_goto) ?_
  refine x_bmn.cons (xm_aload) ?_
  refine x_bmn.cons (xm_iload) ?_
  refine x_bmn.cons (xm_invS ym_ZStringUTF16_newBytesFor) ?_
  refine x_bmn.cons (xm_put) ?_
  refine x_bmn.cons (xm_aload) ?_
  refine x_bmn.cons (xm_push) ?_
  refine x_bmn.cons (xm_put) ?_
  refine x_bmn.cons (xm_vret) ?_
  exact x_bmn.nil
theorem is_ZAbstractStringBuilder_init : x_Is y_ZAbstractStringBuilder_init m_ZAbstractStringBuilder_init := x_is_code q4_224
def Y_ZAbstractStringBuilder_init : XMeth := x_do 2 b_ZAbstractStringBuilder_init
theorem sn_ZAbstractStringBuilder_init : x_Snd y_ZAbstractStringBuilder_init m_ZAbstractStringBuilder_init Y_ZAbstractStringBuilder_init := x_snd_of (by decide) rfl rfl is_ZAbstractStringBuilder_init k_ZAbstractStringBuilder_init
theorem ym_ZAbstractStringBuilder_init : x_Ymn Y_ZAbstractStringBuilder_init := x_ymn_of mn_ZAbstractStringBuilder_init
/- java/lang/StringBuilder.<init>()V -/
abbrev c_ZStringBuilder_init : ByteArray := prog_27_method_1_code
def y_ZStringBuilder_init : MethodName := ⟨"java/lang/StringBuilder", "<init>", "()V"⟩
theorem d_ZStringBuilder_init_0 : decode c_ZStringBuilder_init 0 = .ok (.aload_n 0, 1) := by decide +kernel
theorem d_ZStringBuilder_init_1 : decode c_ZStringBuilder_init 1 = .ok (.bipush 16, 2) := by decide +kernel
theorem d_ZStringBuilder_init_3 : decode c_ZStringBuilder_init 3 = .ok (.invokespecial 1, 3) := by decide +kernel
theorem d_ZStringBuilder_init_6 : decode c_ZStringBuilder_init 6 = .ok (.return_, 1) := by decide +kernel
def m_ZStringBuilder_init : XM := ("java/lang/StringBuilder", c_ZStringBuilder_init, 1, none, "<init>", [], 3, 61)
def b_ZStringBuilder_init : XB := [(0, X_aload 0 1),
  (1, X_push (xv_i 16) 2),
  (3, X_invI Y_ZAbstractStringBuilder_init 1 []),
  (6, X_vret)]
set_option maxRecDepth 100000 in
theorem k_ZStringBuilder_init : x_bok m_ZStringBuilder_init b_ZStringBuilder_init := by
  unfold b_ZStringBuilder_init
  refine x_bok.cons (xs_aload_n d_ZStringBuilder_init_0 rfl) ?_
  refine x_bok.cons (xs_bipush d_ZStringBuilder_init_1 (by decide)) ?_
  refine x_bok.cons (xs_invI d_ZStringBuilder_init_3 sn_ZAbstractStringBuilder_init is_ZAbstractStringBuilder_init ⟨q4_222, q4_223, q4_224, q1_31⟩ (by decide) rfl (by decide) rfl) ?_
  refine x_bok.cons (xs_vret d_ZStringBuilder_init_6 rfl) ?_
  exact x_bok.nil
set_option maxRecDepth 100000 in
theorem mn_ZStringBuilder_init : x_bmn b_ZStringBuilder_init := by
  unfold b_ZStringBuilder_init
  refine x_bmn.cons (xm_aload) ?_
  refine x_bmn.cons (xm_push) ?_
  refine x_bmn.cons (xm_invI ym_ZAbstractStringBuilder_init) ?_
  refine x_bmn.cons (xm_vret) ?_
  exact x_bmn.nil
theorem is_ZStringBuilder_init : x_Is y_ZStringBuilder_init m_ZStringBuilder_init := x_is_code q4_221
def Y_ZStringBuilder_init : XMeth := x_do 1 b_ZStringBuilder_init
theorem sn_ZStringBuilder_init : x_Snd y_ZStringBuilder_init m_ZStringBuilder_init Y_ZStringBuilder_init := x_snd_of (by decide) rfl rfl is_ZStringBuilder_init k_ZStringBuilder_init
theorem ym_ZStringBuilder_init : x_Ymn Y_ZStringBuilder_init := x_ymn_of mn_ZStringBuilder_init
/- java/lang/StringBuilder.append(Ljava/lang/String;)Ljava/lang/StringBuilder; -/
abbrev c_ZStringBuilder_append : ByteArray := prog_27_method_7_code
def y_ZStringBuilder_append : MethodName := ⟨"java/lang/StringBuilder", "append", "(Ljava/lang/String;)Ljava/lang/StringBuilder;"⟩
theorem d_ZStringBuilder_append_0 : decode c_ZStringBuilder_append 0 = .ok (.aload_n 0, 1) := by decide +kernel
theorem d_ZStringBuilder_append_1 : decode c_ZStringBuilder_append 1 = .ok (.aload_n 1, 1) := by decide +kernel
theorem d_ZStringBuilder_append_2 : decode c_ZStringBuilder_append 2 = .ok (.invokespecial 29, 3) := by decide +kernel
theorem d_ZStringBuilder_append_5 : decode c_ZStringBuilder_append 5 = .ok (.pop, 1) := by decide +kernel
theorem d_ZStringBuilder_append_6 : decode c_ZStringBuilder_append 6 = .ok (.aload_n 0, 1) := by decide +kernel
theorem d_ZStringBuilder_append_7 : decode c_ZStringBuilder_append 7 = .ok (.areturn, 1) := by decide +kernel
def m_ZStringBuilder_append : XM := ("java/lang/StringBuilder", c_ZStringBuilder_append, 2, (some (.object "java/lang/StringBuilder")), "append", [], 0, 0)
def b_ZStringBuilder_append : XB := [(0, X_aload 0 1),
  (1, X_aload 1 1),
  (2, X_bad),
  (5, X_pop),
  (6, X_aload 0 1),
  (7, X_aret)]
set_option maxRecDepth 100000 in
theorem k_ZStringBuilder_append : x_bok m_ZStringBuilder_append b_ZStringBuilder_append := by
  unfold b_ZStringBuilder_append
  refine x_bok.cons (xs_aload_n d_ZStringBuilder_append_0 rfl) ?_
  refine x_bok.cons (xs_aload_n d_ZStringBuilder_append_1 rfl) ?_
  refine x_bok.cons (xs_bad) ?_
  refine x_bok.cons (xs_pop d_ZStringBuilder_append_5) ?_
  refine x_bok.cons (xs_aload_n d_ZStringBuilder_append_6 rfl) ?_
  refine x_bok.cons (xs_aret d_ZStringBuilder_append_7 rfl (by first | exact Or.inl ⟨_, rfl⟩ | exact Or.inr ⟨_, rfl⟩)) ?_
  exact x_bok.nil
set_option maxRecDepth 100000 in
theorem mn_ZStringBuilder_append : x_bmn b_ZStringBuilder_append := by
  unfold b_ZStringBuilder_append
  refine x_bmn.cons (xm_aload) ?_
  refine x_bmn.cons (xm_aload) ?_
  refine x_bmn.cons (xm_bad) ?_
  refine x_bmn.cons (xm_pop) ?_
  refine x_bmn.cons (xm_aload) ?_
  refine x_bmn.cons (xm_aret) ?_
  exact x_bmn.nil
theorem is_ZStringBuilder_append : x_Is y_ZStringBuilder_append m_ZStringBuilder_append := x_is_code q5_11
def Y_ZStringBuilder_append : XMeth := x_do 2 b_ZStringBuilder_append
theorem sn_ZStringBuilder_append : x_Snd y_ZStringBuilder_append m_ZStringBuilder_append Y_ZStringBuilder_append := x_snd_of (by decide) rfl rfl is_ZStringBuilder_append k_ZStringBuilder_append
theorem ym_ZStringBuilder_append : x_Ymn Y_ZStringBuilder_append := x_ymn_of mn_ZStringBuilder_append
/- java/lang/StringBuilder.append(C)Ljava/lang/StringBuilder; -/
abbrev c_ZStringBuilder_append_2 : ByteArray := prog_27_method_14_code
def y_ZStringBuilder_append_2 : MethodName := ⟨"java/lang/StringBuilder", "append", "(C)Ljava/lang/StringBuilder;"⟩
theorem d_ZStringBuilder_append_2_0 : decode c_ZStringBuilder_append_2 0 = .ok (.aload_n 0, 1) := by decide +kernel
theorem d_ZStringBuilder_append_2_1 : decode c_ZStringBuilder_append_2 1 = .ok (.iload_n 1, 1) := by decide +kernel
theorem d_ZStringBuilder_append_2_2 : decode c_ZStringBuilder_append_2 2 = .ok (.invokespecial 50, 3) := by decide +kernel
theorem d_ZStringBuilder_append_2_5 : decode c_ZStringBuilder_append_2 5 = .ok (.pop, 1) := by decide +kernel
theorem d_ZStringBuilder_append_2_6 : decode c_ZStringBuilder_append_2 6 = .ok (.aload_n 0, 1) := by decide +kernel
theorem d_ZStringBuilder_append_2_7 : decode c_ZStringBuilder_append_2 7 = .ok (.areturn, 1) := by decide +kernel
def m_ZStringBuilder_append_2 : XM := ("java/lang/StringBuilder", c_ZStringBuilder_append_2, 2, (some (.object "java/lang/StringBuilder")), "append", [], 0, 0)
def b_ZStringBuilder_append_2 : XB := [(0, X_aload 0 1),
  (1, X_iload 1 1),
  (2, X_bad),
  (5, X_pop),
  (6, X_aload 0 1),
  (7, X_aret)]
set_option maxRecDepth 100000 in
theorem k_ZStringBuilder_append_2 : x_bok m_ZStringBuilder_append_2 b_ZStringBuilder_append_2 := by
  unfold b_ZStringBuilder_append_2
  refine x_bok.cons (xs_aload_n d_ZStringBuilder_append_2_0 rfl) ?_
  refine x_bok.cons (xs_iload_n d_ZStringBuilder_append_2_1 rfl) ?_
  refine x_bok.cons (xs_bad) ?_
  refine x_bok.cons (xs_pop d_ZStringBuilder_append_2_5) ?_
  refine x_bok.cons (xs_aload_n d_ZStringBuilder_append_2_6 rfl) ?_
  refine x_bok.cons (xs_aret d_ZStringBuilder_append_2_7 rfl (by first | exact Or.inl ⟨_, rfl⟩ | exact Or.inr ⟨_, rfl⟩)) ?_
  exact x_bok.nil
set_option maxRecDepth 100000 in
theorem mn_ZStringBuilder_append_2 : x_bmn b_ZStringBuilder_append_2 := by
  unfold b_ZStringBuilder_append_2
  refine x_bmn.cons (xm_aload) ?_
  refine x_bmn.cons (xm_iload) ?_
  refine x_bmn.cons (xm_bad) ?_
  refine x_bmn.cons (xm_pop) ?_
  refine x_bmn.cons (xm_aload) ?_
  refine x_bmn.cons (xm_aret) ?_
  exact x_bmn.nil
theorem is_ZStringBuilder_append_2 : x_Is y_ZStringBuilder_append_2 m_ZStringBuilder_append_2 := x_is_code q5_120
def Y_ZStringBuilder_append_2 : XMeth := x_do 2 b_ZStringBuilder_append_2
theorem sn_ZStringBuilder_append_2 : x_Snd y_ZStringBuilder_append_2 m_ZStringBuilder_append_2 Y_ZStringBuilder_append_2 := x_snd_of (by decide) rfl rfl is_ZStringBuilder_append_2 k_ZStringBuilder_append_2
theorem ym_ZStringBuilder_append_2 : x_Ymn Y_ZStringBuilder_append_2 := x_ymn_of mn_ZStringBuilder_append_2
/- CashLink$Message.appendBitmap(Ljava/lang/StringBuilder;)V -/
abbrev c_G_appendBitmap : ByteArray := prog_7_method_3_code
def y_G_appendBitmap : MethodName := ⟨"CashLink$Message", "appendBitmap", "(Ljava/lang/StringBuilder;)V"⟩
theorem d_G_appendBitmap_0 : decode c_G_appendBitmap 0 = .ok (.aload_n 0, 1) := by decide +kernel
theorem d_G_appendBitmap_1 : decode c_G_appendBitmap 1 = .ok (.getfield 7, 3) := by decide +kernel
theorem d_G_appendBitmap_4 : decode c_G_appendBitmap 4 = .ok (.getfield 46, 3) := by decide +kernel
theorem d_G_appendBitmap_7 : decode c_G_appendBitmap 7 = .ok (.ifCond .eq 8, 3) := by decide +kernel
theorem d_G_appendBitmap_10 : decode c_G_appendBitmap 10 = .ok (.bipush 64, 2) := by decide +kernel
theorem d_G_appendBitmap_12 : decode c_G_appendBitmap 12 = .ok (.goto 4, 3) := by decide +kernel
theorem d_G_appendBitmap_15 : decode c_G_appendBitmap 15 = .ok (.iconst 0, 1) := by decide +kernel
theorem d_G_appendBitmap_16 : decode c_G_appendBitmap 16 = .ok (.istore_n 2, 1) := by decide +kernel
theorem d_G_appendBitmap_17 : decode c_G_appendBitmap 17 = .ok (.aload_n 0, 1) := by decide +kernel
theorem d_G_appendBitmap_18 : decode c_G_appendBitmap 18 = .ok (.getfield 7, 3) := by decide +kernel
theorem d_G_appendBitmap_21 : decode c_G_appendBitmap 21 = .ok (.getfield 54, 3) := by decide +kernel
theorem d_G_appendBitmap_24 : decode c_G_appendBitmap 24 = .ok (.ifCond .eq 8, 3) := by decide +kernel
theorem d_G_appendBitmap_27 : decode c_G_appendBitmap 27 = .ok (.bipush 16, 2) := by decide +kernel
theorem d_G_appendBitmap_29 : decode c_G_appendBitmap 29 = .ok (.goto 4, 3) := by decide +kernel
theorem d_G_appendBitmap_32 : decode c_G_appendBitmap 32 = .ok (.iconst 0, 1) := by decide +kernel
theorem d_G_appendBitmap_33 : decode c_G_appendBitmap 33 = .ok (.istore_n 3, 1) := by decide +kernel
theorem d_G_appendBitmap_34 : decode c_G_appendBitmap 34 = .ok (.bipush 32, 2) := by decide +kernel
theorem d_G_appendBitmap_36 : decode c_G_appendBitmap 36 = .ok (.istore 4, 2) := by decide +kernel
theorem d_G_appendBitmap_38 : decode c_G_appendBitmap 38 = .ok (.aload_n 0, 1) := by decide +kernel
theorem d_G_appendBitmap_39 : decode c_G_appendBitmap 39 = .ok (.getfield 7, 3) := by decide +kernel
theorem d_G_appendBitmap_42 : decode c_G_appendBitmap 42 = .ok (.getfield 57, 3) := by decide +kernel
theorem d_G_appendBitmap_45 : decode c_G_appendBitmap 45 = .ok (.ifCond .eq 7, 3) := by decide +kernel
theorem d_G_appendBitmap_48 : decode c_G_appendBitmap 48 = .ok (.iconst 2, 1) := by decide +kernel
theorem d_G_appendBitmap_49 : decode c_G_appendBitmap 49 = .ok (.goto 4, 3) := by decide +kernel
theorem d_G_appendBitmap_52 : decode c_G_appendBitmap 52 = .ok (.iconst 0, 1) := by decide +kernel
theorem d_G_appendBitmap_53 : decode c_G_appendBitmap 53 = .ok (.istore 5, 2) := by decide +kernel
theorem d_G_appendBitmap_55 : decode c_G_appendBitmap 55 = .ok (.sipush 128, 3) := by decide +kernel
theorem d_G_appendBitmap_58 : decode c_G_appendBitmap 58 = .ok (.istore 6, 2) := by decide +kernel
theorem d_G_appendBitmap_60 : decode c_G_appendBitmap 60 = .ok (.aload_n 1, 1) := by decide +kernel
theorem d_G_appendBitmap_61 : decode c_G_appendBitmap 61 = .ok (.iload_n 2, 1) := by decide +kernel
theorem d_G_appendBitmap_62 : decode c_G_appendBitmap 62 = .ok (.iload_n 3, 1) := by decide +kernel
theorem d_G_appendBitmap_63 : decode c_G_appendBitmap 63 = .ok (.ior, 1) := by decide +kernel
theorem d_G_appendBitmap_64 : decode c_G_appendBitmap 64 = .ok (.i2c, 1) := by decide +kernel
theorem d_G_appendBitmap_65 : decode c_G_appendBitmap 65 = .ok (.invokevirtual 60, 3) := by decide +kernel
theorem d_G_appendBitmap_68 : decode c_G_appendBitmap 68 = .ok (.pop, 1) := by decide +kernel
theorem d_G_appendBitmap_69 : decode c_G_appendBitmap 69 = .ok (.aload_n 1, 1) := by decide +kernel
theorem d_G_appendBitmap_70 : decode c_G_appendBitmap 70 = .ok (.iload 4, 2) := by decide +kernel
theorem d_G_appendBitmap_72 : decode c_G_appendBitmap 72 = .ok (.i2c, 1) := by decide +kernel
theorem d_G_appendBitmap_73 : decode c_G_appendBitmap 73 = .ok (.invokevirtual 60, 3) := by decide +kernel
theorem d_G_appendBitmap_76 : decode c_G_appendBitmap 76 = .ok (.pop, 1) := by decide +kernel
theorem d_G_appendBitmap_77 : decode c_G_appendBitmap 77 = .ok (.aload_n 1, 1) := by decide +kernel
theorem d_G_appendBitmap_78 : decode c_G_appendBitmap 78 = .ok (.iconst 0, 1) := by decide +kernel
theorem d_G_appendBitmap_79 : decode c_G_appendBitmap 79 = .ok (.invokevirtual 60, 3) := by decide +kernel
theorem d_G_appendBitmap_82 : decode c_G_appendBitmap 82 = .ok (.pop, 1) := by decide +kernel
theorem d_G_appendBitmap_83 : decode c_G_appendBitmap 83 = .ok (.aload_n 1, 1) := by decide +kernel
theorem d_G_appendBitmap_84 : decode c_G_appendBitmap 84 = .ok (.iconst 0, 1) := by decide +kernel
theorem d_G_appendBitmap_85 : decode c_G_appendBitmap 85 = .ok (.invokevirtual 60, 3) := by decide +kernel
theorem d_G_appendBitmap_88 : decode c_G_appendBitmap 88 = .ok (.pop, 1) := by decide +kernel
theorem d_G_appendBitmap_89 : decode c_G_appendBitmap 89 = .ok (.aload_n 1, 1) := by decide +kernel
theorem d_G_appendBitmap_90 : decode c_G_appendBitmap 90 = .ok (.iload 5, 2) := by decide +kernel
theorem d_G_appendBitmap_92 : decode c_G_appendBitmap 92 = .ok (.i2c, 1) := by decide +kernel
theorem d_G_appendBitmap_93 : decode c_G_appendBitmap 93 = .ok (.invokevirtual 60, 3) := by decide +kernel
theorem d_G_appendBitmap_96 : decode c_G_appendBitmap 96 = .ok (.pop, 1) := by decide +kernel
theorem d_G_appendBitmap_97 : decode c_G_appendBitmap 97 = .ok (.aload_n 1, 1) := by decide +kernel
theorem d_G_appendBitmap_98 : decode c_G_appendBitmap 98 = .ok (.iload 6, 2) := by decide +kernel
theorem d_G_appendBitmap_100 : decode c_G_appendBitmap 100 = .ok (.i2c, 1) := by decide +kernel
theorem d_G_appendBitmap_101 : decode c_G_appendBitmap 101 = .ok (.invokevirtual 60, 3) := by decide +kernel
theorem d_G_appendBitmap_104 : decode c_G_appendBitmap 104 = .ok (.pop, 1) := by decide +kernel
theorem d_G_appendBitmap_105 : decode c_G_appendBitmap 105 = .ok (.aload_n 1, 1) := by decide +kernel
theorem d_G_appendBitmap_106 : decode c_G_appendBitmap 106 = .ok (.iconst 0, 1) := by decide +kernel
theorem d_G_appendBitmap_107 : decode c_G_appendBitmap 107 = .ok (.invokevirtual 60, 3) := by decide +kernel
theorem d_G_appendBitmap_110 : decode c_G_appendBitmap 110 = .ok (.pop, 1) := by decide +kernel
theorem d_G_appendBitmap_111 : decode c_G_appendBitmap 111 = .ok (.aload_n 1, 1) := by decide +kernel
theorem d_G_appendBitmap_112 : decode c_G_appendBitmap 112 = .ok (.iconst 0, 1) := by decide +kernel
theorem d_G_appendBitmap_113 : decode c_G_appendBitmap 113 = .ok (.invokevirtual 60, 3) := by decide +kernel
theorem d_G_appendBitmap_116 : decode c_G_appendBitmap 116 = .ok (.pop, 1) := by decide +kernel
theorem d_G_appendBitmap_117 : decode c_G_appendBitmap 117 = .ok (.return_, 1) := by decide +kernel
def m_G_appendBitmap : XM := ("CashLink$Message", c_G_appendBitmap, 7, none, "appendBitmap", [], 1, 21)
def b_G_appendBitmap : XB := [(0, X_aload 0 1),
  (1, X_get 7 0),
  (4, X_getE 21 2),
  (7, X_if (fun x => x = 0) 15),
  (10, X_push (xv_i 64) 2),
  (12, X_goto 16),
  (15, X_push (xv_i 0) 1),
  (16, X_istore 2 1),
  (17, X_aload 0 1),
  (18, X_get 7 0),
  (21, X_getE 21 1),
  (24, X_if (fun x => x = 0) 32),
  (27, X_push (xv_i 16) 2),
  (29, X_goto 33),
  (32, X_push (xv_i 0) 1),
  (33, X_istore 3 1),
  (34, X_push (xv_i 32) 2),
  (36, X_istore 4 2),
  (38, X_aload 0 1),
  (39, X_get 7 0),
  (42, X_getE 21 3),
  (45, X_if (fun x => x = 0) 52),
  (48, X_push (xv_i 2) 1),
  (49, X_goto 53),
  (52, X_push (xv_i 0) 1),
  (53, X_istore 5 2),
  (55, X_push (xv_i 128) 3),
  (58, X_istore 6 2),
  (60, X_aload 1 1),
  (61, X_iload 2 1),
  (62, X_iload 3 1),
  (63, X_bin (fun x y => x ||| y)),
  (64, X_un (fun x => (x.toUInt32 % 65536).toInt32)),
  (65, X_invV 9 Y_ZStringBuilder_append_2 1 []),
  (68, X_pop),
  (69, X_aload 1 1),
  (70, X_iload 4 2),
  (72, X_un (fun x => (x.toUInt32 % 65536).toInt32)),
  (73, X_invV 9 Y_ZStringBuilder_append_2 1 []),
  (76, X_pop),
  (77, X_aload 1 1),
  (78, X_push (xv_i 0) 1),
  (79, X_invV 9 Y_ZStringBuilder_append_2 1 []),
  (82, X_pop),
  (83, X_aload 1 1),
  (84, X_push (xv_i 0) 1),
  (85, X_invV 9 Y_ZStringBuilder_append_2 1 []),
  (88, X_pop),
  (89, X_aload 1 1),
  (90, X_iload 5 2),
  (92, X_un (fun x => (x.toUInt32 % 65536).toInt32)),
  (93, X_invV 9 Y_ZStringBuilder_append_2 1 []),
  (96, X_pop),
  (97, X_aload 1 1),
  (98, X_iload 6 2),
  (100, X_un (fun x => (x.toUInt32 % 65536).toInt32)),
  (101, X_invV 9 Y_ZStringBuilder_append_2 1 []),
  (104, X_pop),
  (105, X_aload 1 1),
  (106, X_push (xv_i 0) 1),
  (107, X_invV 9 Y_ZStringBuilder_append_2 1 []),
  (110, X_pop),
  (111, X_aload 1 1),
  (112, X_push (xv_i 0) 1),
  (113, X_invV 9 Y_ZStringBuilder_append_2 1 []),
  (116, X_pop),
  (117, X_vret)]
set_option maxRecDepth 100000 in
theorem k_G_appendBitmap : x_bok m_G_appendBitmap b_G_appendBitmap := by
  unfold b_G_appendBitmap
  refine x_bok.cons (xs_aload_n d_G_appendBitmap_0 rfl) ?_
  refine x_bok.cons (xs_get d_G_appendBitmap_1 xc7 xw7 (by decide) q3_34 (Or.inl rfl)) ?_
  refine x_bok.cons (xs_getE d_G_appendBitmap_4 rfl q7_26 (Or.inl rfl)) ?_
  refine x_bok.cons (xs_if_eq d_G_appendBitmap_7 (by decide)) ?_
  refine x_bok.cons (xs_bipush d_G_appendBitmap_10 (by decide)) ?_
  refine x_bok.cons (xs_goto d_G_appendBitmap_12 (by decide)) ?_
  refine x_bok.cons (xs_iconst d_G_appendBitmap_15 (by decide)) ?_
  refine x_bok.cons (xs_istore_n d_G_appendBitmap_16 rfl (by decide)) ?_
  refine x_bok.cons (xs_aload_n d_G_appendBitmap_17 rfl) ?_
  refine x_bok.cons (xs_get d_G_appendBitmap_18 xc7 xw7 (by decide) q3_34 (Or.inl rfl)) ?_
  refine x_bok.cons (xs_getE d_G_appendBitmap_21 rfl q7_27 (Or.inl rfl)) ?_
  refine x_bok.cons (xs_if_eq d_G_appendBitmap_24 (by decide)) ?_
  refine x_bok.cons (xs_bipush d_G_appendBitmap_27 (by decide)) ?_
  refine x_bok.cons (xs_goto d_G_appendBitmap_29 (by decide)) ?_
  refine x_bok.cons (xs_iconst d_G_appendBitmap_32 (by decide)) ?_
  refine x_bok.cons (xs_istore_n d_G_appendBitmap_33 rfl (by decide)) ?_
  refine x_bok.cons (xs_bipush d_G_appendBitmap_34 (by decide)) ?_
  refine x_bok.cons (xs_istore d_G_appendBitmap_36 (by decide)) ?_
  refine x_bok.cons (xs_aload_n d_G_appendBitmap_38 rfl) ?_
  refine x_bok.cons (xs_get d_G_appendBitmap_39 xc7 xw7 (by decide) q3_34 (Or.inl rfl)) ?_
  refine x_bok.cons (xs_getE d_G_appendBitmap_42 rfl q7_28 (Or.inl rfl)) ?_
  refine x_bok.cons (xs_if_eq d_G_appendBitmap_45 (by decide)) ?_
  refine x_bok.cons (xs_iconst d_G_appendBitmap_48 (by decide)) ?_
  refine x_bok.cons (xs_goto d_G_appendBitmap_49 (by decide)) ?_
  refine x_bok.cons (xs_iconst d_G_appendBitmap_52 (by decide)) ?_
  refine x_bok.cons (xs_istore d_G_appendBitmap_53 (by decide)) ?_
  refine x_bok.cons (xs_sipush d_G_appendBitmap_55 (by decide)) ?_
  refine x_bok.cons (xs_istore d_G_appendBitmap_58 (by decide)) ?_
  refine x_bok.cons (xs_aload_n d_G_appendBitmap_60 rfl) ?_
  refine x_bok.cons (xs_iload_n d_G_appendBitmap_61 rfl) ?_
  refine x_bok.cons (xs_iload_n d_G_appendBitmap_62 rfl) ?_
  refine x_bok.cons (xs_ior d_G_appendBitmap_63) ?_
  refine x_bok.cons (xs_i2c d_G_appendBitmap_64) ?_
  refine x_bok.cons (xs_invV d_G_appendBitmap_65 xc9 sn_ZStringBuilder_append_2 is_ZStringBuilder_append_2 ⟨q5_117, q5_118, q5_119, q1_32⟩ (by decide) (by decide) rfl) ?_
  refine x_bok.cons (xs_pop d_G_appendBitmap_68) ?_
  refine x_bok.cons (xs_aload_n d_G_appendBitmap_69 rfl) ?_
  refine x_bok.cons (xs_iload d_G_appendBitmap_70) ?_
  refine x_bok.cons (xs_i2c d_G_appendBitmap_72) ?_
  refine x_bok.cons (xs_invV d_G_appendBitmap_73 xc9 sn_ZStringBuilder_append_2 is_ZStringBuilder_append_2 ⟨q5_117, q5_118, q5_119, q1_32⟩ (by decide) (by decide) rfl) ?_
  refine x_bok.cons (xs_pop d_G_appendBitmap_76) ?_
  refine x_bok.cons (xs_aload_n d_G_appendBitmap_77 rfl) ?_
  refine x_bok.cons (xs_iconst d_G_appendBitmap_78 (by decide)) ?_
  refine x_bok.cons (xs_invV d_G_appendBitmap_79 xc9 sn_ZStringBuilder_append_2 is_ZStringBuilder_append_2 ⟨q5_117, q5_118, q5_119, q1_32⟩ (by decide) (by decide) rfl) ?_
  refine x_bok.cons (xs_pop d_G_appendBitmap_82) ?_
  refine x_bok.cons (xs_aload_n d_G_appendBitmap_83 rfl) ?_
  refine x_bok.cons (xs_iconst d_G_appendBitmap_84 (by decide)) ?_
  refine x_bok.cons (xs_invV d_G_appendBitmap_85 xc9 sn_ZStringBuilder_append_2 is_ZStringBuilder_append_2 ⟨q5_117, q5_118, q5_119, q1_32⟩ (by decide) (by decide) rfl) ?_
  refine x_bok.cons (xs_pop d_G_appendBitmap_88) ?_
  refine x_bok.cons (xs_aload_n d_G_appendBitmap_89 rfl) ?_
  refine x_bok.cons (xs_iload d_G_appendBitmap_90) ?_
  refine x_bok.cons (xs_i2c d_G_appendBitmap_92) ?_
  refine x_bok.cons (xs_invV d_G_appendBitmap_93 xc9 sn_ZStringBuilder_append_2 is_ZStringBuilder_append_2 ⟨q5_117, q5_118, q5_119, q1_32⟩ (by decide) (by decide) rfl) ?_
  refine x_bok.cons (xs_pop d_G_appendBitmap_96) ?_
  refine x_bok.cons (xs_aload_n d_G_appendBitmap_97 rfl) ?_
  refine x_bok.cons (xs_iload d_G_appendBitmap_98) ?_
  refine x_bok.cons (xs_i2c d_G_appendBitmap_100) ?_
  refine x_bok.cons (xs_invV d_G_appendBitmap_101 xc9 sn_ZStringBuilder_append_2 is_ZStringBuilder_append_2 ⟨q5_117, q5_118, q5_119, q1_32⟩ (by decide) (by decide) rfl) ?_
  refine x_bok.cons (xs_pop d_G_appendBitmap_104) ?_
  refine x_bok.cons (xs_aload_n d_G_appendBitmap_105 rfl) ?_
  refine x_bok.cons (xs_iconst d_G_appendBitmap_106 (by decide)) ?_
  refine x_bok.cons (xs_invV d_G_appendBitmap_107 xc9 sn_ZStringBuilder_append_2 is_ZStringBuilder_append_2 ⟨q5_117, q5_118, q5_119, q1_32⟩ (by decide) (by decide) rfl) ?_
  refine x_bok.cons (xs_pop d_G_appendBitmap_110) ?_
  refine x_bok.cons (xs_aload_n d_G_appendBitmap_111 rfl) ?_
  refine x_bok.cons (xs_iconst d_G_appendBitmap_112 (by decide)) ?_
  refine x_bok.cons (xs_invV d_G_appendBitmap_113 xc9 sn_ZStringBuilder_append_2 is_ZStringBuilder_append_2 ⟨q5_117, q5_118, q5_119, q1_32⟩ (by decide) (by decide) rfl) ?_
  refine x_bok.cons (xs_pop d_G_appendBitmap_116) ?_
  refine x_bok.cons (xs_vret d_G_appendBitmap_117 rfl) ?_
  exact x_bok.nil
set_option maxRecDepth 100000 in
theorem mn_G_appendBitmap : x_bmn b_G_appendBitmap := by
  unfold b_G_appendBitmap
  refine x_bmn.cons (xm_aload) ?_
  refine x_bmn.cons (xm_get) ?_
  refine x_bmn.cons (xm_getE) ?_
  refine x_bmn.cons (xm_if) ?_
  refine x_bmn.cons (xm_push) ?_
  refine x_bmn.cons (xm_goto) ?_
  refine x_bmn.cons (xm_push) ?_
  refine x_bmn.cons (xm_istore) ?_
  refine x_bmn.cons (xm_aload) ?_
  refine x_bmn.cons (xm_get) ?_
  refine x_bmn.cons (xm_getE) ?_
  refine x_bmn.cons (xm_if) ?_
  refine x_bmn.cons (xm_push) ?_
  refine x_bmn.cons (xm_goto) ?_
  refine x_bmn.cons (xm_push) ?_
  refine x_bmn.cons (xm_istore) ?_
  refine x_bmn.cons (xm_push) ?_
  refine x_bmn.cons (xm_istore) ?_
  refine x_bmn.cons (xm_aload) ?_
  refine x_bmn.cons (xm_get) ?_
  refine x_bmn.cons (xm_getE) ?_
  refine x_bmn.cons (xm_if) ?_
  refine x_bmn.cons (xm_push) ?_
  refine x_bmn.cons (xm_goto) ?_
  refine x_bmn.cons (xm_push) ?_
  refine x_bmn.cons (xm_istore) ?_
  refine x_bmn.cons (xm_push) ?_
  refine x_bmn.cons (xm_istore) ?_
  refine x_bmn.cons (xm_aload) ?_
  refine x_bmn.cons (xm_iload) ?_
  refine x_bmn.cons (xm_iload) ?_
  refine x_bmn.cons (xm_bin) ?_
  refine x_bmn.cons (xm_un) ?_
  refine x_bmn.cons (xm_invV ym_ZStringBuilder_append_2) ?_
  refine x_bmn.cons (xm_pop) ?_
  refine x_bmn.cons (xm_aload) ?_
  refine x_bmn.cons (xm_iload) ?_
  refine x_bmn.cons (xm_un) ?_
  refine x_bmn.cons (xm_invV ym_ZStringBuilder_append_2) ?_
  refine x_bmn.cons (xm_pop) ?_
  refine x_bmn.cons (xm_aload) ?_
  refine x_bmn.cons (xm_push) ?_
  refine x_bmn.cons (xm_invV ym_ZStringBuilder_append_2) ?_
  refine x_bmn.cons (xm_pop) ?_
  refine x_bmn.cons (xm_aload) ?_
  refine x_bmn.cons (xm_push) ?_
  refine x_bmn.cons (xm_invV ym_ZStringBuilder_append_2) ?_
  refine x_bmn.cons (xm_pop) ?_
  refine x_bmn.cons (xm_aload) ?_
  refine x_bmn.cons (xm_iload) ?_
  refine x_bmn.cons (xm_un) ?_
  refine x_bmn.cons (xm_invV ym_ZStringBuilder_append_2) ?_
  refine x_bmn.cons (xm_pop) ?_
  refine x_bmn.cons (xm_aload) ?_
  refine x_bmn.cons (xm_iload) ?_
  refine x_bmn.cons (xm_un) ?_
  refine x_bmn.cons (xm_invV ym_ZStringBuilder_append_2) ?_
  refine x_bmn.cons (xm_pop) ?_
  refine x_bmn.cons (xm_aload) ?_
  refine x_bmn.cons (xm_push) ?_
  refine x_bmn.cons (xm_invV ym_ZStringBuilder_append_2) ?_
  refine x_bmn.cons (xm_pop) ?_
  refine x_bmn.cons (xm_aload) ?_
  refine x_bmn.cons (xm_push) ?_
  refine x_bmn.cons (xm_invV ym_ZStringBuilder_append_2) ?_
  refine x_bmn.cons (xm_pop) ?_
  refine x_bmn.cons (xm_vret) ?_
  exact x_bmn.nil
theorem is_G_appendBitmap : x_Is y_G_appendBitmap m_G_appendBitmap := x_is_code q5_116
def Y_G_appendBitmap : XMeth := x_do 7 b_G_appendBitmap
theorem sn_G_appendBitmap : x_Snd y_G_appendBitmap m_G_appendBitmap Y_G_appendBitmap := x_snd_of (by decide) rfl rfl is_G_appendBitmap k_G_appendBitmap
theorem ym_G_appendBitmap : x_Ymn Y_G_appendBitmap := x_ymn_of mn_G_appendBitmap
