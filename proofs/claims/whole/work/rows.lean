section
-- ===== PART A: goes FIRST, ahead of the names: the tables' words, and 'selects' of the private methods out of them =====
/-- a private method of a class that the tables say can be made, by its rows of tables_1 -/
def lw_okq (q : MethodName × Nat) : Prop := (q.1.cls ≠ "java/lang/invoke/MethodHandle" ∧ q.1.cls ≠ "java/lang/invoke/VarHandle") ∧ Cond.instantiable q.1.cls q.2 ∈ tables_1 ∧ Cond.privateMethod q.1 ∈ tables_1 ∧ Cond.instanceMethod q.1 ∈ tables_1
theorem lw_p0 : lw_okq (⟨"CashLink", "machineAt", "(I)LCashLink$Machine;"⟩, 4) := ⟨⟨by decide +kernel, by decide +kernel⟩, List.mem_of_getElem? (i := 37) (by decide +kernel), List.mem_of_getElem? (i := 224) (by decide +kernel), List.mem_of_getElem? (i := 225) (by decide +kernel)⟩
theorem lw_p1 : lw_okq (⟨"java/lang/Throwable", "fillInStackTrace", "(I)Ljava/lang/Throwable;"⟩, 6) := ⟨⟨by decide +kernel, by decide +kernel⟩, List.mem_of_getElem? (i := 271) (by decide +kernel), List.mem_of_getElem? (i := 269) (by decide +kernel), List.mem_of_getElem? (i := 270) (by decide +kernel)⟩
theorem lw_p2 : lw_okq (⟨"java/util/ArrayList", "add", "(Ljava/lang/Object;[Ljava/lang/Object;I)V"⟩, 3) := ⟨⟨by decide +kernel, by decide +kernel⟩, List.mem_of_getElem? (i := 53) (by decide +kernel), List.mem_of_getElem? (i := 427) (by decide +kernel), List.mem_of_getElem? (i := 428) (by decide +kernel)⟩
theorem lw_p3 : lw_okq (⟨"java/util/ArrayList", "grow", "()[Ljava/lang/Object;"⟩, 3) := ⟨⟨by decide +kernel, by decide +kernel⟩, List.mem_of_getElem? (i := 53) (by decide +kernel), List.mem_of_getElem? (i := 431) (by decide +kernel), List.mem_of_getElem? (i := 432) (by decide +kernel)⟩
theorem lw_p4 : lw_okq (⟨"java/util/ArrayList", "grow", "(I)[Ljava/lang/Object;"⟩, 3) := ⟨⟨by decide +kernel, by decide +kernel⟩, List.mem_of_getElem? (i := 53) (by decide +kernel), List.mem_of_getElem? (i := 435) (by decide +kernel), List.mem_of_getElem? (i := 436) (by decide +kernel)⟩
theorem lw_p5 : lw_okq (⟨"CashLink$Machine", "voidRest", "(I)V"⟩, 11) := ⟨⟨by decide +kernel, by decide +kernel⟩, List.mem_of_getElem? (i := 131) (by decide +kernel), List.mem_of_getElem? (i := 548) (by decide +kernel), List.mem_of_getElem? (i := 549) (by decide +kernel)⟩
theorem lw_p6 : lw_okq (⟨"CashLink", "messageAt", "(I)LCashLink$Message;"⟩, 4) := ⟨⟨by decide +kernel, by decide +kernel⟩, List.mem_of_getElem? (i := 37) (by decide +kernel), List.mem_of_getElem? (i := 635) (by decide +kernel), List.mem_of_getElem? (i := 636) (by decide +kernel)⟩
theorem lw_p7 : lw_okq (⟨"CashLink$Bank", "answerRequest", "(LCashLink$Message;)V"⟩, 5) := ⟨⟨by decide +kernel, by decide +kernel⟩, List.mem_of_getElem? (i := 83) (by decide +kernel), List.mem_of_getElem? (i := 675) (by decide +kernel), List.mem_of_getElem? (i := 676) (by decide +kernel)⟩
theorem lw_p8 : lw_okq (⟨"CashLink$Bank", "find", "(ILCashLink$Message;)LCashLink$Entry;"⟩, 5) := ⟨⟨by decide +kernel, by decide +kernel⟩, List.mem_of_getElem? (i := 83) (by decide +kernel), List.mem_of_getElem? (i := 679) (by decide +kernel), List.mem_of_getElem? (i := 680) (by decide +kernel)⟩
theorem lw_p9 : lw_okq (⟨"CashLink$Bank", "decide", "(LCashLink$Message;)I"⟩, 5) := ⟨⟨by decide +kernel, by decide +kernel⟩, List.mem_of_getElem? (i := 83) (by decide +kernel), List.mem_of_getElem? (i := 709) (by decide +kernel), List.mem_of_getElem? (i := 710) (by decide +kernel)⟩
theorem lw_p10 : lw_okq (⟨"CashLink$Bank", "reply", "(LCashLink$Type;LCashLink$Message;I)Z"⟩, 5) := ⟨⟨by decide +kernel, by decide +kernel⟩, List.mem_of_getElem? (i := 83) (by decide +kernel), List.mem_of_getElem? (i := 736) (by decide +kernel), List.mem_of_getElem? (i := 737) (by decide +kernel)⟩
theorem lw_p11 : lw_okq (⟨"CashLink$Bank", "answerReversal", "(LCashLink$Message;)V"⟩, 5) := ⟨⟨by decide +kernel, by decide +kernel⟩, List.mem_of_getElem? (i := 83) (by decide +kernel), List.mem_of_getElem? (i := 742) (by decide +kernel), List.mem_of_getElem? (i := 743) (by decide +kernel)⟩
theorem lw_p12 : lw_okq (⟨"CashLink$Bank", "givenBack", "(LCashLink$Message;)LCashLink$Entry;"⟩, 5) := ⟨⟨by decide +kernel, by decide +kernel⟩, List.mem_of_getElem? (i := 83) (by decide +kernel), List.mem_of_getElem? (i := 746) (by decide +kernel), List.mem_of_getElem? (i := 747) (by decide +kernel)⟩
theorem lw_p13 : lw_okq (⟨"CashLink$Bank", "answerTotals", "(LCashLink$Message;)V"⟩, 5) := ⟨⟨by decide +kernel, by decide +kernel⟩, List.mem_of_getElem? (i := 83) (by decide +kernel), List.mem_of_getElem? (i := 752) (by decide +kernel), List.mem_of_getElem? (i := 753) (by decide +kernel)⟩
theorem lw_p14 : lw_okq (⟨"CashLink$Bank", "totalOf", "(II)I"⟩, 5) := ⟨⟨by decide +kernel, by decide +kernel⟩, List.mem_of_getElem? (i := 83) (by decide +kernel), List.mem_of_getElem? (i := 756) (by decide +kernel), List.mem_of_getElem? (i := 757) (by decide +kernel)⟩
theorem lw_p15 : lw_okq (⟨"CashLink$Machine", "endVoid", "(I)V"⟩, 11) := ⟨⟨by decide +kernel, by decide +kernel⟩, List.mem_of_getElem? (i := 131) (by decide +kernel), List.mem_of_getElem? (i := 775) (by decide +kernel), List.mem_of_getElem? (i := 776) (by decide +kernel)⟩
def lw_privs_1 : List (MethodName × Nat) := [(⟨"CashLink", "machineAt", "(I)LCashLink$Machine;"⟩, 4), (⟨"java/lang/Throwable", "fillInStackTrace", "(I)Ljava/lang/Throwable;"⟩, 6), (⟨"java/util/ArrayList", "add", "(Ljava/lang/Object;[Ljava/lang/Object;I)V"⟩, 3), (⟨"java/util/ArrayList", "grow", "()[Ljava/lang/Object;"⟩, 3), (⟨"java/util/ArrayList", "grow", "(I)[Ljava/lang/Object;"⟩, 3), (⟨"CashLink$Machine", "voidRest", "(I)V"⟩, 11), (⟨"CashLink", "messageAt", "(I)LCashLink$Message;"⟩, 4), (⟨"CashLink$Bank", "answerRequest", "(LCashLink$Message;)V"⟩, 5), (⟨"CashLink$Bank", "find", "(ILCashLink$Message;)LCashLink$Entry;"⟩, 5), (⟨"CashLink$Bank", "decide", "(LCashLink$Message;)I"⟩, 5), (⟨"CashLink$Bank", "reply", "(LCashLink$Type;LCashLink$Message;I)Z"⟩, 5), (⟨"CashLink$Bank", "answerReversal", "(LCashLink$Message;)V"⟩, 5), (⟨"CashLink$Bank", "givenBack", "(LCashLink$Message;)LCashLink$Entry;"⟩, 5), (⟨"CashLink$Bank", "answerTotals", "(LCashLink$Message;)V"⟩, 5), (⟨"CashLink$Bank", "totalOf", "(II)I"⟩, 5), (⟨"CashLink$Machine", "endVoid", "(I)V"⟩, 11)]
theorem lw_r1 : ∀ q ∈ lw_privs_1, lw_okq q := List.forall_mem_cons.mpr ⟨lw_p0, List.forall_mem_cons.mpr ⟨lw_p1, List.forall_mem_cons.mpr ⟨lw_p2, List.forall_mem_cons.mpr ⟨lw_p3, List.forall_mem_cons.mpr ⟨lw_p4, List.forall_mem_cons.mpr ⟨lw_p5, List.forall_mem_cons.mpr ⟨lw_p6, List.forall_mem_cons.mpr ⟨lw_p7, List.forall_mem_cons.mpr ⟨lw_p8, List.forall_mem_cons.mpr ⟨lw_p9, List.forall_mem_cons.mpr ⟨lw_p10, List.forall_mem_cons.mpr ⟨lw_p11, List.forall_mem_cons.mpr ⟨lw_p12, List.forall_mem_cons.mpr ⟨lw_p13, List.forall_mem_cons.mpr ⟨lw_p14, List.forall_mem_cons.mpr ⟨lw_p15, fun _ h => absurd h List.not_mem_nil⟩⟩⟩⟩⟩⟩⟩⟩⟩⟩⟩⟩⟩⟩⟩⟩
theorem lw_p16 : lw_okq (⟨"CashLink$Machine", "isVoid", "(I)Z"⟩, 11) := ⟨⟨by decide +kernel, by decide +kernel⟩, List.mem_of_getElem? (i := 131) (by decide +kernel), List.mem_of_getElem? (i := 779) (by decide +kernel), List.mem_of_getElem? (i := 780) (by decide +kernel)⟩
theorem lw_p17 : lw_okq (⟨"CashLink$Machine", "forgetVoid", "(I)V"⟩, 11) := ⟨⟨by decide +kernel, by decide +kernel⟩, List.mem_of_getElem? (i := 131) (by decide +kernel), List.mem_of_getElem? (i := 783) (by decide +kernel), List.mem_of_getElem? (i := 784) (by decide +kernel)⟩
theorem lw_p18 : lw_okq (⟨"java/util/ArrayList", "fastRemove", "([Ljava/lang/Object;I)V"⟩, 3) := ⟨⟨by decide +kernel, by decide +kernel⟩, List.mem_of_getElem? (i := 53) (by decide +kernel), List.mem_of_getElem? (i := 791) (by decide +kernel), List.mem_of_getElem? (i := 792) (by decide +kernel)⟩
theorem lw_p19 : lw_okq (⟨"CashLink$Machine", "isAwaited", "(I)Z"⟩, 11) := ⟨⟨by decide +kernel, by decide +kernel⟩, List.mem_of_getElem? (i := 131) (by decide +kernel), List.mem_of_getElem? (i := 797) (by decide +kernel), List.mem_of_getElem? (i := 798) (by decide +kernel)⟩
theorem lw_p20 : lw_okq (⟨"CashLink$Machine", "payOut", "()V"⟩, 11) := ⟨⟨by decide +kernel, by decide +kernel⟩, List.mem_of_getElem? (i := 131) (by decide +kernel), List.mem_of_getElem? (i := 805) (by decide +kernel), List.mem_of_getElem? (i := 806) (by decide +kernel)⟩
theorem lw_p21 : lw_okq (⟨"CashLink$Machine", "endPayment", "()V"⟩, 11) := ⟨⟨by decide +kernel, by decide +kernel⟩, List.mem_of_getElem? (i := 131) (by decide +kernel), List.mem_of_getElem? (i := 818) (by decide +kernel), List.mem_of_getElem? (i := 819) (by decide +kernel)⟩
theorem lw_p22 : lw_okq (⟨"CashLink$Machine", "recall", "()V"⟩, 11) := ⟨⟨by decide +kernel, by decide +kernel⟩, List.mem_of_getElem? (i := 131) (by decide +kernel), List.mem_of_getElem? (i := 879) (by decide +kernel), List.mem_of_getElem? (i := 880) (by decide +kernel)⟩
theorem lw_p23 : lw_okq (⟨"CashLink$Machine", "finishLast", "()V"⟩, 11) := ⟨⟨by decide +kernel, by decide +kernel⟩, List.mem_of_getElem? (i := 131) (by decide +kernel), List.mem_of_getElem? (i := 887) (by decide +kernel), List.mem_of_getElem? (i := 888) (by decide +kernel)⟩
theorem lw_p24 : lw_okq (⟨"CashLink$Machine", "has", "(I)Z"⟩, 11) := ⟨⟨by decide +kernel, by decide +kernel⟩, List.mem_of_getElem? (i := 131) (by decide +kernel), List.mem_of_getElem? (i := 891) (by decide +kernel), List.mem_of_getElem? (i := 892) (by decide +kernel)⟩
theorem lw_p25 : lw_okq (⟨"CashLink$Message", "appendBitmap", "(Ljava/lang/StringBuilder;)V"⟩, 6) := ⟨⟨by decide +kernel, by decide +kernel⟩, List.mem_of_getElem? (i := 509) (by decide +kernel), List.mem_of_getElem? (i := 1074) (by decide +kernel), List.mem_of_getElem? (i := 1075) (by decide +kernel)⟩
theorem lw_p26 : lw_okq (⟨"CashLink", "allBalances", "()I"⟩, 4) := ⟨⟨by decide +kernel, by decide +kernel⟩, List.mem_of_getElem? (i := 37) (by decide +kernel), List.mem_of_getElem? (i := 1146) (by decide +kernel), List.mem_of_getElem? (i := 1147) (by decide +kernel)⟩
theorem lw_p27 : lw_okq (⟨"CashLink", "accountsOff", "(Z)I"⟩, 4) := ⟨⟨by decide +kernel, by decide +kernel⟩, List.mem_of_getElem? (i := 37) (by decide +kernel), List.mem_of_getElem? (i := 1150) (by decide +kernel), List.mem_of_getElem? (i := 1151) (by decide +kernel)⟩
theorem lw_p28 : lw_okq (⟨"CashLink", "isQuiet", "()Z"⟩, 4) := ⟨⟨by decide +kernel, by decide +kernel⟩, List.mem_of_getElem? (i := 37) (by decide +kernel), List.mem_of_getElem? (i := 1154) (by decide +kernel), List.mem_of_getElem? (i := 1155) (by decide +kernel)⟩
theorem lw_p29 : lw_okq (⟨"CashLinkModel", "mixed", "(II)Z"⟩, 31) := ⟨⟨by decide +kernel, by decide +kernel⟩, List.mem_of_getElem? (i := 1160) (by decide +kernel), List.mem_of_getElem? (i := 1280) (by decide +kernel), List.mem_of_getElem? (i := 1281) (by decide +kernel)⟩
theorem lw_p30 : lw_okq (⟨"CashLinkModel", "voids", "(I)I"⟩, 31) := ⟨⟨by decide +kernel, by decide +kernel⟩, List.mem_of_getElem? (i := 1160) (by decide +kernel), List.mem_of_getElem? (i := 1285) (by decide +kernel), List.mem_of_getElem? (i := 1286) (by decide +kernel)⟩
theorem lw_p31 : lw_okq (⟨"CashLinkModel", "isVoid", "(II)Z"⟩, 31) := ⟨⟨by decide +kernel, by decide +kernel⟩, List.mem_of_getElem? (i := 1160) (by decide +kernel), List.mem_of_getElem? (i := 1292) (by decide +kernel), List.mem_of_getElem? (i := 1293) (by decide +kernel)⟩
def lw_privs_2 : List (MethodName × Nat) := [(⟨"CashLink$Machine", "isVoid", "(I)Z"⟩, 11), (⟨"CashLink$Machine", "forgetVoid", "(I)V"⟩, 11), (⟨"java/util/ArrayList", "fastRemove", "([Ljava/lang/Object;I)V"⟩, 3), (⟨"CashLink$Machine", "isAwaited", "(I)Z"⟩, 11), (⟨"CashLink$Machine", "payOut", "()V"⟩, 11), (⟨"CashLink$Machine", "endPayment", "()V"⟩, 11), (⟨"CashLink$Machine", "recall", "()V"⟩, 11), (⟨"CashLink$Machine", "finishLast", "()V"⟩, 11), (⟨"CashLink$Machine", "has", "(I)Z"⟩, 11), (⟨"CashLink$Message", "appendBitmap", "(Ljava/lang/StringBuilder;)V"⟩, 6), (⟨"CashLink", "allBalances", "()I"⟩, 4), (⟨"CashLink", "accountsOff", "(Z)I"⟩, 4), (⟨"CashLink", "isQuiet", "()Z"⟩, 4), (⟨"CashLinkModel", "mixed", "(II)Z"⟩, 31), (⟨"CashLinkModel", "voids", "(I)I"⟩, 31), (⟨"CashLinkModel", "isVoid", "(II)Z"⟩, 31)]
theorem lw_r2 : ∀ q ∈ lw_privs_2, lw_okq q := List.forall_mem_cons.mpr ⟨lw_p16, List.forall_mem_cons.mpr ⟨lw_p17, List.forall_mem_cons.mpr ⟨lw_p18, List.forall_mem_cons.mpr ⟨lw_p19, List.forall_mem_cons.mpr ⟨lw_p20, List.forall_mem_cons.mpr ⟨lw_p21, List.forall_mem_cons.mpr ⟨lw_p22, List.forall_mem_cons.mpr ⟨lw_p23, List.forall_mem_cons.mpr ⟨lw_p24, List.forall_mem_cons.mpr ⟨lw_p25, List.forall_mem_cons.mpr ⟨lw_p26, List.forall_mem_cons.mpr ⟨lw_p27, List.forall_mem_cons.mpr ⟨lw_p28, List.forall_mem_cons.mpr ⟨lw_p29, List.forall_mem_cons.mpr ⟨lw_p30, List.forall_mem_cons.mpr ⟨lw_p31, fun _ h => absurd h List.not_mem_nil⟩⟩⟩⟩⟩⟩⟩⟩⟩⟩⟩⟩⟩⟩⟩⟩
theorem lw_p32 : lw_okq (⟨"CashLinkModel", "has", "(III)Z"⟩, 31) := ⟨⟨by decide +kernel, by decide +kernel⟩, List.mem_of_getElem? (i := 1160) (by decide +kernel), List.mem_of_getElem? (i := 1296) (by decide +kernel), List.mem_of_getElem? (i := 1297) (by decide +kernel)⟩
theorem lw_p33 : lw_okq (⟨"CashLinkModel", "find", "(IIII)I"⟩, 31) := ⟨⟨by decide +kernel, by decide +kernel⟩, List.mem_of_getElem? (i := 1160) (by decide +kernel), List.mem_of_getElem? (i := 1300) (by decide +kernel), List.mem_of_getElem? (i := 1301) (by decide +kernel)⟩
theorem lw_p34 : lw_okq (⟨"CashLinkModel", "lastTrace", "(I)I"⟩, 31) := ⟨⟨by decide +kernel, by decide +kernel⟩, List.mem_of_getElem? (i := 1160) (by decide +kernel), List.mem_of_getElem? (i := 1304) (by decide +kernel), List.mem_of_getElem? (i := 1305) (by decide +kernel)⟩
theorem lw_p35 : lw_okq (⟨"CashLinkModel", "record", "(IIIIIII)V"⟩, 31) := ⟨⟨by decide +kernel, by decide +kernel⟩, List.mem_of_getElem? (i := 1160) (by decide +kernel), List.mem_of_getElem? (i := 1308) (by decide +kernel), List.mem_of_getElem? (i := 1309) (by decide +kernel)⟩
theorem lw_p36 : lw_okq (⟨"CashLinkModel", "sent", "(IIIIII)V"⟩, 31) := ⟨⟨by decide +kernel, by decide +kernel⟩, List.mem_of_getElem? (i := 1160) (by decide +kernel), List.mem_of_getElem? (i := 1322) (by decide +kernel), List.mem_of_getElem? (i := 1323) (by decide +kernel)⟩
theorem lw_p37 : lw_okq (⟨"CashLinkModel", "late", "(I)V"⟩, 31) := ⟨⟨by decide +kernel, by decide +kernel⟩, List.mem_of_getElem? (i := 1160) (by decide +kernel), List.mem_of_getElem? (i := 1330) (by decide +kernel), List.mem_of_getElem? (i := 1331) (by decide +kernel)⟩
theorem lw_p38 : lw_okq (⟨"CashLinkModel", "amountOf", "(II)I"⟩, 31) := ⟨⟨by decide +kernel, by decide +kernel⟩, List.mem_of_getElem? (i := 1160) (by decide +kernel), List.mem_of_getElem? (i := 1334) (by decide +kernel), List.mem_of_getElem? (i := 1335) (by decide +kernel)⟩
theorem lw_p39 : lw_okq (⟨"CashLinkModel", "reverse", "(III)V"⟩, 31) := ⟨⟨by decide +kernel, by decide +kernel⟩, List.mem_of_getElem? (i := 1160) (by decide +kernel), List.mem_of_getElem? (i := 1338) (by decide +kernel), List.mem_of_getElem? (i := 1339) (by decide +kernel)⟩
theorem lw_p40 : lw_okq (⟨"CashLinkModel", "bank", "(I)V"⟩, 31) := ⟨⟨by decide +kernel, by decide +kernel⟩, List.mem_of_getElem? (i := 1160) (by decide +kernel), List.mem_of_getElem? (i := 1354) (by decide +kernel), List.mem_of_getElem? (i := 1355) (by decide +kernel)⟩
theorem lw_p41 : lw_okq (⟨"CashLinkModel", "worth", "(I)I"⟩, 31) := ⟨⟨by decide +kernel, by decide +kernel⟩, List.mem_of_getElem? (i := 1160) (by decide +kernel), List.mem_of_getElem? (i := 1358) (by decide +kernel), List.mem_of_getElem? (i := 1359) (by decide +kernel)⟩
theorem lw_p42 : lw_okq (⟨"CashLinkModel", "answered", "(II)V"⟩, 31) := ⟨⟨by decide +kernel, by decide +kernel⟩, List.mem_of_getElem? (i := 1160) (by decide +kernel), List.mem_of_getElem? (i := 1362) (by decide +kernel), List.mem_of_getElem? (i := 1363) (by decide +kernel)⟩
theorem lw_p43 : lw_okq (⟨"CashLinkModel", "dispense", "(II)V"⟩, 31) := ⟨⟨by decide +kernel, by decide +kernel⟩, List.mem_of_getElem? (i := 1160) (by decide +kernel), List.mem_of_getElem? (i := 1366) (by decide +kernel), List.mem_of_getElem? (i := 1367) (by decide +kernel)⟩
theorem lw_p44 : lw_okq (⟨"CashLinkModel", "paid", "(III)V"⟩, 31) := ⟨⟨by decide +kernel, by decide +kernel⟩, List.mem_of_getElem? (i := 1160) (by decide +kernel), List.mem_of_getElem? (i := 1372) (by decide +kernel), List.mem_of_getElem? (i := 1373) (by decide +kernel)⟩
theorem lw_p45 : lw_okq (⟨"CashLinkModel", "wakes", "(I)V"⟩, 31) := ⟨⟨by decide +kernel, by decide +kernel⟩, List.mem_of_getElem? (i := 1160) (by decide +kernel), List.mem_of_getElem? (i := 1392) (by decide +kernel), List.mem_of_getElem? (i := 1393) (by decide +kernel)⟩
theorem lw_p46 : lw_okq (⟨"CashLinkModel", "lay", "(I)V"⟩, 31) := ⟨⟨by decide +kernel, by decide +kernel⟩, List.mem_of_getElem? (i := 1160) (by decide +kernel), List.mem_of_getElem? (i := 1412) (by decide +kernel), List.mem_of_getElem? (i := 1413) (by decide +kernel)⟩
theorem lw_p47 : lw_okq (⟨"CashLinkModel", "digits", "(II)V"⟩, 31) := ⟨⟨by decide +kernel, by decide +kernel⟩, List.mem_of_getElem? (i := 1160) (by decide +kernel), List.mem_of_getElem? (i := 1416) (by decide +kernel), List.mem_of_getElem? (i := 1417) (by decide +kernel)⟩
def lw_privs_3 : List (MethodName × Nat) := [(⟨"CashLinkModel", "has", "(III)Z"⟩, 31), (⟨"CashLinkModel", "find", "(IIII)I"⟩, 31), (⟨"CashLinkModel", "lastTrace", "(I)I"⟩, 31), (⟨"CashLinkModel", "record", "(IIIIIII)V"⟩, 31), (⟨"CashLinkModel", "sent", "(IIIIII)V"⟩, 31), (⟨"CashLinkModel", "late", "(I)V"⟩, 31), (⟨"CashLinkModel", "amountOf", "(II)I"⟩, 31), (⟨"CashLinkModel", "reverse", "(III)V"⟩, 31), (⟨"CashLinkModel", "bank", "(I)V"⟩, 31), (⟨"CashLinkModel", "worth", "(I)I"⟩, 31), (⟨"CashLinkModel", "answered", "(II)V"⟩, 31), (⟨"CashLinkModel", "dispense", "(II)V"⟩, 31), (⟨"CashLinkModel", "paid", "(III)V"⟩, 31), (⟨"CashLinkModel", "wakes", "(I)V"⟩, 31), (⟨"CashLinkModel", "lay", "(I)V"⟩, 31), (⟨"CashLinkModel", "digits", "(II)V"⟩, 31)]
theorem lw_r3 : ∀ q ∈ lw_privs_3, lw_okq q := List.forall_mem_cons.mpr ⟨lw_p32, List.forall_mem_cons.mpr ⟨lw_p33, List.forall_mem_cons.mpr ⟨lw_p34, List.forall_mem_cons.mpr ⟨lw_p35, List.forall_mem_cons.mpr ⟨lw_p36, List.forall_mem_cons.mpr ⟨lw_p37, List.forall_mem_cons.mpr ⟨lw_p38, List.forall_mem_cons.mpr ⟨lw_p39, List.forall_mem_cons.mpr ⟨lw_p40, List.forall_mem_cons.mpr ⟨lw_p41, List.forall_mem_cons.mpr ⟨lw_p42, List.forall_mem_cons.mpr ⟨lw_p43, List.forall_mem_cons.mpr ⟨lw_p44, List.forall_mem_cons.mpr ⟨lw_p45, List.forall_mem_cons.mpr ⟨lw_p46, List.forall_mem_cons.mpr ⟨lw_p47, fun _ h => absurd h List.not_mem_nil⟩⟩⟩⟩⟩⟩⟩⟩⟩⟩⟩⟩⟩⟩⟩⟩
theorem lw_p48 : lw_okq (⟨"CashLinkModel", "isField", "(II)Z"⟩, 31) := ⟨⟨by decide +kernel, by decide +kernel⟩, List.mem_of_getElem? (i := 1160) (by decide +kernel), List.mem_of_getElem? (i := 1420) (by decide +kernel), List.mem_of_getElem? (i := 1421) (by decide +kernel)⟩
def lw_privs_4 : List (MethodName × Nat) := [(⟨"CashLinkModel", "isField", "(II)Z"⟩, 31)]
theorem lw_r4 : ∀ q ∈ lw_privs_4, lw_okq q := List.forall_mem_cons.mpr ⟨lw_p48, fun _ h => absurd h List.not_mem_nil⟩
def lw_privs : List (MethodName × Nat) := lw_privs_1 ++ (lw_privs_2 ++ (lw_privs_3 ++ (lw_privs_4)))
def lw_tbl : List Cond := k2_sels lw_privs ++ tables_1
theorem lw_privs_ok : ∀ q ∈ lw_privs, lw_okq q := by
  show ∀ q ∈ lw_privs_1 ++ (lw_privs_2 ++ (lw_privs_3 ++ (lw_privs_4))), lw_okq q
  exact List.forall_mem_append.mpr ⟨lw_r1, List.forall_mem_append.mpr ⟨lw_r2, List.forall_mem_append.mpr ⟨lw_r3, lw_r4⟩⟩⟩

/-! ===== BEGIN words of one list among another's, by their places ===== -/
theorem goodIn_r {big : List Cond} (ws : List Cond) (ps : List Nat) (hp : ws = ps.filterMap (fun i => big[i]?)) (h : ws.all goodWord = true) : GoodIn big ws := by
  intro w hw
  have h1 := List.all_eq_true.mp h w hw
  rw [hp] at hw
  obtain ⟨i, -, hi⟩ := List.mem_filterMap.mp hw
  have hm : w ∈ big := by first | exact List.mem_of_getElem? hi | exact List.getElem?_mem hi
  exact ⟨hm, good_of_word h1⟩
theorem goodIn_app {big a b : List Cond} (ha : GoodIn big a) (hb : GoodIn big b) : GoodIn big (a ++ b) := fun w h => (List.mem_append.mp h).elim (ha w) (hb w)
theorem goodIn_ca {big a b : List Cond} {c : Cond} (ha : GoodIn big (c :: a)) (hb : GoodIn big b) : GoodIn big (c :: (a ++ b)) := fun w h => (List.mem_cons.mp h).elim (fun e => ha w (List.mem_cons.mpr (Or.inl e))) (fun h => (List.mem_append.mp h).elim (fun h => ha w (List.mem_cons.mpr (Or.inr h))) (hb w))
theorem goodIn_sub {big ws : List Cond} (hm : ∀ w ∈ ws, w ∈ big) (h : ws.all goodWord = true) : GoodIn big ws := fun w hw => ⟨hm w hw, good_of_word (List.all_eq_true.mp h w hw)⟩
/-! ===== END ===== -/

/-! ===== BEGIN exceptions that leave a method, and their catching by the caller (launches without stack traces) ===== -/
section VXA
/-! The laws vx_back, vx_callV, vx_callS, vx_callSW, vx_throw0, vx_throwS follow proofs of the library, with one case more: JvmDerived/Free/Laws.lean (Back.of_free), Shelf42/LK1.lean (callV, callS), Shelf/KitTraced.lean (throwNew0V, throwNewS). -/
/-- where a method has thrown q: the class by its name, the cell, what was written, the world -/
def vx_T (XC : String → State → State → Prop) (st : State) (q : Addr) (t : State) (mc ms : Nat) (free : Addr → Prop) : Prop :=
  ∃ (E : String) (ce : Cell) (L : List Loc), XC E st t ∧ t.heap[q]? = some ce ∧ ce.vm = .none ∧ st.vm.findClass E = some ce.cls ∧ st.WarmedH t.vm ∧ st.sameButNew ({ t with vm := st.vm } : State) L mc ms ∧ ∀ z ∈ L, free z.base
def vx_Q (Qc : Array Value → State → Outcome → State → Prop) (XC : String → State → State → Prop) (mc ms : Nat) (free : Addr → Prop) : Array Value → State → Outcome → State → Prop := fun a st o t =>
  (Qc a st o t ∧ ∃ L, FrameEnd st o t L mc ms ∧ ∀ q ∈ L, free q.base) ∨ ∃ q, o = .threw q ∧ vx_T XC st q t mc ms free
/-- a callee that returns or throws -/
def vx_Met (l : Launch) (y : MethodName) (ws : List Cond) (rm : Room) (Pc : Array Value → State → Prop) (Qc : Array Value → State → Outcome → State → Prop) (XC : String → State → State → Prop) (mc ms : Nat) (free : Addr → Prop) : Prop :=
  MetFree l y (headSpec ws rm) Pc (fun _ _ _ _ _ => True) (vx_Q Qc XC mc ms free)
def vx_Post (XC : String → State → State → Prop) (mc ms : Nat) (free : Addr → Prop) : Pt → Array Value → Addr → Pt → Prop := fun A a q B =>
  ∃ (g : JFrame) (mk : MethodId) (t : State) (L : List Loc) (E : String) (ce : Cell), B.U.heap = t.heap ∧ B.U.vm = t.vm ∧ XC E (A.U.calling g mk a) t ∧ t.heap[q]? = some ce ∧ ce.vm = .none ∧ A.U.vm.findClass E = some ce.cls ∧ B.locs = A.locs ++ L ∧ (∀ z ∈ L, free z.base) ∧ B.cells = A.cells + mc ∧ B.slots = A.slots + ms
def vx_Back (l : Launch) (R : Room) (p : Program) (e : Env) (below : List Frame) (s : State) (sargs : Array Value) (y : MethodName) (len W9 : Nat)
    (Pre : Pt → Array Value → Prop) (Post : Pt → Array Value → Option Value → Pt → Prop) (PostX : Pt → Array Value → Addr → Pt → Prop) : Prop :=
  ∀ (m : MethodId) (meth : Method) (c : Code) (A : Pt) (g : JFrame) (ig : Instr) (mk : MethodId) (a : Array Value),
    Stand p l e R s m sargs below meth c A.U A.locs A.cells A.slots → g.method = m → g.locals.size = c.maxLocals → decode c.code g.pc = .ok (ig, len) →
    2 * g.monitorRoom + (g.stack.map fun v => v.category).sum ≤ W9 → A.U.methodNamed? y = some mk → Pre A a →
    (∃ (v : Option Value) (B : Pt), Stand p l e R s m sargs below meth c B.U B.locs B.cells B.slots ∧ Post A a v B ∧
      Steps p.tables e below (doInvoke e (A.U.setTop g) [] mk a).1 (B.U.setTop { g with pc := g.pc + len, stack := v.toList ++ g.stack })) ∨
    (∃ (q : Addr) (B : Pt), Stand p l e R s m sargs below meth c B.U B.locs B.cells B.slots ∧ PostX A a q B ∧
      Steps p.tables e below (doInvoke e (A.U.setTop g) [] mk a).1 ((B.U.setTop g).pushFrame (.throwing q)))
section Payer
variable {l : Launch} {R : Room} {p : Program} {e : Env} {below : List Frame} {s : State} {sargs : Array Value} {y : MethodName} {len W9 : Nat}
theorem vx_back {ws : List Cond} {rm : Room} {Pc : Array Value → State → Prop} {Qc : Array Value → State → Outcome → State → Prop} {XC : String → State → State → Prop} {mc ms : Nat} {free : Addr → Prop} {bytes : ByteArray} {maxL : Nat} {ret : Option FieldType}
    (hM : vx_Met l y ws rm Pc Qc XC mc ms free) (hblind : FrameBlind Pc) (hrc : rm.cells = mc) (hrs : rm.slots = ms)
    (hframes : rm.frames + 1 ≤ R.frames) (hlocals : W9 + (maxL + 11) + rm.locals ≤ R.locals)
    (hws : ∀ w ∈ ws, ∀ a' U, s.WarmedH U.vm → w.before a' U = true) (hcode : Cond.code y bytes maxL ret ∈ ws) (hinit : ∀ a' U, s.WarmedH U.vm → (Cond.initialized y.cls).before a' U = true) :
    vx_Back l R p e below s sargs y len W9 (PreOf R mc ms Pc) (PostOf Qc mc ms free) (vx_Post XC mc ms free) := by
  intro m meth c A g ig mk a X hg hsize hdg hW hn hp
  have h1 : (headSpec ws rm).pre.before a A.U = true := atoms_intro fun w hw => hws w hw _ _ X.warmed
  have h2 : (Cond.code y bytes maxL ret).before a A.U = true := hws _ hcode _ _ X.warmed
  have h3 : (Cond.initialized y.cls).before a A.U = true := hinit _ _ X.warmed
  have h4 : A.cells + (headSpec ws rm).room.cells ≤ R.cells := by rw [show (headSpec ws rm).room.cells = mc from hrc]; exact hp.1
  have h5 : A.slots + (headSpec ws rm).room.slots ≤ R.slots := by rw [show (headSpec ws rm).room.slots = ms from hrs]; exact hp.2.1
  have hPc : Pc a (A.U.calling g mk a) := hblind _ _ _ _ hp.2.2
  obtain ⟨U, Ls, c0, s0⟩ := A
  dsimp only [Pt.U, Pt.locs, Pt.cells, Pt.slots] at h1 h2 h3 h4 h5 X hn hPc ⊢
  obtain ⟨methY, cY, hmY, hcY, -, hlY, -, -, -, -⟩ := Cond.code_spec hn h2
  obtain ⟨kY, hkY, -⟩ := className_of_methodNamed hn
  have hinitY : kY.init = .initialized := Cond.initialized_spec (findClass_of_methodNamed hn) hkY h3
  have h : At U g.method c below := by rw [hg]; exact X.here
  have hlocals9 : W9 + (maxL + 11) + (headSpec ws rm).room.locals ≤ R.locals := hlocals
  have happ : (headSpec ws rm).appliesLoose y e.platform (U.calling g mk a) = true :=
    Spec.appliesLoose_calling (g := g) h hdg hn hkY hinitY
      (X.room_calling (g := g) (R' := (headSpec ws rm).room) hsize hmY hcY hframes (by rw [hlY]; omega) h4 h5) h1
  obtain ⟨mid, hmid⟩ := h.above
  have hfr : (U.setTop g).frames = (.java g :: mid) ++ below := by rw [State.frames_setTop' g h.top, hmid]; rfl
  obtain ⟨o, s₂, hsteps, -, hend, hq⟩ := Steps.callFree hM p X.admits X.cas X.clock (acts := []) hfr happ hPc trivial
  have hq' : vx_Q Qc XC mc ms free a (U.calling g mk a) o s₂ := hq
  rw [State.frames_setTop' g h.top] at hend
  obtain ⟨g₀, hg0⟩ := Option.isSome_iff_exists.mp h.top
  obtain ⟨r, hr⟩ := State.topJava?_eq_some.mp hg0
  have hr' : (({ U with heap := s₂.heap, slotsUsed := s₂.slotsUsed } : State).setVm s₂.vm).frames = .java g₀ :: r := hr
  rcases hq' with ⟨hqc, L, hfe, hL⟩ | ⟨q, rfl, E, ce, L, hx, hce, hcv, hcl, hW₂, hsm, hL⟩
  · obtain ⟨⟨v, rfl⟩, hW₂, e2, q2, q3, q4, q5, q6⟩ := id hfe
    have e3 : s₂ = ({ (U.calling g mk a).setFrames s₂.frames with heap := s₂.heap, slotsUsed := s₂.slotsUsed } : State).setVm s₂.vm := by
      have : s₂ = ({ s₂ with vm := (U.calling g mk a).vm } : State).setVm s₂.vm := rfl
      rw [e2] at this
      exact this
    obtain ⟨c₂, i₂, len₂, hc₂, hd₂, hf₂⟩ := hend
    have hW' : U.WarmedH s₂.vm := hW₂
    have hcc : c₂ = c := by
      have h1 : s₂.code? g.method = U.code? g.method := by
        rw [State.code?_eq, State.code?_eq, hW'.alike.method?]
      exact Option.some.inj (hc₂.symm.trans (h1.trans h.code))
    subst hcc
    have hlen : len₂ = len := by rw [hdg] at hd₂; cases hd₂; rfl
    subst hlen
    have hs₂ : s₂ = (({ U with heap := s₂.heap, slotsUsed := s₂.slotsUsed } : State).setVm s₂.vm).setTop { g with pc := g.pc + len₂, stack := v.toList ++ g.stack } := by
      refine e3.trans ?_
      rw [hf₂, State.calling_eq h.top, State.setFrames_setFrames, State.setTop_of_frames _ hr', hr]
      rfl
    have hsame : U.sameButNew ({ U with heap := s₂.heap, slotsUsed := s₂.slotsUsed } : State) L mc ms := by
      refine ⟨?_, q2, q3, q4, q5, q6⟩
      obtain ⟨t, ht, -⟩ := State.frames_cons hr
      show ({ U with heap := s₂.heap, slotsUsed := s₂.slotsUsed } : State) = { U.setFrames U.frames with heap := s₂.heap, slotsUsed := s₂.slotsUsed }
      rw [State.setFrames_self ht]
    subst hg
    refine Or.inl ⟨v, ⟨(({ U with heap := s₂.heap, slotsUsed := s₂.slotsUsed } : State).setVm s₂.vm), Ls ++ L, c0 + mc, s0 + ms⟩,
      ⟨X.admits, X.cas, X.clock, X.frames, X.room, X.hears, X.method, X.code, (X.here.setHeapUsed s₂.heap s₂.slotsUsed).setVm hW'.alike, X.tail, State.WarmedH.trans X.warmed hW', X.limits, X.bytes, X.same.trans (hsame.setVm s.vm)⟩,
      ⟨g, mk, s₂, L, rfl, rfl, hqc, rfl, hL, rfl, rfl⟩, ?_⟩
    show Steps p.tables e below _ ((({ U with heap := s₂.heap, slotsUsed := s₂.slotsUsed } : State).setVm s₂.vm).setTop { g with pc := g.pc + len₂, stack := v.toList ++ g.stack })
    rw [← hs₂]
    exact hsteps
  · obtain ⟨e2, q2, q3, q4, q5, q6⟩ := id hsm
    have e3 : s₂ = ({ (U.calling g mk a).setFrames s₂.frames with heap := s₂.heap, slotsUsed := s₂.slotsUsed } : State).setVm s₂.vm := by
      have : s₂ = ({ s₂ with vm := (U.calling g mk a).vm } : State).setVm s₂.vm := rfl
      rw [e2] at this
      exact this
    have hf₂ : s₂.frames = .throwing q :: .java g :: U.frames.tail := hend
    have hW' : U.WarmedH s₂.vm := hW₂
    have hs₂ : s₂ = ((({ U with heap := s₂.heap, slotsUsed := s₂.slotsUsed } : State).setVm s₂.vm).setTop g).pushFrame (.throwing q) := by
      refine e3.trans ?_
      rw [hf₂, State.calling_eq h.top, State.setFrames_setFrames, State.pushFrame, State.frames_setTop _ hr', State.setTop_of_frames _ hr', State.setFrames_setFrames, hr]
      rfl
    have hsame : U.sameButNew ({ U with heap := s₂.heap, slotsUsed := s₂.slotsUsed } : State) L mc ms := by
      refine ⟨?_, q2, q3, q4, q5, q6⟩
      obtain ⟨t, ht, -⟩ := State.frames_cons hr
      show ({ U with heap := s₂.heap, slotsUsed := s₂.slotsUsed } : State) = { U.setFrames U.frames with heap := s₂.heap, slotsUsed := s₂.slotsUsed }
      rw [State.setFrames_self ht]
    subst hg
    refine Or.inr ⟨q, ⟨(({ U with heap := s₂.heap, slotsUsed := s₂.slotsUsed } : State).setVm s₂.vm), Ls ++ L, c0 + mc, s0 + ms⟩,
      ⟨X.admits, X.cas, X.clock, X.frames, X.room, X.hears, X.method, X.code, (X.here.setHeapUsed s₂.heap s₂.slotsUsed).setVm hW'.alike, X.tail, State.WarmedH.trans X.warmed hW', X.limits, X.bytes, X.same.trans (hsame.setVm s.vm)⟩,
      ⟨g, mk, s₂, L, E, ce, rfl, rfl, hx, hce, hcv, hcl, rfl, hL, rfl, rfl⟩, ?_⟩
    show Steps p.tables e below _ (((({ U with heap := s₂.heap, slotsUsed := s₂.slotsUsed } : State).setVm s₂.vm).setTop g).pushFrame (.throwing q))
    rw [← hs₂]
    exact hsteps
end Payer
section Calls
variable {p : Program} {l : Launch} {e : Env} {R : Room} {s : State} {m : MethodId} {args : Array Value} {below : List Frame} {meth : Method} {c : Code} {T : State} {locs : List Loc} {cells slots : Nat}
theorem vx_callV (X : Stand p l e R s m args below meth c T locs cells slots) (hexec : p.tables.exec = Jvm.exec) {own C : String} {index : Nat} {y : MethodName} {bytes : ByteArray} {maxL : Nat} {ret : Option FieldType}
    (hown : s.vm.findClass own = some m.cls) (hlink : (Cond.methodLink own index y).before args s = true) (hinst : (Cond.instanceMethod y).before args s = true) (hsel : (Cond.selects C y y).before args s = true)
    (hcode : (Cond.code y bytes maxL ret).before args s = true) (hy : y.cls ≠ "java/lang/invoke/MethodHandle" ∧ y.cls ≠ "java/lang/invoke/VarHandle")
    {W9 : Nat} {Pre : Pt → Array Value → Prop} {Post : Pt → Array Value → Option Value → Pt → Prop} {PostX : Pt → Array Value → Addr → Pt → Prop} (hK : vx_Back l R p e below s args y 3 W9 Pre Post PostX)
    {b : Addr} {cellB : Cell} (hcell : T.heap[b]? = some cellB) (hobj : cellB.vm.isStatics = false) (hcls : s.vm.findClass C = some cellB.cls)
    {g : JFrame} (hg : g.method = m) (hsize : g.locals.size = c.maxLocals) {argsL rest : List Value} (hlen : ∀ sig, parseMethodDescriptor y.desc = some sig → argsL.length = sig.parameters.length)
    (hstack : g.stack = argsL.reverse ++ .ref b :: rest) (hW : 2 * g.monitorRoom + (rest.map fun v => v.category).sum ≤ W9) (hdg : decode c.code g.pc = .ok (.invokevirtual index, 3))
    (hpre : ∀ vm₁, s.WarmedH vm₁ → Pre ⟨T.setVm vm₁, locs, cells, slots⟩ (Value.ref b :: argsL).toArray) :
    (∃ (v : Option Value) (vm₁ : Vm) (B : Pt), s.WarmedH vm₁ ∧ Stand p l e R s m args below meth c B.U B.locs B.cells B.slots ∧ Post ⟨T.setVm vm₁, locs, cells, slots⟩ (Value.ref b :: argsL).toArray v B ∧
      ∀ target, Steps p.tables e below (B.U.setTop { g with pc := g.pc + 3, stack := v.toList ++ rest }) target → Steps p.tables e below (T.setTop g) target) ∨
    (∃ (q : Addr) (vm₁ : Vm) (B : Pt), s.WarmedH vm₁ ∧ Stand p l e R s m args below meth c B.U B.locs B.cells B.slots ∧ PostX ⟨T.setVm vm₁, locs, cells, slots⟩ (Value.ref b :: argsL).toArray q B ∧
      Steps p.tables e below (T.setTop g) ((B.U.setTop { g with stack := rest }).pushFrame (.throwing q))) := by
  obtain ⟨mk, methM, hnamed, hmethM, hstM, habM⟩ := Cond.instanceMethod_spec hinst
  obtain ⟨methM', cM, hmethM', -, -, -, -, -, -, hsigM⟩ := Cond.code_spec hnamed hcode
  cases hmethM.symm.trans hmethM'
  obtain ⟨c2, r2, m2, q1, q2, q3, q4, kP, hkP, hkPi⟩ := Cond.selects_spec hsel
  cases hcls.symm.trans q1
  cases (State.methodFound?_of_named hnamed hy).symm.trans q2
  cases hnamed.symm.trans q3
  have hselP : selectMethod e.platform s.vm cellB.cls mk = .method mk := by rw [Launch.admits_selectMethod X.admits]; exact q4
  obtain ⟨vm₁, X₁, hstep₁⟩ := X.invokevirtual hexec hown hlink hnamed hmethM hstM hkP hkPi hy (a := b) (cell := cellB) hcell
    (fun z h => by rw [h] at hobj; cases hobj) hselP hmethM habM hkP hkPi (g := g) hg (argsL := argsL) (rest := rest) (hlen _ hsigM) hstack hdg
  rcases hK m meth c ⟨T.setVm vm₁, locs, cells, slots⟩ { g with stack := rest } (.invokevirtual index) mk (Value.ref b :: argsL).toArray X₁ hg hsize hdg hW (X₁.named hnamed) (hpre vm₁ X₁.warmed) with ⟨v, B, X', hpost, hsteps⟩ | ⟨q, B, X', hpost, hsteps⟩
  · exact Or.inl ⟨v, vm₁, B, X₁.warmed, X', hpost, fun target h => hstep₁ _ fun acts => by rw [doInvoke_state]; exact hsteps.trans h⟩
  · exact Or.inr ⟨q, vm₁, B, X₁.warmed, X', hpost, hstep₁ _ fun acts => by rw [doInvoke_state]; exact hsteps⟩
theorem vx_callS (X : Stand p l e R s m args below meth c T locs cells slots) (hexec : p.tables.exec = Jvm.exec) {own : String} {index : Nat} {y : MethodName} {bytes : ByteArray} {maxL : Nat} {ret : Option FieldType}
    (hown : s.vm.findClass own = some m.cls) (hlink : (Cond.methodLink own index y).before args s = true) (hstat : (Cond.static y).before args s = true) (hinit : (Cond.initialized y.cls).before args s = true)
    (hcode : (Cond.code y bytes maxL ret).before args s = true) (hy : y.cls ≠ "java/lang/invoke/MethodHandle" ∧ y.cls ≠ "java/lang/invoke/VarHandle")
    {W9 : Nat} {Pre : Pt → Array Value → Prop} {Post : Pt → Array Value → Option Value → Pt → Prop} {PostX : Pt → Array Value → Addr → Pt → Prop} (hK : vx_Back l R p e below s args y 3 W9 Pre Post PostX)
    {g : JFrame} (hg : g.method = m) (hsize : g.locals.size = c.maxLocals) {argsL rest : List Value} (hlen : ∀ sig, parseMethodDescriptor y.desc = some sig → argsL.length = sig.parameters.length)
    (hstack : g.stack = argsL.reverse ++ rest) (hW : 2 * g.monitorRoom + (rest.map fun v => v.category).sum ≤ W9) (hdg : decode c.code g.pc = .ok (.invokestatic index, 3))
    (hpre : ∀ vm₁, s.WarmedH vm₁ → Pre ⟨T.setVm vm₁, locs, cells, slots⟩ argsL.toArray) :
    (∃ (v : Option Value) (vm₁ : Vm) (B : Pt), s.WarmedH vm₁ ∧ Stand p l e R s m args below meth c B.U B.locs B.cells B.slots ∧ Post ⟨T.setVm vm₁, locs, cells, slots⟩ argsL.toArray v B ∧
      ∀ target, Steps p.tables e below (B.U.setTop { g with pc := g.pc + 3, stack := v.toList ++ rest }) target → Steps p.tables e below (T.setTop g) target) ∨
    (∃ (q : Addr) (vm₁ : Vm) (B : Pt), s.WarmedH vm₁ ∧ Stand p l e R s m args below meth c B.U B.locs B.cells B.slots ∧ PostX ⟨T.setVm vm₁, locs, cells, slots⟩ argsL.toArray q B ∧
      Steps p.tables e below (T.setTop g) ((B.U.setTop { g with stack := rest }).pushFrame (.throwing q))) := by
  obtain ⟨mk, hnamed⟩ := Cond.code_named hcode
  obtain ⟨methM, cM, hmethM, -, -, -, -, -, -, hsigM⟩ := Cond.code_spec hnamed hcode
  have hstatic : methM.isStatic = true := Cond.static_spec hnamed hmethM hstat
  obtain ⟨kP, hkP, -⟩ := className_of_methodNamed hnamed
  have hinitP : kP.init = .initialized := Cond.initialized_spec (findClass_of_methodNamed hnamed) hkP hinit
  obtain ⟨vm₁, X₁, hstep₁⟩ := X.invokestatic hexec hown hlink hnamed hmethM hstatic hkP hinitP hy (g := g) hg (argsL := argsL) (rest := rest) (hlen _ hsigM) hstack hdg
  rcases hK m meth c ⟨T.setVm vm₁, locs, cells, slots⟩ { g with stack := rest } (.invokestatic index) mk argsL.toArray X₁ hg hsize hdg hW (X₁.named hnamed) (hpre vm₁ X₁.warmed) with ⟨v, B, X', hpost, hsteps⟩ | ⟨q, B, X', hpost, hsteps⟩
  · exact Or.inl ⟨v, vm₁, B, X₁.warmed, X', hpost, fun target h => hstep₁ _ fun acts => by rw [doInvoke_state]; exact hsteps.trans h⟩
  · exact Or.inr ⟨q, vm₁, B, X₁.warmed, X', hpost, hstep₁ _ fun acts => by rw [doInvoke_state]; exact hsteps⟩
end Calls
theorem vx_cls {s : State} {T : State} {vm₁ : Vm} {E : String} {k : ClassId} (hW : s.WarmedH vm₁) (h : (T.setVm vm₁).vm.findClass E = some k) : s.vm.findClass E = some k := by
  have h1 : vm₁.findClass E = some k := h
  rw [hW.alike.findClass] at h1
  exact h1
/-- the method's frame g, with q thrown over it -/
def vx_W (p : Program) (l : Launch) (e : Env) (R : Room) (s : State) (m : MethodId) (args : Array Value) (below : List Frame) (meth : Method) (c : Code) (H : Heap) (locs : List Loc) (cells slots : Nat) (Q : State → Prop) (g : JFrame) (q : Addr) : Prop :=
  ∀ T : State, T.heap = H → Stand p l e R s m args below meth c T locs cells slots → ∃ t, Steps p.tables e below ((T.setTop g).pushFrame (.throwing q)) t ∧ Q t
def vx_Run (p : Program) (l : Launch) (e : Env) (R : Room) (s : State) (m : MethodId) (args : Array Value) (below : List Frame) (meth : Method) (c : Code) (H : Heap) (locs : List Loc) (cells slots mc ms : Nat) (g : JFrame) (rest : List Value) (Qa : State → Outcome → State → Prop) (XC : String → State → State → Prop) (free : Addr → Prop) : Prop :=
  ∀ T : State, T.heap = H → Stand p l e R s m args below meth c T locs cells slots →
    (∃ (v : Option Value) (st₀ t T' : State) (L : List Loc), st₀.heap = H ∧ Stand p l e R s m args below meth c T' (locs ++ L) (cells + mc) (slots + ms) ∧ (∀ q ∈ L, free q.base) ∧ T'.heap = t.heap ∧ T'.vm = t.vm ∧ Qa st₀ (.returned v) t ∧
      Goes p e below T g T' { g with pc := g.pc + 3, stack := v.toList ++ rest }) ∨
    (∃ (q : Addr) (st₀ t T' : State) (L : List Loc) (E : String) (ce : Cell), st₀.heap = H ∧ Stand p l e R s m args below meth c T' (locs ++ L) (cells + mc) (slots + ms) ∧ (∀ z ∈ L, free z.base) ∧ T'.heap = t.heap ∧ T'.vm = t.vm ∧ XC E st₀ t ∧ t.heap[q]? = some ce ∧ ce.vm = .none ∧ s.vm.findClass E = some ce.cls ∧
      Steps p.tables e below (T.setTop g) ((T'.setTop { g with stack := rest }).pushFrame (.throwing q)))
def vx_X {S : Type} (px : S → Prop) (B : String → S → State → Prop) (A : Nat → Prop) : String → State → State → Prop := fun E st t => ∃ u : S, px u ∧ B E u t ∧ va_F A st t
section Runs
variable {p : Program} {l : Launch} {e : Env} {R : Room} {s : State} {m : MethodId} {args : Array Value} {below : List Frame} {meth : Method} {c : Code} {H : Heap} {locs : List Loc} {cells slots : Nat}
variable {y : MethodName} {bytes cc : ByteArray} {maxL nL mc ms n index : Nat} {ret : Option FieldType} {ws : List Cond} {rm : Room} {Pc : Array Value → State → Prop} {Qc : Array Value → State → Outcome → State → Prop} {XC : String → State → State → Prop} {free : Addr → Prop} {Ts : List Cond} {own C : String} {b : Addr} {As rest : List Value} {g : JFrame}
theorem vx_callBack (cb : CallB R s args own index y bytes maxL ret ws rm mc ms n) (hM : vx_Met l y ws rm Pc Qc XC mc ms free) (hbl : FrameBlind Pc) : vx_Back l R p e below s args y 3 8 (PreOf R mc ms Pc) (PostOf Qc mc ms free) (vx_Post XC mc ms free) := by
  obtain ⟨hrc, hrs, hfr, hlo, hws, hcw, -, hini, -⟩ := cb
  exact vx_back (bytes := bytes) (maxL := maxL) (ret := ret) hM hbl hrc hrs hfr hlo hws hcw (fun a' U hW => word_at hW (Or.inl (by first | rfl | simp [Cond.onTables, Cond.keeps, Cond.steady])) hini)
theorem vx_runV (S : CallFix p m c cc nL s args Ts own) (hM : vx_Met l y ws rm Pc Qc XC mc ms free) (cw : CallW R s args own C index y bytes maxL ret ws rm mc ms n) (hp : PreV s H C b Pc As)
    (hg : g.method = m) (hn : As.length = n) (hsize : g.locals.size = nL) (hstack : g.stack = As.reverse ++ .ref b :: rest) (hW : 2 * g.monitorRoom + (rest.map fun v => v.category).sum ≤ 8) (hdg : decode cc g.pc = .ok (.invokevirtual index, 3)) (hf : cells + mc ≤ R.cells ∧ slots + ms ≤ R.slots) :
    vx_Run p l e R s m args below meth c H locs cells slots mc ms g rest (Qc (Value.ref b :: As).toArray) XC free := by
  have hK : vx_Back l R p e below s args y 3 8 (PreOf R mc ms Pc) (PostOf Qc mc ms free) (vx_Post XC mc ms free) := vx_callBack cw.1 hM hp.1
  obtain ⟨⟨-, -, -, -, -, -, hcode, -, hy, hlen, hl⟩, hin, hse⟩ := cw
  obtain ⟨hx, hb, hml, ho, -⟩ := S
  obtain ⟨-, ⟨cellB, hcB, hoB, hclB⟩, hPc⟩ := hp
  intro T hT X
  rcases vx_callV X hx (C := C) (bytes := bytes) (maxL := maxL) (ret := ret) ho hl hin hse hcode hy hK (by rw [hT]; exact hcB) hoB hclB hg (hsize.trans hml.symm) (argsL := As) (rest := rest) (fun sig h => hn.trans (hlen sig h)) hstack hW (by rw [hb]; exact hdg)
    (fun vm₁ hW₁ => ⟨hf.1, hf.2, hPc (T.setVm vm₁) hT hW₁⟩) with ⟨v, vm₁, ⟨U', l2, c2, s2⟩, hW₁, X', ⟨g', mk, t, L, e1, e2, hq, h1, hL, h2, h3⟩, st⟩ | ⟨q, vm₁, ⟨U', l2, c2, s2⟩, hW₁, X', ⟨g', mk, t, L, E, ce, e1, e2, hq, hce, hcv, hcl, h1, hL, h2, h3⟩, st⟩
  · dsimp only [Pt.U, Pt.locs, Pt.cells, Pt.slots] at X' e1 e2 h1 h2 h3 st
    subst h1; subst h2; subst h3
    exact Or.inl ⟨v, (T.setVm vm₁).calling g' mk (Value.ref b :: As).toArray, t, U', L, hT, X', hL, e1, e2, hq, st⟩
  · dsimp only [Pt.U, Pt.locs, Pt.cells, Pt.slots] at X' e1 e2 h1 h2 h3 st hcl
    subst h1; subst h2; subst h3
    exact Or.inr ⟨q, (T.setVm vm₁).calling g' mk (Value.ref b :: As).toArray, t, U', L, E, ce, hT, X', hL, e1, e2, hq, hce, hcv, vx_cls hW₁ hcl, st⟩
theorem vx_runS (S : CallFix p m c cc nL s args Ts own) (hM : vx_Met l y ws rm Pc Qc XC mc ms free) (cw : CallB R s args own index y bytes maxL ret ws rm mc ms n ∧ (Cond.static y).before args s = true) (hp : PreS s H Pc As)
    (hg : g.method = m) (hn : As.length = n) (hsize : g.locals.size = nL) (hstack : g.stack = As.reverse ++ rest) (hW : 2 * g.monitorRoom + (rest.map fun v => v.category).sum ≤ 8) (hdg : decode cc g.pc = .ok (.invokestatic index, 3)) (hf : cells + mc ≤ R.cells ∧ slots + ms ≤ R.slots) :
    vx_Run p l e R s m args below meth c H locs cells slots mc ms g rest (Qc As.toArray) XC free := by
  have hK : vx_Back l R p e below s args y 3 8 (PreOf R mc ms Pc) (PostOf Qc mc ms free) (vx_Post XC mc ms free) := vx_callBack cw.1 hM hp.1
  obtain ⟨⟨-, -, -, -, -, -, hcode, hini, hy, hlen, hl⟩, hstt⟩ := cw
  obtain ⟨hx, hb, hml, ho, -⟩ := S
  intro T hT X
  rcases vx_callS X hx (bytes := bytes) (maxL := maxL) (ret := ret) ho hl hstt hini hcode hy hK hg (hsize.trans hml.symm) (argsL := As) (rest := rest) (fun sig h => hn.trans (hlen sig h)) hstack hW (by rw [hb]; exact hdg)
    (fun vm₁ hW₁ => ⟨hf.1, hf.2, hp.2 (T.setVm vm₁) hT hW₁⟩) with ⟨v, vm₁, ⟨U', l2, c2, s2⟩, hW₁, X', ⟨g', mk, t, L, e1, e2, hq, h1, hL, h2, h3⟩, st⟩ | ⟨q, vm₁, ⟨U', l2, c2, s2⟩, hW₁, X', ⟨g', mk, t, L, E, ce, e1, e2, hq, hce, hcv, hcl, h1, hL, h2, h3⟩, st⟩
  · dsimp only [Pt.U, Pt.locs, Pt.cells, Pt.slots] at X' e1 e2 h1 h2 h3 st
    subst h1; subst h2; subst h3
    exact Or.inl ⟨v, (T.setVm vm₁).calling g' mk As.toArray, t, U', L, hT, X', hL, e1, e2, hq, st⟩
  · dsimp only [Pt.U, Pt.locs, Pt.cells, Pt.slots] at X' e1 e2 h1 h2 h3 st hcl
    subst h1; subst h2; subst h3
    exact Or.inr ⟨q, (T.setVm vm₁).calling g' mk As.toArray, t, U', L, E, ce, hT, X', hL, e1, e2, hq, hce, hcv, vx_cls hW₁ hcl, st⟩
end Runs
section Rows
variable {p : Program} {l : Launch} {e : Env} {R : Room} {s : State} {m : MethodId} {args : Array Value} {below : List Frame} {meth : Method} {c : Code} {H : Heap} {locs : List Loc} {cells slots : Nat} {Q : State → Prop}
variable {mc ms : Nat} {free : Addr → Prop} {A0 A1 : Nat → Prop} {H0 : Heap} {a : Array Value} {pc : Nat} {ls : Array Slot} {st0 rest : List Value}
theorem vx_keep {st₀ t T' : State} {L : List Loc} (h0 : st₀.heap = H) (e1 : T'.heap = t.heap) (hS : va_S A0 H0 H locs) (hA : ∀ q, q < H.size → A1 q → A0 q) (hf : ∀ q, free q → A0 q) (hL : ∀ q ∈ L, free q.base) (hF : va_F A1 st₀ t) :
    H.size ≤ T'.heap.size ∧ (∀ q : Nat, q < H.size → ¬ A1 q → T'.heap[q]? = H[q]?) ∧ va_S A0 H0 T'.heap (locs ++ L) := by
  obtain ⟨hz, hk⟩ := hF
  rw [h0] at hz hk
  exact ⟨by rw [e1]; exact hz, fun q h1 h2 => by rw [e1]; exact hk q h1 h2,
    ⟨Nat.le_trans hS.1 (by rw [e1]; exact hz), fun q h1 h2 => by rw [e1, hk q (Nat.lt_of_lt_of_le h1 hS.1) (fun z => h2 (hA q (Nat.lt_of_lt_of_le h1 hS.1) z))]; exact hS.2.1 q h1 h2, fun q hq => by
      rcases List.mem_append.mp hq with h | h
      · exact hS.2.2 q h
      · exact hf _ (hL q h)⟩⟩
theorem vx_calli {S SX : Type} {post : Int32 → S → Prop} {px : SX → Prop} {B : S → State → Prop} {BX : String → SX → State → Prop} {AX : Nat → Prop} (hr : vx_Run p l e R s m args below meth c H locs cells slots mc ms (F0 m pc ls st0) rest (va_Qi post B A1 a) (vx_X px BX AX) free) (hS : va_S A0 H0 H locs) (hA : ∀ q, q < H.size → A1 q → A0 q) (hf : ∀ q, free q → A0 q) (hAX : ∀ q, q < H.size → AX q → A0 q)
    (kx : ∀ (E : String) (ce : Cell) (q9 : Addr) (u : SX) (t : State) (H1 : Heap) (locs1 : List Loc), t.heap = H1 → s.vm.Alike t.vm → px u → BX E u t → H.size ≤ H1.size → (∀ q : Nat, q < H.size → ¬ AX q → H1[q]? = H[q]?) → va_S A0 H0 H1 locs1 → H1[q9]? = some ce → ce.vm = .none → s.vm.findClass E = some ce.cls → vx_W p l e R s m args below meth c H1 locs1 (cells + mc) (slots + ms) Q (F0 m pc ls rest) q9)
    (kk : ∀ (r : Int32) (u : S) (t : State) (H1 : Heap) (locs1 : List Loc), t.heap = H1 → s.vm.Alike t.vm → post r u → B u t → H.size ≤ H1.size → (∀ q : Nat, q < H.size → ¬ A1 q → H1[q]? = H[q]?) → va_S A0 H0 H1 locs1 → W p l e R s m args below meth c H1 locs1 (cells + mc) (slots + ms) Q (F0 m (pc + 3) ls (.int r :: rest))) : W p l e R s m args below meth c H locs cells slots Q (F0 m pc ls st0) := by
  intro T hT X
  rcases hr T hT X with ⟨v, st₀, t, T', L, h0, X', hL, e1, e2, ⟨⟨r, u, hv, hp, hb⟩, hF⟩, st⟩ | ⟨q, st₀, t, T', L, E, ce, h0, X', hL, e1, e2, ⟨u, hp, hb, hF⟩, hce, hcv, hcl, st⟩
  · cases hv
    obtain ⟨k1, k2, k3⟩ := vx_keep h0 e1 hS hA hf hL hF
    obtain ⟨t2, a1, b1⟩ := kk r u t T'.heap (locs ++ L) e1.symm (by rw [← e2]; exact X'.warmed.alike) hp hb k1 k2 k3 T' rfl X'
    exact ⟨t2, st t2 a1, b1⟩
  · obtain ⟨k1, k2, k3⟩ := vx_keep h0 e1 hS hAX hf hL hF
    obtain ⟨t2, a1, b1⟩ := kx E ce q u t T'.heap (locs ++ L) e1.symm (by rw [← e2]; exact X'.warmed.alike) hp hb k1 k2 k3 (by rw [e1]; exact hce) hcv hcl T' rfl X'
    exact ⟨t2, st.trans a1, b1⟩
theorem vx_calll {S SX : Type} {post : Int64 → S → Prop} {px : SX → Prop} {B : S → State → Prop} {BX : String → SX → State → Prop} {AX : Nat → Prop} (hr : vx_Run p l e R s m args below meth c H locs cells slots mc ms (F0 m pc ls st0) rest (va_Ql post B A1 a) (vx_X px BX AX) free) (hS : va_S A0 H0 H locs) (hA : ∀ q, q < H.size → A1 q → A0 q) (hf : ∀ q, free q → A0 q) (hAX : ∀ q, q < H.size → AX q → A0 q)
    (kx : ∀ (E : String) (ce : Cell) (q9 : Addr) (u : SX) (t : State) (H1 : Heap) (locs1 : List Loc), t.heap = H1 → s.vm.Alike t.vm → px u → BX E u t → H.size ≤ H1.size → (∀ q : Nat, q < H.size → ¬ AX q → H1[q]? = H[q]?) → va_S A0 H0 H1 locs1 → H1[q9]? = some ce → ce.vm = .none → s.vm.findClass E = some ce.cls → vx_W p l e R s m args below meth c H1 locs1 (cells + mc) (slots + ms) Q (F0 m pc ls rest) q9)
    (kk : ∀ (r : Int64) (u : S) (t : State) (H1 : Heap) (locs1 : List Loc), t.heap = H1 → s.vm.Alike t.vm → post r u → B u t → H.size ≤ H1.size → (∀ q : Nat, q < H.size → ¬ A1 q → H1[q]? = H[q]?) → va_S A0 H0 H1 locs1 → W p l e R s m args below meth c H1 locs1 (cells + mc) (slots + ms) Q (F0 m (pc + 3) ls (.long r :: rest))) : W p l e R s m args below meth c H locs cells slots Q (F0 m pc ls st0) := by
  intro T hT X
  rcases hr T hT X with ⟨v, st₀, t, T', L, h0, X', hL, e1, e2, ⟨⟨r, u, hv, hp, hb⟩, hF⟩, st⟩ | ⟨q, st₀, t, T', L, E, ce, h0, X', hL, e1, e2, ⟨u, hp, hb, hF⟩, hce, hcv, hcl, st⟩
  · cases hv
    obtain ⟨k1, k2, k3⟩ := vx_keep h0 e1 hS hA hf hL hF
    obtain ⟨t2, a1, b1⟩ := kk r u t T'.heap (locs ++ L) e1.symm (by rw [← e2]; exact X'.warmed.alike) hp hb k1 k2 k3 T' rfl X'
    exact ⟨t2, st t2 a1, b1⟩
  · obtain ⟨k1, k2, k3⟩ := vx_keep h0 e1 hS hAX hf hL hF
    obtain ⟨t2, a1, b1⟩ := kx E ce q u t T'.heap (locs ++ L) e1.symm (by rw [← e2]; exact X'.warmed.alike) hp hb k1 k2 k3 (by rw [e1]; exact hce) hcv hcl T' rfl X'
    exact ⟨t2, st.trans a1, b1⟩
theorem vx_callf {S SX : Type} {post : UInt32 → S → Prop} {px : SX → Prop} {B : S → State → Prop} {BX : String → SX → State → Prop} {AX : Nat → Prop} (hr : vx_Run p l e R s m args below meth c H locs cells slots mc ms (F0 m pc ls st0) rest (va_Qf post B A1 a) (vx_X px BX AX) free) (hS : va_S A0 H0 H locs) (hA : ∀ q, q < H.size → A1 q → A0 q) (hf : ∀ q, free q → A0 q) (hAX : ∀ q, q < H.size → AX q → A0 q)
    (kx : ∀ (E : String) (ce : Cell) (q9 : Addr) (u : SX) (t : State) (H1 : Heap) (locs1 : List Loc), t.heap = H1 → s.vm.Alike t.vm → px u → BX E u t → H.size ≤ H1.size → (∀ q : Nat, q < H.size → ¬ AX q → H1[q]? = H[q]?) → va_S A0 H0 H1 locs1 → H1[q9]? = some ce → ce.vm = .none → s.vm.findClass E = some ce.cls → vx_W p l e R s m args below meth c H1 locs1 (cells + mc) (slots + ms) Q (F0 m pc ls rest) q9)
    (kk : ∀ (r : UInt32) (u : S) (t : State) (H1 : Heap) (locs1 : List Loc), t.heap = H1 → s.vm.Alike t.vm → post r u → B u t → H.size ≤ H1.size → (∀ q : Nat, q < H.size → ¬ A1 q → H1[q]? = H[q]?) → va_S A0 H0 H1 locs1 → W p l e R s m args below meth c H1 locs1 (cells + mc) (slots + ms) Q (F0 m (pc + 3) ls (.float r :: rest))) : W p l e R s m args below meth c H locs cells slots Q (F0 m pc ls st0) := by
  intro T hT X
  rcases hr T hT X with ⟨v, st₀, t, T', L, h0, X', hL, e1, e2, ⟨⟨r, u, hv, hp, hb⟩, hF⟩, st⟩ | ⟨q, st₀, t, T', L, E, ce, h0, X', hL, e1, e2, ⟨u, hp, hb, hF⟩, hce, hcv, hcl, st⟩
  · cases hv
    obtain ⟨k1, k2, k3⟩ := vx_keep h0 e1 hS hA hf hL hF
    obtain ⟨t2, a1, b1⟩ := kk r u t T'.heap (locs ++ L) e1.symm (by rw [← e2]; exact X'.warmed.alike) hp hb k1 k2 k3 T' rfl X'
    exact ⟨t2, st t2 a1, b1⟩
  · obtain ⟨k1, k2, k3⟩ := vx_keep h0 e1 hS hAX hf hL hF
    obtain ⟨t2, a1, b1⟩ := kx E ce q u t T'.heap (locs ++ L) e1.symm (by rw [← e2]; exact X'.warmed.alike) hp hb k1 k2 k3 (by rw [e1]; exact hce) hcv hcl T' rfl X'
    exact ⟨t2, st.trans a1, b1⟩
theorem vx_calld {S SX : Type} {post : UInt64 → S → Prop} {px : SX → Prop} {B : S → State → Prop} {BX : String → SX → State → Prop} {AX : Nat → Prop} (hr : vx_Run p l e R s m args below meth c H locs cells slots mc ms (F0 m pc ls st0) rest (va_Qd post B A1 a) (vx_X px BX AX) free) (hS : va_S A0 H0 H locs) (hA : ∀ q, q < H.size → A1 q → A0 q) (hf : ∀ q, free q → A0 q) (hAX : ∀ q, q < H.size → AX q → A0 q)
    (kx : ∀ (E : String) (ce : Cell) (q9 : Addr) (u : SX) (t : State) (H1 : Heap) (locs1 : List Loc), t.heap = H1 → s.vm.Alike t.vm → px u → BX E u t → H.size ≤ H1.size → (∀ q : Nat, q < H.size → ¬ AX q → H1[q]? = H[q]?) → va_S A0 H0 H1 locs1 → H1[q9]? = some ce → ce.vm = .none → s.vm.findClass E = some ce.cls → vx_W p l e R s m args below meth c H1 locs1 (cells + mc) (slots + ms) Q (F0 m pc ls rest) q9)
    (kk : ∀ (r : UInt64) (u : S) (t : State) (H1 : Heap) (locs1 : List Loc), t.heap = H1 → s.vm.Alike t.vm → post r u → B u t → H.size ≤ H1.size → (∀ q : Nat, q < H.size → ¬ A1 q → H1[q]? = H[q]?) → va_S A0 H0 H1 locs1 → W p l e R s m args below meth c H1 locs1 (cells + mc) (slots + ms) Q (F0 m (pc + 3) ls (.double r :: rest))) : W p l e R s m args below meth c H locs cells slots Q (F0 m pc ls st0) := by
  intro T hT X
  rcases hr T hT X with ⟨v, st₀, t, T', L, h0, X', hL, e1, e2, ⟨⟨r, u, hv, hp, hb⟩, hF⟩, st⟩ | ⟨q, st₀, t, T', L, E, ce, h0, X', hL, e1, e2, ⟨u, hp, hb, hF⟩, hce, hcv, hcl, st⟩
  · cases hv
    obtain ⟨k1, k2, k3⟩ := vx_keep h0 e1 hS hA hf hL hF
    obtain ⟨t2, a1, b1⟩ := kk r u t T'.heap (locs ++ L) e1.symm (by rw [← e2]; exact X'.warmed.alike) hp hb k1 k2 k3 T' rfl X'
    exact ⟨t2, st t2 a1, b1⟩
  · obtain ⟨k1, k2, k3⟩ := vx_keep h0 e1 hS hAX hf hL hF
    obtain ⟨t2, a1, b1⟩ := kx E ce q u t T'.heap (locs ++ L) e1.symm (by rw [← e2]; exact X'.warmed.alike) hp hb k1 k2 k3 (by rw [e1]; exact hce) hcv hcl T' rfl X'
    exact ⟨t2, st.trans a1, b1⟩
theorem vx_callv {S SX : Type} {post : S → Prop} {px : SX → Prop} {B : S → State → Prop} {BX : String → SX → State → Prop} {AX : Nat → Prop} (hr : vx_Run p l e R s m args below meth c H locs cells slots mc ms (F0 m pc ls st0) rest (va_Qv post B A1 a) (vx_X px BX AX) free) (hS : va_S A0 H0 H locs) (hA : ∀ q, q < H.size → A1 q → A0 q) (hf : ∀ q, free q → A0 q) (hAX : ∀ q, q < H.size → AX q → A0 q)
    (kx : ∀ (E : String) (ce : Cell) (q9 : Addr) (u : SX) (t : State) (H1 : Heap) (locs1 : List Loc), t.heap = H1 → s.vm.Alike t.vm → px u → BX E u t → H.size ≤ H1.size → (∀ q : Nat, q < H.size → ¬ AX q → H1[q]? = H[q]?) → va_S A0 H0 H1 locs1 → H1[q9]? = some ce → ce.vm = .none → s.vm.findClass E = some ce.cls → vx_W p l e R s m args below meth c H1 locs1 (cells + mc) (slots + ms) Q (F0 m pc ls rest) q9)
    (kk : ∀ (u : S) (t : State) (H1 : Heap) (locs1 : List Loc), t.heap = H1 → s.vm.Alike t.vm → post u → B u t → H.size ≤ H1.size → (∀ q : Nat, q < H.size → ¬ A1 q → H1[q]? = H[q]?) → va_S A0 H0 H1 locs1 → W p l e R s m args below meth c H1 locs1 (cells + mc) (slots + ms) Q (F0 m (pc + 3) ls (rest))) : W p l e R s m args below meth c H locs cells slots Q (F0 m pc ls st0) := by
  intro T hT X
  rcases hr T hT X with ⟨v, st₀, t, T', L, h0, X', hL, e1, e2, ⟨⟨u, hv, hp, hb⟩, hF⟩, st⟩ | ⟨q, st₀, t, T', L, E, ce, h0, X', hL, e1, e2, ⟨u, hp, hb, hF⟩, hce, hcv, hcl, st⟩
  · cases hv
    obtain ⟨k1, k2, k3⟩ := vx_keep h0 e1 hS hA hf hL hF
    obtain ⟨t2, a1, b1⟩ := kk u t T'.heap (locs ++ L) e1.symm (by rw [← e2]; exact X'.warmed.alike) hp hb k1 k2 k3 T' rfl X'
    exact ⟨t2, st t2 a1, b1⟩
  · obtain ⟨k1, k2, k3⟩ := vx_keep h0 e1 hS hAX hf hL hF
    obtain ⟨t2, a1, b1⟩ := kx E ce q u t T'.heap (locs ++ L) e1.symm (by rw [← e2]; exact X'.warmed.alike) hp hb k1 k2 k3 (by rw [e1]; exact hce) hcv hcl T' rfl X'
    exact ⟨t2, st.trans a1, b1⟩
/-- caught by the row x of this method's table; the rows ahead don't take it -/
theorem vx_catch {own name : String} {E : String} {ce : Cell} {q : Addr} (hown : s.vm.findClass own = some m.cls) (pre : List ExceptionTableEntry) (x : ExceptionTableEntry) (suf : List ExceptionTableEntry) (hsplit : c.exceptionTable.toList = pre ++ x :: suf)
    (hpass : ∀ z ∈ pre, covers z pc = false ∨ (z.catchType ≠ 0 ∧ ∃ nm : String, (Cond.classLink own z.catchType nm).before args s = true ∧ va_Nc E nm s)) (hx : covers x pc = true) (h0 : x.catchType ≠ 0)
    (hlink : (Cond.classLink own x.catchType name).before args s = true) (hcast : (Cond.castable E name).before args s = true) (hcell : H[q]? = some ce) (hv : ce.vm = .none) (hcl : s.vm.findClass E = some ce.cls)
    (kk : W p l e R s m args below meth c H locs cells slots Q (F0 m x.handlerPc ls [.ref q])) : vx_W p l e R s m args below meth c H locs cells slots Q (F0 m pc ls rest) q := by
  intro T hT X
  have hpl : e.platform.magicAccessors = ({} : Platform).magicAccessors := by rw [X.admits.platform]
  obtain ⟨c3, c4, hc3, hc4, hasg⟩ := Cond.castable_spec hcast
  cases Option.some.inj (hc3.symm.trans hcl)
  obtain ⟨c5, hc5, hcl5⟩ := Cond.classLink_spec hown hlink e.platform hpl
  cases Option.some.inj (hc4.symm.trans hc5)
  obtain ⟨vm', X', st⟩ := X.thenCaughtThrough q (g := F0 m pc ls rest) rfl (Steps.refl _) (by rw [hT]; exact hcell) (by rw [hv]; rfl) (by obtain ⟨k9, h9, -⟩ := Vm.findClass_spec hcl; exact ⟨k9, h9⟩) pre x suf hsplit
    (fun z hz => by
      rcases hpass z hz with h | ⟨hz0, nm, hl1, hn1⟩
      · exact Or.inl h
      · obtain ⟨c6, hc6, hcl6⟩ := Cond.classLink_spec hown hl1 e.platform hpl
        obtain ⟨a8, b8, h1, h2, h3⟩ := hn1
        cases Option.some.inj (h1.symm.trans hcl)
        cases Option.some.inj (h2.symm.trans hc6)
        exact Or.inr ⟨hz0, _, hcl6, h3⟩) hx (Or.inr ⟨h0, c4, hcl5, hasg⟩)
  obtain ⟨t, a1, b1⟩ := kk (T.setVm vm') hT X'
  exact ⟨t, st.trans a1, b1⟩
end Rows
section Ends
variable {p : Program} {l : Launch} {e : Env} {R : Room} {s : State} {m : MethodId} {args : Array Value} {below : List Frame} {meth : Method} {c : Code} {H : Heap} {locs : List Loc} {cells slots : Nat} {Q : State → Prop}
variable {mc ms : Nat} {free : Addr → Prop} {A0 A1 : Nat → Prop} {H0 : Heap} {a : Array Value} {ls : Array Slot} {st0 rest : List Value}
variable {Qc : Array Value → State → Outcome → State → Prop} {XC : String → State → State → Prop}
/-- what a body that may throw owes at its end -/
def vx_MQ (below : List Frame) (Qc : Array Value → State → Outcome → State → Prop) (XC : String → State → State → Prop) (a : Array Value) (s : State) (mc ms : Nat) (free : Addr → Prop) : State → Prop := fun t =>
  ∃ o, t.status = .running ∧ Ended t below o ∧ vx_Q Qc XC mc ms free a s o t
theorem vx_ret {g : JFrame} {mc ms : Nat} (k : W p l e R s m args below meth c H locs cells slots (MQ below Qc args s mc ms free) g) : W p l e R s m args below meth c H locs cells slots (vx_MQ below Qc XC args s mc ms free) g := by
  intro T hT X
  obtain ⟨t, a1, o, b1, b2, b3, b4⟩ := k T hT X
  exact ⟨t, a1, o, b1, b2, Or.inl ⟨b3, b4⟩⟩
/-- not caught here: it goes on to the caller -/
theorem vx_widen {g : JFrame} {q : Addr} {k n : Nat} (h1 : cells ≤ k) (h2 : slots ≤ n) (kk : vx_W p l e R s m args below meth c H locs k n Q g q) : vx_W p l e R s m args below meth c H locs cells slots Q g q := fun T hT X => kk T hT (stand_widen X h1 h2)
theorem vx_out {pc : Nat} {E : String} {ce : Cell} {q : Addr} {mc ms : Nat} (hout : ∀ x ∈ c.exceptionTable.toList, covers x pc = false) (hlocks : meth.locks = false) (hcell : H[q]? = some ce) (hv : ce.vm = .none) (hcl : s.vm.findClass E = some ce.cls)
    (hx : ∀ t : State, t.heap = H → s.vm.Alike t.vm → XC E s t) (hf : ∀ z ∈ locs, free z.base) (hc : cells ≤ mc) (hs : slots ≤ ms) :
    vx_W p l e R s m args below meth c H locs cells slots (vx_MQ below Qc XC args s mc ms free) (F0 m pc ls rest) q := by
  intro T hT X
  obtain ⟨st1, hrun, hend, hW, hsm⟩ := X.leaveThrown q (g := F0 m pc ls rest) rfl rfl rfl hout hlocks
  have hcell9 : (T.setFrames (.throwing q :: below)).heap[q]? = some ce := by
    show T.heap[q]? = some ce
    rw [hT]; exact hcell
  exact ⟨_, st1, .threw q, hrun, hend, Or.inr ⟨q, rfl, E, ce, locs, hx _ hT hW.alike, hcell9, hv, hcl, hW, hsm.mono hc hs, hf⟩⟩
theorem vx_frame {U : State} {k n : Nat} (h : s.sameButNew ({ U with vm := s.vm } : State) locs k n) : s.heap.size ≤ U.heap.size ∧ ∀ q : Nat, q < s.heap.size → (∀ z ∈ locs, z.base ≠ q) → U.heap[q]? = s.heap[q]? := by
  obtain ⟨-, h2, -, -, -, h6⟩ := h
  refine ⟨h2, fun q hq hz => ?_⟩
  obtain ⟨c9, e1, e2, e3, e4⟩ := h6 q _ (Array.getElem?_eq_getElem hq)
  have hs : c9.slots = (s.heap[q]).slots := Array.ext_getElem? fun i => e4 i fun hm => hz _ hm rfl
  have h9 : c9 = s.heap[q] := by
    rw [hs] at e2
    exact e2
  have e5 : U.heap[q]? = some c9 := e1
  rw [e5, h9, Array.getElem?_eq_getElem hq]
/-- the words of a throw but the four that speak of the heap -/
def vx_no (w : Cond) : Bool := decide (w ≠ .isRef (.static Bundle.tN "UNASSIGNED_STACK" Bundle.steD)) && decide (w ≠ .isRef (.static Bundle.tN "SUPPRESSED_SENTINEL" Bundle.listD)) && decide (w ≠ .laysStatic Bundle.tN "UNASSIGNED_STACK" Bundle.steD) && decide (w ≠ .laysStatic Bundle.tN "SUPPRESSED_SENTINEL" Bundle.listD)
def vx_at0 (own : String) (ic : Nat) (X : String) (names : List String) : List Cond := (Bundle.ownAtoms0 own ic X names).filter vx_no
def vx_atS (own : String) (ic : Nat) (X : String) (names : List String) : List Cond := (Bundle.ownAtoms own ic X names).filter vx_no
/-- a word that the tables alone decide, or a good one -/
def vx_ot (w : Cond) : Bool := w.onTables || goodWord w
theorem vx_ot_at {args a' : Array Value} {s U : State} {w : Cond} (hW : s.WarmedH U.vm) (hvm : s.vm = U.vm) (hg : vx_ot w = true) (h : w.before args s = true) : w.before a' U = true := by
  simp only [vx_ot, Bool.or_eq_true] at hg
  rcases hg with hg | hg
  · exact va_tabs hg hvm h
  · exact word_at hW (good_of_word hg) h
/-- a list's words: the good ones out of the method's own list, the others by premises of their own -/
theorem vx_hat {args : Array Value} {s : State} {L B : List Cond} (h1 : ∀ w ∈ L.filter goodWord, w.before args s = true) (h2 : ∀ w ∈ L.filter (fun w => !goodWord w), w ∈ B) (h3 : ∀ w ∈ B, w.before args s = true) : ∀ w ∈ L, w.before args s = true := by
  intro w hw
  by_cases g : goodWord w = true
  · exact h1 w (List.mem_filter.mpr ⟨hw, g⟩)
  · refine h3 w (h2 w (List.mem_filter.mpr ⟨hw, ?_⟩))
    show (!goodWord w) = true
    cases hgw : goodWord w
    · rfl
    · exact absurd hgw g
theorem vx_c {args : Array Value} {s : State} {w : Cond} {B : List Cond} (h : w.before args s = true) (t : ∀ w ∈ B, w.before args s = true) : ∀ w' ∈ w :: B, w'.before args s = true := fun w' h' => (List.mem_cons.mp h').elim (fun e => by rw [e]; exact h) (t w')
theorem vx_n {args : Array Value} {s : State} : ∀ w ∈ ([] : List Cond), w.before args s = true := fun _ h => nomatch h
theorem vx_own {args : Array Value} {s : State} {L : List Cond} (h1 : ∀ w ∈ L.filter vx_no, w.before args s = true)
    (hU : (Cond.isRef (.static Bundle.tN "UNASSIGNED_STACK" Bundle.steD)).before args s = true) (hN : (Cond.isRef (.static Bundle.tN "SUPPRESSED_SENTINEL" Bundle.listD)).before args s = true)
    (lU : (Cond.laysStatic Bundle.tN "UNASSIGNED_STACK" Bundle.steD).before args s = true) (lN : (Cond.laysStatic Bundle.tN "SUPPRESSED_SENTINEL" Bundle.listD).before args s = true) : ∀ w ∈ L, w.before args s = true := by
  intro w hw
  by_cases e1 : w = .isRef (.static Bundle.tN "UNASSIGNED_STACK" Bundle.steD)
  · rw [e1]; exact hU
  · by_cases e2 : w = .isRef (.static Bundle.tN "SUPPRESSED_SENTINEL" Bundle.listD)
    · rw [e2]; exact hN
    · by_cases e3 : w = .laysStatic Bundle.tN "UNASSIGNED_STACK" Bundle.steD
      · rw [e3]; exact lU
      · by_cases e4 : w = .laysStatic Bundle.tN "SUPPRESSED_SENTINEL" Bundle.listD
        · rw [e4]; exact lN
        · exact h1 w (List.mem_filter.mpr ⟨hw, by unfold vx_no; rw [decide_eq_true e1, decide_eq_true e2, decide_eq_true e3, decide_eq_true e4]; rfl⟩)
/-- where a static field lies, its class's statics cell in H -/
def vx_L (C n d : String) (A : Nat → Prop) (U : State) (H : Heap) : Prop := ∃ (c : ClassId) (k : Class) (i : Nat) (f : Field) (a : Nat) (cell : Cell), U.vm.findClass C = some c ∧ U.fieldFound? C n d = some (c, k, i, f) ∧ f.isStatic = true ∧ k.statics = some a ∧ H[a]? = some cell ∧ cell.vm.isStatics = true ∧ cell.cls = c ∧ f.slot < cell.slots.size ∧ k.staticTypes[f.slot]? = some f.type ∧ ¬ A a
theorem vx_L.moved {C n d : String} {A : Nat → Prop} {u U : State} {H : Heap} (hvm : u.vm.Alike U.vm) (h : vx_L C n d A u H) : vx_L C n d A U H := by
  obtain ⟨c, k, i, f, a, cell, h1, h2, h3, h4, h5, h6, h7, h8, h9, h10⟩ := h
  obtain ⟨k', hi', he⟩ := State.fieldFound?_setVm hvm h2
  exact ⟨c, k', i, f, a, cell, by rw [hvm.findClass]; exact h1, hi', h3, by rw [he]; exact h4, h5, h6, h7, h8, by rw [he]; exact h9, h10⟩
theorem vx_L.kept {C n d : String} {A : Nat → Prop} {U : State} {H H1 : Heap} (h : vx_L C n d A U H) (hq : ∀ a : Nat, a < H.size → ¬ A a → H1[a]? = H[a]?) : vx_L C n d A U H1 := by
  obtain ⟨c, k, i, f, a, cell, h1, h2, h3, h4, h5, h6, h7, h8, h9, h10⟩ := h
  exact ⟨c, k, i, f, a, cell, h1, h2, h3, h4, by rw [hq a (Array.getElem?_eq_some_iff.mp h5).1 h10]; exact h5, h6, h7, h8, h9, h10⟩
theorem vx_L.narrow {C n d : String} {A B : Nat → Prop} {U : State} {H : Heap} (h : vx_L C n d A U H) (hAB : ∀ q, B q → A q) : vx_L C n d B U H := by
  obtain ⟨c, k, i, f, a, cell, h1, h2, h3, h4, h5, h6, h7, h8, h9, h10⟩ := h
  exact ⟨c, k, i, f, a, cell, h1, h2, h3, h4, h5, h6, h7, h8, h9, fun z => h10 (hAB _ z)⟩
theorem vx_L.word {C n d : String} {A : Nat → Prop} {s : State} {args : Array Value} (h : vx_L C n d A s s.heap) : (Cond.laysStatic C n d).before args s = true := by
  obtain ⟨c, k, i, f, a, cell, h1, h2, h3, h4, h5, h6, h7, h8, h9, -⟩ := h
  show (Cond.laysStatic C n d).holds args s none s [] = true
  exact Cond.laysStatic_of h1 h2 h3 h4 h5 h6 h7 h8 h9
/-- .. and what it holds: null or some reference -/
def vx_Zq (C n d : String) (A : Nat → Prop) (U : State) (H : Heap) : Prop := va_Zq C n d A U H ∧ vx_L C n d A U H
theorem vx_Zq.moved {C n d : String} {A : Nat → Prop} {u U : State} {H : Heap} (hvm : u.vm.Alike U.vm) (h : vx_Zq C n d A u H) : vx_Zq C n d A U H := ⟨va_Zq.moved hvm h.1, vx_L.moved hvm h.2⟩
theorem vx_Zq.kept {C n d : String} {A : Nat → Prop} {U : State} {H H1 : Heap} (h : vx_Zq C n d A U H) (hq : ∀ a : Nat, a < H.size → ¬ A a → H1[a]? = H[a]?) : vx_Zq C n d A U H1 := ⟨va_Zq.kept h.1 hq, vx_L.kept h.2 hq⟩
theorem vx_Zq.narrow {C n d : String} {A B : Nat → Prop} {U : State} {H : Heap} (h : vx_Zq C n d A U H) (hAB : ∀ q, B q → A q) : vx_Zq C n d B U H := ⟨va_Zq.narrow h.1 hAB, vx_L.narrow h.2 hAB⟩
theorem vx_Zqof {args : Array Value} {s : State} {C n d : String} {A : Nat → Prop} (hl : (Cond.laysStatic C n d).before args s = true) (hini : (Cond.initialized C).before args s = true) (h : (Cond.isRef (.static C n d)).before args s = true) (hA : ∀ a : Nat, a < s.heap.size → ¬ A a) : vx_Zq C n d A s s.heap := by
  refine ⟨va_Zqof hl hini h hA, ?_⟩
  obtain ⟨c, k, i, f, a, cell, h1, h2, h3, h4, h5, h6, h7, h8, h9⟩ := Cond.laysStatic_spec hl
  exact ⟨c, k, i, f, a, cell, h1, h2, h3, h4, h5, h6, h7, h8, h9, hA a (Array.getElem?_eq_some_iff.mp h5).1⟩
theorem vx_isRef {C n d : String} {v : Value} {A : Nat → Prop} {s : State} {args : Array Value} (h : va_Z C n d v A s s.heap) (hv : v.isRef = true) : (Cond.isRef (.static C n d)).before args s = true := by
  obtain ⟨cf, kf, fi, f, a, cell, h1, h2, h3, h4, h5, h6, h7, -⟩ := h
  have he : (Term.static C n d).eval args s none [] s = some v := by
    simp [Term.eval, State.fieldNamed?, h1, h2, h4, h5, h6, h7]
  simp only [Cond.before, Cond.holds, Cond.value, he]
  cases v <;> simp_all [Value.isRef]
theorem vx_isRefq {C n d : String} {A : Nat → Prop} {s : State} {args : Array Value} (h : va_Zq C n d A s s.heap) : (Cond.isRef (.static C n d)).before args s = true := by
  rcases h with h | ⟨t, h⟩
  · exact vx_isRef h rfl
  · exact vx_isRef h rfl
/-- the same frame, seen from here: as if the method were called anew in this heap -/
theorem vx_rebase {T : State} (X : Stand p l e R s m args below meth c T locs cells slots) {R' : Room} (hf : R'.frames ≤ R.frames) (hl : R'.locals ≤ R.locals) (hc : cells + R'.cells ≤ R.cells) (hs : slots + R'.slots ≤ R.slots) :
    Stand p l e R' ((T.setVm s.vm).setFrames (.invoking m args :: below)) m args below meth c T [] 0 0 := by
  have htop : (T.setVm s.vm).topJava?.isSome := X.here.top
  have hF : ((T.setVm s.vm).setFrames (.invoking m args :: below)).frames = .invoking m args :: below := State.frames_setFrames _ (State.cur_lt_of_top htop)
  obtain ⟨g₀, hg0⟩ := Option.isSome_iff_exists.mp htop
  obtain ⟨r, hr⟩ := State.topJava?_eq_some.mp hg0
  have hl9 : e.platform.stackLimits (T.setVm s.vm).me = e.platform.stackLimits s.me := X.limits
  have hb9 : (T.setVm s.vm).me.stackBytes = s.me.stackBytes := X.bytes
  refine ⟨X.admits, X.cas, X.clock, hF, ?_, X.hears, X.method, X.code, X.here, X.tail, X.warmed, ?_, ?_, ?_⟩
  · have h := X.room
    have hU : ((T.setVm s.vm).setFrames (.invoking m args :: below)).localsInUse = s.localsInUse := by
      rw [State.localsInUse_invoking hF (meth := meth) (c := c) X.method X.code, State.localsInUse_invoking X.frames X.method X.code]
    simp only [State.hasRoom, Bool.and_eq_true, decide_eq_true_eq] at h ⊢
    obtain ⟨⟨⟨⟨h1, h2, h3, h4, h5, h6⟩, h7⟩, h8⟩, h9⟩ := h
    rw [X.frames, List.length_cons] at h2 h3
    have q1 := X.heapSize
    have q2 := X.used
    simp only [hF, hU, List.length_cons, State.stackLimits_setFrames, State.stackBytes_setFrames, hl9, hb9]
    refine ⟨⟨⟨⟨by omega, by omega, by omega, by omega, by omega, h6⟩, ?_⟩, ?_⟩, X.book⟩
    · show T.heap.size + R'.cells ≤ e.platform.maxCells
      omega
    · show T.slotsUsed + R'.slots ≤ e.platform.maxSlots
      omega
  · rw [State.stackLimits_setFrames]; rfl
  · rw [State.stackBytes_setFrames]; rfl
  · refine ⟨?_, Nat.le_refl _, Nat.le_refl _, ?_, ?_, fun a c9 h9 => ⟨c9, h9, rfl, rfl, fun _ _ => rfl⟩⟩
    · obtain ⟨t, ht, -⟩ := State.frames_cons hr
      show T.setVm s.vm = { ((T.setVm s.vm).setFrames (.invoking m args :: below)).setFrames (T.setVm s.vm).frames with heap := T.heap, slotsUsed := T.slotsUsed }
      rw [State.setFrames_setFrames, State.setFrames_self ht]
      rfl
    · show T.slotsUsed = T.slotsUsed + ((T.heap.toList.drop T.heap.size).map (·.slots.size)).sum
      rw [List.drop_eq_nil_of_le (Nat.le_of_eq Array.length_toList)]
      rfl
    · show ((T.heap.toList.drop T.heap.size).map (·.slots.size)).sum ≤ 0
      rw [List.drop_eq_nil_of_le (Nat.le_of_eq Array.length_toList)]
      exact Nat.le_refl _
/-- 'throw new E()': new; dup; invokespecial; athrow -/
theorem vx_throw0 {cc : ByteArray} {pc : Nat} (hexec : p.tables.exec = Jvm.exec) (hb : c.code = cc) (hl : l.stackTraces = false) {own cls : String} {names : List String} {ik ic mc ms : Nat} {A : Nat → Prop}
    (hown : s.vm.findClass own = some m.cls) (hcls : Bundle.fit cls = true) (hnames : ∀ n ∈ names, Bundle.fit n = true)
    (hk : (Cond.classLink own ik cls).before args s = true) (hini : (Cond.initialized cls).before args s = true) (hat : ∀ w ∈ vx_at0 own ic cls names, w.before args s = true)
    (hgood : ∀ w ∈ Cond.classLink own ik cls :: Cond.initialized cls :: vx_at0 own ic cls names, vx_ot w = true)
    (hU : vx_Zq Bundle.tN "UNASSIGNED_STACK" Bundle.steD A s s.heap) (hN : vx_Zq Bundle.tN "SUPPRESSED_SENTINEL" Bundle.listD A s s.heap) (hS : va_S A s.heap H locs) (hsize : ls.size = c.maxLocals)
    (d0 : decode cc pc = .ok (.new ik, 3)) (d3 : decode cc (pc + 3) = .ok (.dup, 1)) (d4 : decode cc (pc + 4) = .ok (.invokespecial ic, 3)) (d7 : decode cc (pc + 7) = .ok (.athrow, 1))
    (hout : ∀ x ∈ c.exceptionTable.toList, covers x (pc + 7) = false)
    (hRframes : names.length + 3 < R.frames) (hRlocals : (rest.map fun v => v.category).sum + (13 * (names.length + 1) + 42) ≤ R.locals) (hRcells : cells + 1 ≤ R.cells) (hRslots : slots + 6 ≤ R.slots) (hlocks : meth.locks = false)
    (hx : ∀ t : State, s.vm.Alike t.vm → H.size ≤ t.heap.size → (∀ q : Nat, q < H.size → t.heap[q]? = H[q]?) → XC cls s t)
    (hf : ∀ z ∈ locs, free z.base) (hc : cells + 1 ≤ mc) (hs : slots + 6 ≤ ms) :
    W p l e R s m args below meth c H locs cells slots (vx_MQ below Qc XC args s mc ms free) (F0 m pc ls rest) := by
  intro T hT X
  have htr : e.platform.stackTraces = false := (show e.platform.stackTraces = l.stackTraces by rw [X.admits.platform]).trans hl
  have Y := vx_rebase X (R' := { frames := R.frames, locals := R.locals, cells := 1, slots := 6 }) (Nat.le_refl _) (Nat.le_refl _) hRcells hRslots
  obtain ⟨s', hA⟩ : ∃ z, z = (T.setVm s.vm).setFrames (.invoking m args :: below) := ⟨_, rfl⟩
  rw [← hA] at Y
  have hvm : s'.vm = s.vm := by rw [hA]; rfl
  have hhp : s'.heap = H := by rw [hA]; exact hT
  have hW0 : s.WarmedH s'.vm := by rw [hvm]; exact State.WarmedH.refl s
  have hat' : ∀ w ∈ vx_at0 own ic cls names, w.before args s' = true := fun w hw => vx_ot_at hW0 hvm.symm (hgood w (List.mem_cons_of_mem _ (List.mem_cons_of_mem _ hw))) (hat w hw)
  have hk' : (Cond.classLink own ik cls).before args s' = true := vx_ot_at hW0 hvm.symm (hgood _ List.mem_cons_self) hk
  have hini' : (Cond.initialized cls).before args s' = true := vx_ot_at hW0 hvm.symm (hgood _ (List.mem_cons_of_mem _ List.mem_cons_self)) hini
  have hU' : vx_Zq Bundle.tN "UNASSIGNED_STACK" Bundle.steD A s' s'.heap := by rw [hhp]; exact vx_Zq.moved hW0.alike (hU.kept hS.2.1)
  have hN' : vx_Zq Bundle.tN "SUPPRESSED_SENTINEL" Bundle.listD A s' s'.heap := by rw [hhp]; exact vx_Zq.moved hW0.alike (hN.kept hS.2.1)
  have h : ∀ w ∈ Bundle.ownAtoms0 own ic cls names, w.before args s' = true := vx_own hat' (vx_isRefq hU'.1) (vx_isRefq hN'.1) hU'.2.word hN'.2.word
  have hown' : s'.vm.findClass own = some m.cls := by rw [hvm]; exact hown
  have hins : (Cond.instantiable cls 6).before args s' = true := h _ (by simp [Bundle.ownAtoms0])
  obtain ⟨vm₁, cX, kX, hfX, hkX, -, -, X₁, st1⟩ := Y.newCold hexec (own := own) (C := cls) (index := ik) (n := 6) hown' hk' hins hini'
    (g := F0 m pc ls rest) rfl (by rw [hb]; exact d0) (Nat.le_refl _) (Nat.le_refl _)
  generalize hT1 : (T.setVm vm₁).pushCell { cls := cX, slots := kX.instanceTypes.map defaultValue, vm := .none } = T1 at X₁ st1
  have hcat : (Value.ref T.heap.size).category = 1 := rfl
  have hcellA : T1.heap[T.heap.size]? = some (freshCell cX kX) := by rw [← hT1]; exact State.heap_pushCell_size _ _
  have d3' : decode c.code (pc + 3) = .ok (.dup, 1) := by rw [hb]; exact d3
  obtain ⟨U, hsteps, hrun, hend, hW, hsame, ce, hce, hO⟩ := X₁.ctorThrow0 hexec htr (own := own) (cls := cls) (names := names) (ic := ic) hown' hcls hnames h (fun x hx => nomatch hx) hfX hkX hcellA (by rw [hhp, hT]; exact Nat.le_refl _)
    (g := { method := m, pc := pc + 4, locals := ls, stack := .ref T.heap.size :: .ref T.heap.size :: rest, locked := none }) rfl hsize rfl rfl (rest := rest) rfl
    (by rw [hb]; exact d4) (by rw [hb]; exact d7) hout hRframes (by simp only [List.map_cons, List.sum_cons, hcat]; omega) hlocks
  obtain ⟨f1, f2⟩ := vx_frame hsame
  rw [hhp] at f1 f2
  have hWs : s.WarmedH U.vm := State.WarmedH.trans hW0 hW
  have hcl : s.vm.findClass cls = some ce.cls := by
    have h9 := hO.cls
    rw [hvm] at h9
    exact h9
  have hall : s.sameButNew ({ U with vm := s.vm } : State) locs mc ms := by
    subst hA
    obtain ⟨e1, e2⟩ := hsame
    rw [State.setFrames_setFrames] at e1
    have h2 : (T.setVm s.vm).sameButNew ({ U with vm := s.vm } : State) [] (0 + 1) (0 + 6) := ⟨e1, e2⟩
    have h3 := X.same.trans h2
    rw [List.append_nil] at h3
    exact h3.mono hc hs
  refine ⟨U, ?_, .threw T.heap.size, hrun, hend, Or.inr ⟨T.heap.size, rfl, cls, ce, locs, hx U hWs.alike f1 (fun q hq => f2 q hq (fun z hz => nomatch hz)), hce, hO.vm, hcl, hWs, hall, hf⟩⟩
  refine st1 _ ?_
  show Steps p.tables e below (T1.setTop { method := m, pc := pc + 3, locals := ls, stack := .ref T.heap.size :: rest, locked := none }) _
  jvm_step X₁.here [X₁.here.top, hexec, d3', Value.category]
  exact hsteps
/-- 'throw new E("text")': new; dup; ldc; invokespecial; athrow -/
theorem vx_throwS {cc : ByteArray} {pc : Nat} (hexec : p.tables.exec = Jvm.exec) (hb : c.code = cc) (hl : l.stackTraces = false) {own cls text : String} {names : List String} {ik is ic mc ms sa : Nat} {A : Nat → Prop}
    (hown : s.vm.findClass own = some m.cls) (hcls : Bundle.fit cls = true) (hnames : ∀ n ∈ names, Bundle.fit n = true)
    (hk : (Cond.classLink own ik cls).before args s = true) (hini : (Cond.initialized cls).before args s = true) (hstr : vk_R own is text sa s) (hat : ∀ w ∈ vx_atS own ic cls names, w.before args s = true)
    (hgood : ∀ w ∈ Cond.classLink own ik cls :: Cond.initialized cls :: vx_atS own ic cls names, vx_ot w = true)
    (hU : vx_Zq Bundle.tN "UNASSIGNED_STACK" Bundle.steD A s s.heap) (hN : vx_Zq Bundle.tN "SUPPRESSED_SENTINEL" Bundle.listD A s s.heap) (hS : va_S A s.heap H locs) (hsize : ls.size = c.maxLocals)
    (d0 : decode cc pc = .ok (.new ik, 3)) (d3 : decode cc (pc + 3) = .ok (.dup, 1)) (d4 : decode cc (pc + 4) = .ok (.ldc is, 2)) (d6 : decode cc (pc + 6) = .ok (.invokespecial ic, 3)) (d9 : decode cc (pc + 9) = .ok (.athrow, 1))
    (hout : ∀ x ∈ c.exceptionTable.toList, covers x (pc + 9) = false)
    (hRframes : names.length + 3 < R.frames) (hRlocals : (rest.map fun v => v.category).sum + (13 * (names.length + 1) + 43) ≤ R.locals) (hRcells : cells + 1 ≤ R.cells) (hRslots : slots + 6 ≤ R.slots) (hlocks : meth.locks = false)
    (hx : ∀ t : State, s.vm.Alike t.vm → H.size ≤ t.heap.size → (∀ q : Nat, q < H.size → t.heap[q]? = H[q]?) → XC cls s t)
    (hf : ∀ z ∈ locs, free z.base) (hc : cells + 1 ≤ mc) (hs : slots + 6 ≤ ms) :
    W p l e R s m args below meth c H locs cells slots (vx_MQ below Qc XC args s mc ms free) (F0 m pc ls rest) := by
  intro T hT X
  have htr : e.platform.stackTraces = false := (show e.platform.stackTraces = l.stackTraces by rw [X.admits.platform]).trans hl
  have Y := vx_rebase X (R' := { frames := R.frames, locals := R.locals, cells := 1, slots := 6 }) (Nat.le_refl _) (Nat.le_refl _) hRcells hRslots
  obtain ⟨s', hA⟩ : ∃ z, z = (T.setVm s.vm).setFrames (.invoking m args :: below) := ⟨_, rfl⟩
  rw [← hA] at Y
  have hvm : s'.vm = s.vm := by rw [hA]; rfl
  have hhp : s'.heap = H := by rw [hA]; exact hT
  have hW0 : s.WarmedH s'.vm := by rw [hvm]; exact State.WarmedH.refl s
  have hat' : ∀ w ∈ vx_atS own ic cls names, w.before args s' = true := fun w hw => vx_ot_at hW0 hvm.symm (hgood w (List.mem_cons_of_mem _ (List.mem_cons_of_mem _ hw))) (hat w hw)
  have hk' : (Cond.classLink own ik cls).before args s' = true := vx_ot_at hW0 hvm.symm (hgood _ List.mem_cons_self) hk
  have hini' : (Cond.initialized cls).before args s' = true := vx_ot_at hW0 hvm.symm (hgood _ (List.mem_cons_of_mem _ List.mem_cons_self)) hini
  have hU' : vx_Zq Bundle.tN "UNASSIGNED_STACK" Bundle.steD A s' s'.heap := by rw [hhp]; exact vx_Zq.moved hW0.alike (hU.kept hS.2.1)
  have hN' : vx_Zq Bundle.tN "SUPPRESSED_SENTINEL" Bundle.listD A s' s'.heap := by rw [hhp]; exact vx_Zq.moved hW0.alike (hN.kept hS.2.1)
  have h : ∀ w ∈ Bundle.ownAtoms own ic cls names, w.before args s' = true := vx_own hat' (vx_isRefq hU'.1) (vx_isRefq hN'.1) hU'.2.word hN'.2.word
  have hown' : s'.vm.findClass own = some m.cls := by rw [hvm]; exact hown
  have hins : (Cond.instantiable cls 6).before args s' = true := h _ (by simp [Bundle.ownAtoms])
  obtain ⟨vm₁, cX, kX, hfX, hkX, -, -, X₁, st1⟩ := Y.newCold hexec (own := own) (C := cls) (index := ik) (n := 6) hown' hk' hins hini'
    (g := F0 m pc ls rest) rfl (by rw [hb]; exact d0) (Nat.le_refl _) (Nat.le_refl _)
  generalize hT1 : (T.setVm vm₁).pushCell { cls := cX, slots := kX.instanceTypes.map defaultValue, vm := .none } = T1 at X₁ st1
  have hcat : (Value.ref T.heap.size).category = 1 := rfl
  have hcellA : T1.heap[T.heap.size]? = some (freshCell cX kX) := by rw [← hT1]; exact State.heap_pushCell_size _ _
  have d3' : decode c.code (pc + 3) = .ok (.dup, 1) := by rw [hb]; exact d3
  have d4' : decode c.code (pc + 4) = .ok (.ldc is, 2) := by rw [hb]; exact d4
  have hstr' : vk_R own is text sa s' := vk_R.warm hW0 hstr
  obtain ⟨U, hsteps, hrun, hend, hW, hsame, ce, hce, hO⟩ := X₁.ctorThrowS hexec htr (own := own) (cls := cls) (names := names) (ic := ic) hown' hcls hnames h (fun x hx => nomatch hx) hfX hkX hcellA (by rw [hhp, hT]; exact Nat.le_refl _) (msg := .ref sa) rfl
    (g := { method := m, pc := pc + 6, locals := ls, stack := .ref sa :: .ref T.heap.size :: .ref T.heap.size :: rest, locked := none }) rfl hsize rfl rfl (rest := rest) rfl
    (by rw [hb]; exact d6) (by rw [hb]; exact d9) hout hRframes (by simp only [List.map_cons, List.sum_cons, hcat]; omega) hlocks
  obtain ⟨f1, f2⟩ := vx_frame hsame
  rw [hhp] at f1 f2
  have hWs : s.WarmedH U.vm := State.WarmedH.trans hW0 hW
  have hcl : s.vm.findClass cls = some ce.cls := by
    have h9 := hO.cls
    rw [hvm] at h9
    exact h9
  have hall : s.sameButNew ({ U with vm := s.vm } : State) locs mc ms := by
    subst hA
    obtain ⟨e1, e2⟩ := hsame
    rw [State.setFrames_setFrames] at e1
    have h2 : (T.setVm s.vm).sameButNew ({ U with vm := s.vm } : State) [] (0 + 1) (0 + 6) := ⟨e1, e2⟩
    have h3 := X.same.trans h2
    rw [List.append_nil] at h3
    exact h3.mono hc hs
  refine ⟨U, ?_, .threw T.heap.size, hrun, hend, Or.inr ⟨T.heap.size, rfl, cls, ce, locs, hx U hWs.alike f1 (fun q hq => f2 q hq (fun z hz => nomatch hz)), hce, hO.vm, hcl, hWs, hall, hf⟩⟩
  refine st1 _ ?_
  show Steps p.tables e below (T1.setTop { method := m, pc := pc + 3, locals := ls, stack := .ref T.heap.size :: rest, locked := none }) _
  jvm_step X₁.here [X₁.here.top, hexec, d3', Value.category]
  exact X₁.ldcString hexec (own := own) (text := text) (index := is) (a := sa) hown' hstr'.1 hstr'.2
    (g := { method := m, pc := pc + 4, locals := ls, stack := .ref T.heap.size :: .ref T.heap.size :: rest, locked := none }) rfl d4' _ hsteps
/-- 'throw new E("text")', the text by a wide index -/
theorem vx_throwSW {cc : ByteArray} {pc : Nat} (hexec : p.tables.exec = Jvm.exec) (hb : c.code = cc) (hl : l.stackTraces = false) {own cls text : String} {names : List String} {ik is ic mc ms sa : Nat} {A : Nat → Prop}
    (hown : s.vm.findClass own = some m.cls) (hcls : Bundle.fit cls = true) (hnames : ∀ n ∈ names, Bundle.fit n = true)
    (hk : (Cond.classLink own ik cls).before args s = true) (hini : (Cond.initialized cls).before args s = true) (hstr : vk_R own is text sa s) (hat : ∀ w ∈ vx_atS own ic cls names, w.before args s = true)
    (hgood : ∀ w ∈ Cond.classLink own ik cls :: Cond.initialized cls :: vx_atS own ic cls names, vx_ot w = true)
    (hU : vx_Zq Bundle.tN "UNASSIGNED_STACK" Bundle.steD A s s.heap) (hN : vx_Zq Bundle.tN "SUPPRESSED_SENTINEL" Bundle.listD A s s.heap) (hS : va_S A s.heap H locs) (hsize : ls.size = c.maxLocals)
    (d0 : decode cc pc = .ok (.new ik, 3)) (d3 : decode cc (pc + 3) = .ok (.dup, 1)) (d4 : decode cc (pc + 4) = .ok (.ldc_w is, 3)) (d7 : decode cc (pc + 7) = .ok (.invokespecial ic, 3)) (d10 : decode cc (pc + 10) = .ok (.athrow, 1))
    (hout : ∀ x ∈ c.exceptionTable.toList, covers x (pc + 10) = false)
    (hRframes : names.length + 3 < R.frames) (hRlocals : (rest.map fun v => v.category).sum + (13 * (names.length + 1) + 43) ≤ R.locals) (hRcells : cells + 1 ≤ R.cells) (hRslots : slots + 6 ≤ R.slots) (hlocks : meth.locks = false)
    (hx : ∀ t : State, s.vm.Alike t.vm → H.size ≤ t.heap.size → (∀ q : Nat, q < H.size → t.heap[q]? = H[q]?) → XC cls s t)
    (hf : ∀ z ∈ locs, free z.base) (hc : cells + 1 ≤ mc) (hs : slots + 6 ≤ ms) :
    W p l e R s m args below meth c H locs cells slots (vx_MQ below Qc XC args s mc ms free) (F0 m pc ls rest) := by
  intro T hT X
  have htr : e.platform.stackTraces = false := (show e.platform.stackTraces = l.stackTraces by rw [X.admits.platform]).trans hl
  have Y := vx_rebase X (R' := { frames := R.frames, locals := R.locals, cells := 1, slots := 6 }) (Nat.le_refl _) (Nat.le_refl _) hRcells hRslots
  obtain ⟨s', hA⟩ : ∃ z, z = (T.setVm s.vm).setFrames (.invoking m args :: below) := ⟨_, rfl⟩
  rw [← hA] at Y
  have hvm : s'.vm = s.vm := by rw [hA]; rfl
  have hhp : s'.heap = H := by rw [hA]; exact hT
  have hW0 : s.WarmedH s'.vm := by rw [hvm]; exact State.WarmedH.refl s
  have hat' : ∀ w ∈ vx_atS own ic cls names, w.before args s' = true := fun w hw => vx_ot_at hW0 hvm.symm (hgood w (List.mem_cons_of_mem _ (List.mem_cons_of_mem _ hw))) (hat w hw)
  have hk' : (Cond.classLink own ik cls).before args s' = true := vx_ot_at hW0 hvm.symm (hgood _ List.mem_cons_self) hk
  have hini' : (Cond.initialized cls).before args s' = true := vx_ot_at hW0 hvm.symm (hgood _ (List.mem_cons_of_mem _ List.mem_cons_self)) hini
  have hU' : vx_Zq Bundle.tN "UNASSIGNED_STACK" Bundle.steD A s' s'.heap := by rw [hhp]; exact vx_Zq.moved hW0.alike (hU.kept hS.2.1)
  have hN' : vx_Zq Bundle.tN "SUPPRESSED_SENTINEL" Bundle.listD A s' s'.heap := by rw [hhp]; exact vx_Zq.moved hW0.alike (hN.kept hS.2.1)
  have h : ∀ w ∈ Bundle.ownAtoms own ic cls names, w.before args s' = true := vx_own hat' (vx_isRefq hU'.1) (vx_isRefq hN'.1) hU'.2.word hN'.2.word
  have hown' : s'.vm.findClass own = some m.cls := by rw [hvm]; exact hown
  have hins : (Cond.instantiable cls 6).before args s' = true := h _ (by simp [Bundle.ownAtoms])
  obtain ⟨vm₁, cX, kX, hfX, hkX, -, -, X₁, st1⟩ := Y.newCold hexec (own := own) (C := cls) (index := ik) (n := 6) hown' hk' hins hini'
    (g := F0 m pc ls rest) rfl (by rw [hb]; exact d0) (Nat.le_refl _) (Nat.le_refl _)
  generalize hT1 : (T.setVm vm₁).pushCell { cls := cX, slots := kX.instanceTypes.map defaultValue, vm := .none } = T1 at X₁ st1
  have hcat : (Value.ref T.heap.size).category = 1 := rfl
  have hcellA : T1.heap[T.heap.size]? = some (freshCell cX kX) := by rw [← hT1]; exact State.heap_pushCell_size _ _
  have d3' : decode c.code (pc + 3) = .ok (.dup, 1) := by rw [hb]; exact d3
  have d4' : decode c.code (pc + 4) = .ok (.ldc_w is, 3) := by rw [hb]; exact d4
  have hstr' : vk_R own is text sa s' := vk_R.warm hW0 hstr
  obtain ⟨U, hsteps, hrun, hend, hW, hsame, ce, hce, hO⟩ := X₁.ctorThrowS hexec htr (own := own) (cls := cls) (names := names) (ic := ic) hown' hcls hnames h (fun x hx => nomatch hx) hfX hkX hcellA (by rw [hhp, hT]; exact Nat.le_refl _) (msg := .ref sa) rfl
    (g := { method := m, pc := pc + 7, locals := ls, stack := .ref sa :: .ref T.heap.size :: .ref T.heap.size :: rest, locked := none }) rfl hsize rfl rfl (rest := rest) rfl
    (by rw [hb]; exact d7) (by rw [hb]; exact d10) hout hRframes (by simp only [List.map_cons, List.sum_cons, hcat]; omega) hlocks
  obtain ⟨f1, f2⟩ := vx_frame hsame
  rw [hhp] at f1 f2
  have hWs : s.WarmedH U.vm := State.WarmedH.trans hW0 hW
  have hcl : s.vm.findClass cls = some ce.cls := by
    have h9 := hO.cls
    rw [hvm] at h9
    exact h9
  have hall : s.sameButNew ({ U with vm := s.vm } : State) locs mc ms := by
    subst hA
    obtain ⟨e1, e2⟩ := hsame
    rw [State.setFrames_setFrames] at e1
    have h2 : (T.setVm s.vm).sameButNew ({ U with vm := s.vm } : State) [] (0 + 1) (0 + 6) := ⟨e1, e2⟩
    have h3 := X.same.trans h2
    rw [List.append_nil] at h3
    exact h3.mono hc hs
  refine ⟨U, ?_, .threw T.heap.size, hrun, hend, Or.inr ⟨T.heap.size, rfl, cls, ce, locs, hx U hWs.alike f1 (fun q hq => f2 q hq (fun z hz => nomatch hz)), hce, hO.vm, hcl, hWs, hall, hf⟩⟩
  refine st1 _ ?_
  show Steps p.tables e below (T1.setTop { method := m, pc := pc + 3, locals := ls, stack := .ref T.heap.size :: rest, locked := none }) _
  jvm_step X₁.here [X₁.here.top, hexec, d3', Value.category]
  exact X₁.ldcStringW hexec (own := own) (text := text) (index := is) (a := sa) hown' hstr'.1 hstr'.2
    (g := { method := m, pc := pc + 4, locals := ls, stack := .ref T.heap.size :: .ref T.heap.size :: rest, locked := none }) rfl d4' _ hsteps
end Ends
section Bodies
variable {l : Launch}
theorem vx_ofW {y : MethodName} {ws ws' : List Cond} {rm : Room} {Pc : Array Value → State → Prop} {Qc : Array Value → State → Outcome → State → Prop} {XC : String → State → State → Prop} {mc ms : Nat} {free : Addr → Prop} {cc : ByteArray} {maxL : Nat} {ret : Option FieldType}
    (hy : plainName y.cls = true) (hw : ws = Cond.code y cc maxL ret :: ws')
    (body : ∀ p e s m args below meth c s₁, BodyLoose p l y (headSpec ws rm) cc maxL ret e s m args below meth c s₁ → c.maxLocals = maxL → (∀ x ∈ c.exceptionTable.toList, False) → Pc args s →
      W p l e (headSpec ws rm).room s m args below meth c s.heap [] 0 0 (vx_MQ below Qc XC args s mc ms free) (entryFrame m args maxL)) : vx_Met l y ws rm Pc Qc XC mc ms free := by
  refine MetFree.of_bodyS (code := cc) (maxLocals := maxL) (ret := ret) hy ?_ ?_
  · intro args s m h hn
    obtain ⟨meth, c, h1, h2, h3, h4, h5, h6, -, -⟩ := Cond.code_spec hn (atoms_spec (ws := ws) h _ (by rw [hw]; exact List.mem_cons_self))
    exact ⟨meth, c, h1, h2, h3, h4, h5, h6⟩
  · intro p e s m args below meth c s₁ B hml hP _
    have hh0 : s₁.heap = s.heap := by rw [B.state]; rfl
    have ht : ∀ x ∈ c.exceptionTable.toList, False := by
      obtain ⟨meth9, c9, h1, h2, -, -, -, -, h7, -⟩ := Cond.code_spec B.named (atoms_spec (ws := ws) B.pre _ (by rw [hw]; exact List.mem_cons_self))
      cases Option.some.inj (h1.symm.trans B.method)
      cases Option.some.inj (h2.symm.trans (Stand.of_body B).code)
      intro x hx
      rw [Array.isEmpty_iff.mp h7] at hx
      cases hx
    obtain ⟨t, a1, o, b1, b2, b3⟩ := body p e s m args below meth c s₁ B hml ht hP s₁ hh0 (Stand.of_body B)
    exact ⟨t, o, a1, b1, b2, b3⟩
/-- the table of a body with handlers -/
theorem vx_table {p : Program} {x y : MethodName} {S : Spec} {cc bytes : ByteArray} {maxL maxL' : Nat} {ret ret' : Option FieldType} {e : Env} {s s₁ : State} {m : MethodId} {args : Array Value} {below : List Frame} {meth : Method} {c : Code} {hh : List (Nat × Nat × Nat × Nat)}
    (B : BodyLoose p l y S cc maxL ret e s m args below meth c s₁) (h : (Cond.codeWith y bytes maxL' ret' hh).before args s = true) : c.exceptionTable.toList = tableOf hh := by
  obtain ⟨m9, meth9, c9, hn9, h1, h2, -, -, h6, -⟩ := Cond.codeWith_spec h
  cases Option.some.inj (hn9.symm.trans B.named)
  cases Option.some.inj (h1.symm.trans B.method)
  cases Option.some.inj (h2.symm.trans (Stand.of_body B).code)
  rw [← h6, table_eq]
end Bodies
end VXA
/-! ===== END ===== -/
end
section
/-! the words that every method may use, and how they are carried to warmer tables -/
def x_gb (w : Cond) : Bool := match w with
  | .arrayClass _ => true
  | .methodLinkNest .. => true
  | .fieldLinkNest .. => true
  | .castable .. => true
  | .declares _ => true
  | .privateMethod _ => true
  | .arrayOver (.object _) => true
  | .not (.castable ..) => true
  | w => w.onTables && w.keeps
theorem x_wat {args a' : Array Value} {s U : State} (hW : s.WarmedH U.vm) {w : Cond} (hg : x_gb w = true) (h : w.before args s = true) : w.before a' U = true := by
  unfold x_gb at hg
  split at hg
  · exact word_at hW (Or.inr ⟨_, rfl⟩) h
  · exact va_Nw.use rfl (va_Nw.warmM hW (va_Nw.of rfl h))
  · exact va_Nw.use rfl (va_Nw.warmF hW (va_Nw.of rfl h))
  · exact va_Nw.use rfl (va_Nw.warmC hW (va_Nw.of rfl h))
  · exact va_Nw.use rfl (va_Nw.warmD hW (va_Nw.of rfl h))
  · next x => exact va_tabs rfl (rfl : (s.setVm U.vm).vm = U.vm) (by rw [Cond.privateMethod_setVm hW.alike]; exact h)
  · exact va_AO.use (va_AO.moved hW.alike (va_AO.of h))
  · next a b =>
    have h1 := Cond.castAtom_setVm hW.alike (.not (.castable a b)) rfl h
    exact h1
  · exact word_at hW (Or.inl hg) h
def x_nc : List Cond := [Cond.not (Cond.castable "java/lang/IllegalStateException" "java/lang/IllegalArgumentException"), Cond.not (Cond.castable "java/lang/UnsupportedOperationException" "java/lang/IllegalArgumentException"), Cond.not (Cond.castable "java/lang/ArithmeticException" "java/lang/IllegalArgumentException"), Cond.not (Cond.castable "java/lang/IndexOutOfBoundsException" "java/lang/IllegalArgumentException"), Cond.not (Cond.castable "java/lang/IllegalArgumentException" "java/lang/IllegalStateException"), Cond.not (Cond.castable "java/lang/UnsupportedOperationException" "java/lang/IllegalStateException"), Cond.not (Cond.castable "java/lang/ArithmeticException" "java/lang/IllegalStateException"), Cond.not (Cond.castable "java/lang/IndexOutOfBoundsException" "java/lang/IllegalStateException"), Cond.not (Cond.castable "java/lang/IllegalArgumentException" "java/lang/UnsupportedOperationException"), Cond.not (Cond.castable "java/lang/IllegalStateException" "java/lang/UnsupportedOperationException"), Cond.not (Cond.castable "java/lang/ArithmeticException" "java/lang/UnsupportedOperationException"), Cond.not (Cond.castable "java/lang/IndexOutOfBoundsException" "java/lang/UnsupportedOperationException"), Cond.not (Cond.castable "java/lang/IllegalArgumentException" "java/lang/ArithmeticException"), Cond.not (Cond.castable "java/lang/IllegalStateException" "java/lang/ArithmeticException"), Cond.not (Cond.castable "java/lang/UnsupportedOperationException" "java/lang/ArithmeticException"), Cond.not (Cond.castable "java/lang/IndexOutOfBoundsException" "java/lang/ArithmeticException"), Cond.not (Cond.castable "java/lang/IllegalArgumentException" "java/lang/IndexOutOfBoundsException"), Cond.not (Cond.castable "java/lang/IllegalStateException" "java/lang/IndexOutOfBoundsException"), Cond.not (Cond.castable "java/lang/UnsupportedOperationException" "java/lang/IndexOutOfBoundsException"), Cond.not (Cond.castable "java/lang/ArithmeticException" "java/lang/IndexOutOfBoundsException")]
def x_Wd : List Cond := lw_tbl.filter x_gb ++ x_nc
theorem x_good : ∀ w ∈ x_Wd, x_gb w = true := by
  intro w hw
  rcases List.mem_append.mp hw with h | h
  · exact (List.mem_filter.mp h).2
  · have : x_nc.all x_gb = true := by decide +kernel
    exact List.all_eq_true.mp this w h
theorem x_inT {w : Cond} (h : w ∈ tables_1) (hg : x_gb w = true) : w ∈ x_Wd := List.mem_append_left _ (List.mem_filter.mpr ⟨List.mem_append_right _ h, hg⟩)
theorem x_inN {w : Cond} (k : Nat) (h : x_nc[k]? = some w) : w ∈ x_Wd := List.mem_append_right _ (List.mem_of_getElem? h)
theorem x_i1 {w : Cond} (k : Nat) (h : tables_1_1[k]? = some w) (hg : x_gb w = true) : w ∈ x_Wd := x_inT (List.mem_append_left _ (List.mem_of_getElem? h)) hg
theorem x_i2 {w : Cond} (k : Nat) (h : tables_1_2[k]? = some w) (hg : x_gb w = true) : w ∈ x_Wd := x_inT (List.mem_append_right _ (List.mem_append_left _ (List.mem_of_getElem? h))) hg
theorem x_i3 {w : Cond} (k : Nat) (h : tables_1_3[k]? = some w) (hg : x_gb w = true) : w ∈ x_Wd := x_inT (List.mem_append_right _ (List.mem_append_right _ (List.mem_append_left _ (List.mem_of_getElem? h)))) hg
theorem x_i4 {w : Cond} (k : Nat) (h : tables_1_4[k]? = some w) (hg : x_gb w = true) : w ∈ x_Wd := x_inT (List.mem_append_right _ (List.mem_append_right _ (List.mem_append_right _ (List.mem_append_left _ (List.mem_of_getElem? h))))) hg
theorem x_i5 {w : Cond} (k : Nat) (h : tables_1_5[k]? = some w) (hg : x_gb w = true) : w ∈ x_Wd := x_inT (List.mem_append_right _ (List.mem_append_right _ (List.mem_append_right _ (List.mem_append_right _ (List.mem_append_left _ (List.mem_of_getElem? h)))))) hg
theorem x_i6 {w : Cond} (k : Nat) (h : tables_1_6[k]? = some w) (hg : x_gb w = true) : w ∈ x_Wd := x_inT (List.mem_append_right _ (List.mem_append_right _ (List.mem_append_right _ (List.mem_append_right _ (List.mem_append_right _ (List.mem_append_left _ (List.mem_of_getElem? h))))))) hg
theorem x_i7 {w : Cond} (k : Nat) (h : tables_1_7[k]? = some w) (hg : x_gb w = true) : w ∈ x_Wd := x_inT (List.mem_append_right _ (List.mem_append_right _ (List.mem_append_right _ (List.mem_append_right _ (List.mem_append_right _ (List.mem_append_right _ (List.mem_of_getElem? h))))))) hg
-- privs: ['lw_privs_1', 'lw_privs_2', 'lw_privs_3', 'lw_privs_4']
theorem x_p1 {y : MethodName × Nat} (h : y ∈ lw_privs_1) : y ∈ lw_privs := List.mem_append_left _ h
theorem x_p2 {y : MethodName × Nat} (h : y ∈ lw_privs_2) : y ∈ lw_privs := List.mem_append_right _ (List.mem_append_left _ h)
theorem x_p3 {y : MethodName × Nat} (h : y ∈ lw_privs_3) : y ∈ lw_privs := List.mem_append_right _ (List.mem_append_right _ (List.mem_append_left _ h))
theorem x_p4 {y : MethodName × Nat} (h : y ∈ lw_privs_4) : y ∈ lw_privs := List.mem_append_right _ (List.mem_append_right _ (List.mem_append_right _ (h)))
theorem x_sel {q : MethodName × Nat} (h : q ∈ lw_privs) : Cond.selects q.1.cls q.1 q.1 ∈ x_Wd := List.mem_append_left _ (List.mem_filter.mpr ⟨List.mem_append_left _ (List.mem_map.mpr ⟨q, h, rfl⟩), rfl⟩)
end
section
/-! the classes whose objects the heap holds; the types of arrays -/
def xT0 : u_T := fun k => match k with
  | 0 => ("CashLink", "network", "LCashLink$Network;", true)
  | 1 => ("CashLink", "bank", "LCashLink$Bank;", true)
  | 2 => ("CashLink", "machines", "[LCashLink$Machine;", true)
  | _ => ("CashLink", "takenBy", "[I", true)
def xY0 : Nat → FieldType := fun k => match k with
  | 0 => .object "CashLink$Network"
  | 1 => .object "CashLink$Bank"
  | 2 => .array (.object "CashLink$Machine")
  | _ => .array (.int)
def xT1 : u_T := fun k => match k with
  | _ => ("CashLink$Network", "messages", "Ljava/util/ArrayList;", true)
def xY1 : Nat → FieldType := fun k => match k with
  | _ => .object "java/util/ArrayList"
def xT2 : u_T := fun k => match k with
  | 0 => ("CashLink$Bank", "network", "LCashLink$Network;", true)
  | 1 => ("CashLink$Bank", "journal", "LCashLink$Journal;", true)
  | 2 => ("CashLink$Bank", "balances", "[I", true)
  | 3 => ("CashLink$Bank", "booked", "I", false)
  | _ => ("CashLink$Bank", "wrongTotals", "I", false)
def xY2 : Nat → FieldType := fun k => match k with
  | 0 => .object "CashLink$Network"
  | 1 => .object "CashLink$Journal"
  | 2 => .array (.int)
  | 3 => .int
  | _ => .int
def xT3 : u_T := fun k => match k with
  | 0 => ("CashLink$Machine", "id", "I", true)
  | 1 => ("CashLink$Machine", "network", "LCashLink$Network;", true)
  | 2 => ("CashLink$Machine", "takenBy", "[I", true)
  | 3 => ("CashLink$Machine", "journal", "LCashLink$Journal;", true)
  | 4 => ("CashLink$Machine", "dispenser", "LCashLink$Dispenser;", true)
  | 5 => ("CashLink$Machine", "state", "LCashLink$State;", false)
  | 6 => ("CashLink$Machine", "account", "I", false)
  | 7 => ("CashLink$Machine", "wrongPins", "I", false)
  | 8 => ("CashLink$Machine", "trace", "I", false)
  | 9 => ("CashLink$Machine", "amount", "I", false)
  | _ => ("CashLink$Machine", "voids", "Ljava/util/ArrayList;", true)
def xY3 : Nat → FieldType := fun k => match k with
  | 0 => .int
  | 1 => .object "CashLink$Network"
  | 2 => .array (.int)
  | 3 => .object "CashLink$Journal"
  | 4 => .object "CashLink$Dispenser"
  | 5 => .object "CashLink$State"
  | 6 => .int
  | 7 => .int
  | 8 => .int
  | 9 => .int
  | _ => .object "java/util/ArrayList"
def xT4 : u_T := fun k => match k with
  | 0 => ("CashLink$Journal", "entries", "Ljava/util/ArrayList;", true)
  | 1 => ("CashLink$Journal", "limit", "I", true)
  | 2 => ("CashLink$Journal", "powered", "Z", false)
  | 3 => ("CashLink$Journal", "recordsBeforeFailure", "I", false)
  | _ => ("CashLink$Journal", "bytesAtFailure", "I", false)
def xY4 : Nat → FieldType := fun k => match k with
  | 0 => .object "java/util/ArrayList"
  | 1 => .int
  | 2 => .boolean
  | 3 => .int
  | _ => .int
def xT5 : u_T := fun k => match k with
  | 0 => ("CashLink$Dispenser", "notes", "[I", true)
  | 1 => ("CashLink$Dispenser", "jamAfter", "I", false)
  | 2 => ("CashLink$Dispenser", "lastTrace", "I", false)
  | 3 => ("CashLink$Dispenser", "lastValue", "I", false)
  | _ => ("CashLink$Dispenser", "allValue", "I", false)
def xY5 : Nat → FieldType := fun k => match k with
  | 0 => .array (.int)
  | 1 => .int
  | 2 => .int
  | 3 => .int
  | _ => .int
def xT6 : u_T := fun k => match k with
  | 0 => ("CashLink$Entry", "kind", "I", true)
  | 1 => ("CashLink$Entry", "machine", "I", true)
  | 2 => ("CashLink$Entry", "trace", "I", true)
  | 3 => ("CashLink$Entry", "account", "I", true)
  | 4 => ("CashLink$Entry", "value", "I", true)
  | _ => ("CashLink$Entry", "answer", "I", true)
def xY6 : Nat → FieldType := fun k => match k with
  | 0 => .int
  | 1 => .int
  | 2 => .int
  | 3 => .int
  | 4 => .int
  | _ => .int
def xT7 : u_T := fun k => match k with
  | 0 => ("CashLink$Message", "type", "LCashLink$Type;", true)
  | 1 => ("CashLink$Message", "machine", "I", true)
  | 2 => ("CashLink$Message", "trace", "I", true)
  | 3 => ("CashLink$Message", "account", "I", true)
  | 4 => ("CashLink$Message", "amount", "I", true)
  | _ => ("CashLink$Message", "answer", "I", true)
def xY7 : Nat → FieldType := fun k => match k with
  | 0 => .object "CashLink$Type"
  | 1 => .int
  | 2 => .int
  | 3 => .int
  | 4 => .int
  | _ => .int
def xT8 : u_T := fun k => match k with
  | 0 => ("java/util/ArrayList", "elementData", "[Ljava/lang/Object;", false)
  | 1 => ("java/util/ArrayList", "size", "I", false)
  | _ => ("java/util/AbstractList", "modCount", "I", false)
def xY8 : Nat → FieldType := fun k => match k with
  | 0 => .array (.object "java/lang/Object")
  | 1 => .int
  | _ => .int
def xT9 : u_T := fun k => match k with
  | 0 => ("java/lang/AbstractStringBuilder", "value", "[B", false)
  | 1 => ("java/lang/AbstractStringBuilder", "coder", "B", false)
  | 2 => ("java/lang/AbstractStringBuilder", "maybeLatin1", "Z", false)
  | _ => ("java/lang/AbstractStringBuilder", "count", "I", false)
def xY9 : Nat → FieldType := fun k => match k with
  | 0 => .array (.byte)
  | 1 => .byte
  | 2 => .boolean
  | _ => .int
def xT10 : u_T := fun k => match k with
  | 0 => ("CashLinkModel", "rKind", "[I", true)
  | 1 => ("CashLinkModel", "rMachine", "[I", true)
  | 2 => ("CashLinkModel", "rTrace", "[I", true)
  | 3 => ("CashLinkModel", "rA", "[I", true)
  | 4 => ("CashLinkModel", "rB", "[I", true)
  | 5 => ("CashLinkModel", "rC", "[I", true)
  | 6 => ("CashLinkModel", "records", "[I", true)
  | 7 => ("CashLinkModel", "left", "[I", true)
  | 8 => ("CashLinkModel", "bytes", "[I", true)
  | 9 => ("CashLinkModel", "isBankOn", "Z", false)
  | 10 => ("CashLinkModel", "state", "[I", true)
  | 11 => ("CashLinkModel", "card", "[I", true)
  | 12 => ("CashLinkModel", "wrong", "[I", true)
  | 13 => ("CashLinkModel", "notes", "[I", true)
  | 14 => ("CashLinkModel", "lastDone", "[I", true)
  | 15 => ("CashLinkModel", "lastValue", "[I", true)
  | 16 => ("CashLinkModel", "allOut", "[I", true)
  | 17 => ("CashLinkModel", "jam", "[I", true)
  | 18 => ("CashLinkModel", "taken", "[I", true)
  | 19 => ("CashLinkModel", "mType", "[I", true)
  | 20 => ("CashLinkModel", "mAccount", "[I", true)
  | 21 => ("CashLinkModel", "mAmount", "[I", true)
  | 22 => ("CashLinkModel", "mTrace", "[I", true)
  | 23 => ("CashLinkModel", "mAnswer", "[I", true)
  | 24 => ("CashLinkModel", "mMachine", "[I", true)
  | 25 => ("CashLinkModel", "messages", "I", false)
  | 26 => ("CashLinkModel", "thrown", "I", false)
  | 27 => ("CashLinkModel", "best", "[I", true)
  | 28 => ("CashLinkModel", "old", "[I", true)
  | 29 => ("CashLinkModel", "row", "[B", true)
  | _ => ("CashLinkModel", "size", "I", false)
def xY10 : Nat → FieldType := fun k => match k with
  | 0 => .array (.int)
  | 1 => .array (.int)
  | 2 => .array (.int)
  | 3 => .array (.int)
  | 4 => .array (.int)
  | 5 => .array (.int)
  | 6 => .array (.int)
  | 7 => .array (.int)
  | 8 => .array (.int)
  | 9 => .boolean
  | 10 => .array (.int)
  | 11 => .array (.int)
  | 12 => .array (.int)
  | 13 => .array (.int)
  | 14 => .array (.int)
  | 15 => .array (.int)
  | 16 => .array (.int)
  | 17 => .array (.int)
  | 18 => .array (.int)
  | 19 => .array (.int)
  | 20 => .array (.int)
  | 21 => .array (.int)
  | 22 => .array (.int)
  | 23 => .array (.int)
  | 24 => .array (.int)
  | 25 => .int
  | 26 => .int
  | 27 => .array (.int)
  | 28 => .array (.int)
  | 29 => .array (.byte)
  | _ => .int
def xT11 : u_T := fun _ => ("", "", "", false)
def xY11 : Nat → FieldType := fun _ => .int
def xT12 : u_T := fun _ => ("", "", "", false)
def xY12 : Nat → FieldType := fun _ => .int
def xT13 : u_T := fun _ => ("", "", "", false)
def xY13 : Nat → FieldType := fun _ => .int
def xT14 : u_T := fun _ => ("", "", "", false)
def xY14 : Nat → FieldType := fun _ => .int
def xT15 : u_T := fun _ => ("", "", "", false)
def xY15 : Nat → FieldType := fun _ => .int
def x_cls : List vw_C := [("CashLink", xT0, 4), ("CashLink$Network", xT1, 1), ("CashLink$Bank", xT2, 5), ("CashLink$Machine", xT3, 11), ("CashLink$Journal", xT4, 5), ("CashLink$Dispenser", xT5, 5), ("CashLink$Entry", xT6, 6), ("CashLink$Message", xT7, 6), ("java/util/ArrayList", xT8, 3), ("java/lang/StringBuilder", xT9, 4), ("CashLinkModel", xT10, 31), ("java/lang/IllegalArgumentException", xT11, 0), ("java/lang/IllegalStateException", xT12, 0), ("java/lang/UnsupportedOperationException", xT13, 0), ("java/lang/ArithmeticException", xT14, 0), ("java/lang/IndexOutOfBoundsException", xT15, 0)]
theorem xc0 : x_cls[0]? = some ("CashLink", xT0, 4) := rfl
theorem xw0 : ∀ w ∈ u_ws "CashLink" xT0 4, w ∈ x_Wd := by
  intro w hw
  obtain ⟨k, hk, rfl⟩ := List.mem_map.mp hw
  have hk := List.mem_range.mp hk
  match k, hk with
  | 0, _ => exact x_i1 205 rfl rfl
  | 1, _ => exact x_i1 207 rfl rfl
  | 2, _ => exact x_i1 209 rfl rfl
  | 3, _ => exact x_i1 211 rfl rfl
  | k + 4, h => omega
theorem xt0 : ∀ k, k < 4 → parseFieldDescriptor (xT0 k).2.2.1 = some (xY0 k) := by decide +kernel
theorem xn0 : ∀ a, a < 4 → ∀ b, b < 4 → a ≠ b → (xT0 a).2.1 ≠ (xT0 b).2.1 := by decide +kernel
theorem xc1 : x_cls[1]? = some ("CashLink$Network", xT1, 1) := rfl
theorem xw1 : ∀ w ∈ u_ws "CashLink$Network" xT1 1, w ∈ x_Wd := by
  intro w hw
  obtain ⟨k, hk, rfl⟩ := List.mem_map.mp hw
  have hk := List.mem_range.mp hk
  match k, hk with
  | 0, _ => exact x_i1 79 rfl rfl
  | k + 1, h => omega
theorem xt1 : ∀ k, k < 1 → parseFieldDescriptor (xT1 k).2.2.1 = some (xY1 k) := by decide +kernel
theorem xn1 : ∀ a, a < 1 → ∀ b, b < 1 → a ≠ b → (xT1 a).2.1 ≠ (xT1 b).2.1 := by decide +kernel
theorem xc2 : x_cls[2]? = some ("CashLink$Bank", xT2, 5) := rfl
theorem xw2 : ∀ w ∈ u_ws "CashLink$Bank" xT2 5, w ∈ x_Wd := by
  intro w hw
  obtain ⟨k, hk, rfl⟩ := List.mem_map.mp hw
  have hk := List.mem_range.mp hk
  match k, hk with
  | 0, _ => exact x_i1 120 rfl rfl
  | 1, _ => exact x_i1 122 rfl rfl
  | 2, _ => exact x_i1 124 rfl rfl
  | 3, _ => exact x_i1 126 rfl rfl
  | 4, _ => exact x_i1 128 rfl rfl
  | k + 5, h => omega
theorem xt2 : ∀ k, k < 5 → parseFieldDescriptor (xT2 k).2.2.1 = some (xY2 k) := by decide +kernel
theorem xn2 : ∀ a, a < 5 → ∀ b, b < 5 → a ≠ b → (xT2 a).2.1 ≠ (xT2 b).2.1 := by decide +kernel
theorem xc3 : x_cls[3]? = some ("CashLink$Machine", xT3, 11) := rfl
theorem xw3 : ∀ w ∈ u_ws "CashLink$Machine" xT3 11, w ∈ x_Wd := by
  intro w hw
  obtain ⟨k, hk, rfl⟩ := List.mem_map.mp hw
  have hk := List.mem_range.mp hk
  match k, hk with
  | 0, _ => exact x_i1 178 rfl rfl
  | 1, _ => exact x_i1 180 rfl rfl
  | 2, _ => exact x_i1 182 rfl rfl
  | 3, _ => exact x_i1 184 rfl rfl
  | 4, _ => exact x_i1 186 rfl rfl
  | 5, _ => exact x_i1 188 rfl rfl
  | 6, _ => exact x_i1 190 rfl rfl
  | 7, _ => exact x_i1 192 rfl rfl
  | 8, _ => exact x_i1 194 rfl rfl
  | 9, _ => exact x_i1 196 rfl rfl
  | 10, _ => exact x_i1 198 rfl rfl
  | k + 11, h => omega
theorem xt3 : ∀ k, k < 11 → parseFieldDescriptor (xT3 k).2.2.1 = some (xY3 k) := by decide +kernel
theorem xn3 : ∀ a, a < 11 → ∀ b, b < 11 → a ≠ b → (xT3 a).2.1 ≠ (xT3 b).2.1 := by decide +kernel
theorem xc4 : x_cls[4]? = some ("CashLink$Journal", xT4, 5) := rfl
theorem xw4 : ∀ w ∈ u_ws "CashLink$Journal" xT4 5, w ∈ x_Wd := by
  intro w hw
  obtain ⟨k, hk, rfl⟩ := List.mem_map.mp hw
  have hk := List.mem_range.mp hk
  match k, hk with
  | 0, _ => exact x_i1 101 rfl rfl
  | 1, _ => exact x_i1 103 rfl rfl
  | 2, _ => exact x_i1 105 rfl rfl
  | 3, _ => exact x_i1 107 rfl rfl
  | 4, _ => exact x_i1 109 rfl rfl
  | k + 5, h => omega
theorem xt4 : ∀ k, k < 5 → parseFieldDescriptor (xT4 k).2.2.1 = some (xY4 k) := by decide +kernel
theorem xn4 : ∀ a, a < 5 → ∀ b, b < 5 → a ≠ b → (xT4 a).2.1 ≠ (xT4 b).2.1 := by decide +kernel
theorem xc5 : x_cls[5]? = some ("CashLink$Dispenser", xT5, 5) := rfl
theorem xw5 : ∀ w ∈ u_ws "CashLink$Dispenser" xT5 5, w ∈ x_Wd := by
  intro w hw
  obtain ⟨k, hk, rfl⟩ := List.mem_map.mp hw
  have hk := List.mem_range.mp hk
  match k, hk with
  | 0, _ => exact x_i1 150 rfl rfl
  | 1, _ => exact x_i1 152 rfl rfl
  | 2, _ => exact x_i1 154 rfl rfl
  | 3, _ => exact x_i1 156 rfl rfl
  | 4, _ => exact x_i1 158 rfl rfl
  | k + 5, h => omega
theorem xt5 : ∀ k, k < 5 → parseFieldDescriptor (xT5 k).2.2.1 = some (xY5 k) := by decide +kernel
theorem xn5 : ∀ a, a < 5 → ∀ b, b < 5 → a ≠ b → (xT5 a).2.1 ≠ (xT5 b).2.1 := by decide +kernel
theorem xc6 : x_cls[6]? = some ("CashLink$Entry", xT6, 6) := rfl
theorem xw6 : ∀ w ∈ u_ws "CashLink$Entry" xT6 6, w ∈ x_Wd := by
  intro w hw
  obtain ⟨k, hk, rfl⟩ := List.mem_map.mp hw
  have hk := List.mem_range.mp hk
  match k, hk with
  | 0, _ => exact x_i2 165 rfl rfl
  | 1, _ => exact x_i2 167 rfl rfl
  | 2, _ => exact x_i2 169 rfl rfl
  | 3, _ => exact x_i2 171 rfl rfl
  | 4, _ => exact x_i2 173 rfl rfl
  | 5, _ => exact x_i2 175 rfl rfl
  | k + 6, h => omega
theorem xt6 : ∀ k, k < 6 → parseFieldDescriptor (xT6 k).2.2.1 = some (xY6 k) := by decide +kernel
theorem xn6 : ∀ a, a < 6 → ∀ b, b < 6 → a ≠ b → (xT6 a).2.1 ≠ (xT6 b).2.1 := by decide +kernel
theorem xc7 : x_cls[7]? = some ("CashLink$Message", xT7, 6) := rfl
theorem xw7 : ∀ w ∈ u_ws "CashLink$Message" xT7 6, w ∈ x_Wd := by
  intro w hw
  obtain ⟨k, hk, rfl⟩ := List.mem_map.mp hw
  have hk := List.mem_range.mp hk
  match k, hk with
  | 0, _ => exact x_i3 40 rfl rfl
  | 1, _ => exact x_i3 42 rfl rfl
  | 2, _ => exact x_i3 44 rfl rfl
  | 3, _ => exact x_i3 46 rfl rfl
  | 4, _ => exact x_i3 48 rfl rfl
  | 5, _ => exact x_i3 50 rfl rfl
  | k + 6, h => omega
theorem xt7 : ∀ k, k < 6 → parseFieldDescriptor (xT7 k).2.2.1 = some (xY7 k) := by decide +kernel
theorem xn7 : ∀ a, a < 6 → ∀ b, b < 6 → a ≠ b → (xT7 a).2.1 ≠ (xT7 b).2.1 := by decide +kernel
theorem xc8 : x_cls[8]? = some ("java/util/ArrayList", xT8, 3) := rfl
theorem xw8 : ∀ w ∈ u_ws "java/util/ArrayList" xT8 3, w ∈ x_Wd := by
  intro w hw
  obtain ⟨k, hk, rfl⟩ := List.mem_map.mp hw
  have hk := List.mem_range.mp hk
  match k, hk with
  | 0, _ => exact x_i1 71 rfl rfl
  | 1, _ => exact x_i1 73 rfl rfl
  | 2, _ => exact x_i1 75 rfl rfl
  | k + 3, h => omega
theorem xt8 : ∀ k, k < 3 → parseFieldDescriptor (xT8 k).2.2.1 = some (xY8 k) := by decide +kernel
theorem xn8 : ∀ a, a < 3 → ∀ b, b < 3 → a ≠ b → (xT8 a).2.1 ≠ (xT8 b).2.1 := by decide +kernel
theorem xc9 : x_cls[9]? = some ("java/lang/StringBuilder", xT9, 4) := rfl
theorem xw9 : ∀ w ∈ u_ws "java/lang/StringBuilder" xT9 4, w ∈ x_Wd := by
  intro w hw
  obtain ⟨k, hk, rfl⟩ := List.mem_map.mp hw
  have hk := List.mem_range.mp hk
  match k, hk with
  | 0, _ => exact x_i4 239 rfl rfl
  | 1, _ => exact x_i5 1 rfl rfl
  | 2, _ => exact x_i5 3 rfl rfl
  | 3, _ => exact x_i5 5 rfl rfl
  | k + 4, h => omega
theorem xt9 : ∀ k, k < 4 → parseFieldDescriptor (xT9 k).2.2.1 = some (xY9 k) := by decide +kernel
theorem xn9 : ∀ a, a < 4 → ∀ b, b < 4 → a ≠ b → (xT9 a).2.1 ≠ (xT9 b).2.1 := by decide +kernel
theorem xc10 : x_cls[10]? = some ("CashLinkModel", xT10, 31) := rfl
theorem xw10 : ∀ w ∈ u_ws "CashLinkModel" xT10 31, w ∈ x_Wd := by
  intro w hw
  obtain ⟨k, hk, rfl⟩ := List.mem_map.mp hw
  have hk := List.mem_range.mp hk
  match k, hk with
  | 0, _ => exact x_i5 236 rfl rfl
  | 1, _ => exact x_i5 238 rfl rfl
  | 2, _ => exact x_i6 0 rfl rfl
  | 3, _ => exact x_i6 2 rfl rfl
  | 4, _ => exact x_i6 4 rfl rfl
  | 5, _ => exact x_i6 6 rfl rfl
  | 6, _ => exact x_i6 8 rfl rfl
  | 7, _ => exact x_i6 10 rfl rfl
  | 8, _ => exact x_i6 12 rfl rfl
  | 9, _ => exact x_i6 14 rfl rfl
  | 10, _ => exact x_i6 16 rfl rfl
  | 11, _ => exact x_i6 18 rfl rfl
  | 12, _ => exact x_i6 20 rfl rfl
  | 13, _ => exact x_i6 22 rfl rfl
  | 14, _ => exact x_i6 24 rfl rfl
  | 15, _ => exact x_i6 26 rfl rfl
  | 16, _ => exact x_i6 28 rfl rfl
  | 17, _ => exact x_i6 30 rfl rfl
  | 18, _ => exact x_i6 32 rfl rfl
  | 19, _ => exact x_i6 34 rfl rfl
  | 20, _ => exact x_i6 36 rfl rfl
  | 21, _ => exact x_i6 38 rfl rfl
  | 22, _ => exact x_i6 40 rfl rfl
  | 23, _ => exact x_i6 42 rfl rfl
  | 24, _ => exact x_i6 44 rfl rfl
  | 25, _ => exact x_i6 46 rfl rfl
  | 26, _ => exact x_i6 48 rfl rfl
  | 27, _ => exact x_i6 50 rfl rfl
  | 28, _ => exact x_i6 52 rfl rfl
  | 29, _ => exact x_i6 54 rfl rfl
  | 30, _ => exact x_i6 56 rfl rfl
  | k + 31, h => omega
theorem xt10 : ∀ k, k < 31 → parseFieldDescriptor (xT10 k).2.2.1 = some (xY10 k) := by decide +kernel
theorem xn10 : ∀ a, a < 31 → ∀ b, b < 31 → a ≠ b → (xT10 a).2.1 ≠ (xT10 b).2.1 := by decide +kernel
theorem xc11 : x_cls[11]? = some ("java/lang/IllegalArgumentException", xT11, 0) := rfl
theorem xw11 : ∀ w ∈ u_ws "java/lang/IllegalArgumentException" xT11 0, w ∈ x_Wd := fun w h => by cases h
theorem xt11 : ∀ k, k < 0 → parseFieldDescriptor (xT11 k).2.2.1 = some (xY11 k) := fun k h => absurd h (Nat.not_lt_zero k)
theorem xc12 : x_cls[12]? = some ("java/lang/IllegalStateException", xT12, 0) := rfl
theorem xw12 : ∀ w ∈ u_ws "java/lang/IllegalStateException" xT12 0, w ∈ x_Wd := fun w h => by cases h
theorem xt12 : ∀ k, k < 0 → parseFieldDescriptor (xT12 k).2.2.1 = some (xY12 k) := fun k h => absurd h (Nat.not_lt_zero k)
theorem xc13 : x_cls[13]? = some ("java/lang/UnsupportedOperationException", xT13, 0) := rfl
theorem xw13 : ∀ w ∈ u_ws "java/lang/UnsupportedOperationException" xT13 0, w ∈ x_Wd := fun w h => by cases h
theorem xt13 : ∀ k, k < 0 → parseFieldDescriptor (xT13 k).2.2.1 = some (xY13 k) := fun k h => absurd h (Nat.not_lt_zero k)
theorem xc14 : x_cls[14]? = some ("java/lang/ArithmeticException", xT14, 0) := rfl
theorem xw14 : ∀ w ∈ u_ws "java/lang/ArithmeticException" xT14 0, w ∈ x_Wd := fun w h => by cases h
theorem xt14 : ∀ k, k < 0 → parseFieldDescriptor (xT14 k).2.2.1 = some (xY14 k) := fun k h => absurd h (Nat.not_lt_zero k)
theorem xc15 : x_cls[15]? = some ("java/lang/IndexOutOfBoundsException", xT15, 0) := rfl
theorem xw15 : ∀ w ∈ u_ws "java/lang/IndexOutOfBoundsException" xT15 0, w ∈ x_Wd := fun w h => by cases h
theorem xt15 : ∀ k, k < 0 → parseFieldDescriptor (xT15 k).2.2.1 = some (xY15 k) := fun k h => absurd h (Nat.not_lt_zero k)
def x_tys : List FieldType := [.int, .long, .byte, .object "java/lang/Object", .object "CashLink$Machine"]
/-- objects that are there from the start: their classes and fields -/
def x_rocls (ci : Nat) : String := match ci with
  | 20 => "CashLink$State"
  | 21 => "CashLink$Type"
  | _ => "java/lang/String"
def x_rof (ci j : Nat) : Option (String × String × String) := match ci, j with
  | 20, 0 => some ("CashLink$State", "number", "I")
  | 21, 0 => some ("CashLink$Type", "digits", "Ljava/lang/String;")
  | 21, 1 => some ("CashLink$Type", "toBank", "Z")
  | 21, 2 => some ("CashLink$Type", "hasAccount", "Z")
  | 21, 3 => some ("CashLink$Type", "hasAnswer", "Z")
  | 22, 0 => some ("java/lang/String", "value", "[B")
  | 22, 1 => some ("java/lang/String", "coder", "B")
  | _, _ => none
def x_strs : List (String × Nat × String) := [("CashLink", 192, "an argument is out of its range"), ("CashLink", 196, "not in this state"), ("CashLink$Machine", 89, "no MIX, or no room in the JOURNAL"), ("CashLink$Journal", 46, "power failed"), ("CashLink", 186, "no such MESSAGE"), ("CashLink", 139, "no byte has a number below 0"), ("CashLink", 183, "nothing of that number is counted"), ("CashLink$Type", 56, "0200"), ("CashLink$Type", 65, "0420"), ("CashLink$Type", 71, "0500"), ("CashLink$Type", 62, "0210"), ("CashLink$Type", 68, "0430"), ("CashLink$Type", 74, "0510")]
end
section
/-! AN ABSTRACT MACHINE over the kit's W: abstract values, cells and heaps; a map t from abstract places (kind, number) to addresses; steps as wp transformers. -/
abbrev XV : Type := Int32 ⊕ (Int64 ⊕ Option (Nat × Nat))
abbrev XA : Type := (Nat → Int32) ⊕ ((Nat → Int64) ⊕ (Nat → Option (Nat × Nat)))
abbrev XC : Type := (Nat × List XV) ⊕ (Nat × Nat × XA)
abbrev XH : Type := Nat → Nat → Option XC
abbrev XT : Type := Nat → Nat → Nat
abbrev XG : Type := va_G × (Nat → ClassId) × Nat × Heap × XT × XH
abbrev xv_i (x : Int32) : XV := .inl x
abbrev xv_l (x : Int64) : XV := .inr (.inl x)
abbrev xv_o (r : Option (Nat × Nat)) : XV := .inr (.inr r)
abbrev xv_r (k i : Nat) : XV := .inr (.inr (some (k, i)))
abbrev xv_n : XV := .inr (.inr none)
/-- an abstract value, concretely -/
def xz (t : XT) (v : XV) : Value := match v with
  | .inl x => .int x
  | .inr (.inl x) => .long x
  | .inr (.inr none) => .null
  | .inr (.inr (some r)) => .ref (t r.1 r.2)
def xz_o (t : XT) (r : Option (Nat × Nat)) : Option Nat := match r with
  | none => none
  | some q => some (t q.1 q.2)
def xz_a (t : XT) (n : Nat) (a : XA) : vp_A := match a with
  | .inl f => (n, .inl f)
  | .inr (.inl f) => (n, .inr (.inl f))
  | .inr (.inr f) => (n, .inr (.inr (.inr (.inr (fun j => xz_o t (f j))))))
theorem xz_rf (t : XT) (r : Option (Nat × Nat)) : va_rf (xz_o t r) = xz t (xv_o r) := by cases r <;> rfl
/-- is it of one word -/
def x_c1 (v : XV) : Bool := match v with
  | .inr (.inl _) => false
  | _ => true
theorem x_c1_cat {t : XT} {v : XV} (h : x_c1 v = true) : (xz t v).category = 1 := by
  rcases v with x | x | r
  · rfl
  · cases h
  · cases r <;> rfl
def x_cs (st : List XV) : Nat := match st with
  | [] => 0
  | v :: r => (if x_c1 v = true then 1 else 2) + x_cs r
theorem x_cs_cat (t : XT) (st : List XV) : ((st.map (xz t)).map fun v => v.category).sum = x_cs st := by
  induction st with
  | nil => rfl
  | cons v r ih =>
    rw [List.map_cons, List.map_cons, List.sum_cons, ih]
    show _ = (if x_c1 v = true then 1 else 2) + x_cs r
    congr 1
    rcases v with x | x | o
    · rfl
    · rfl
    · cases o <;> rfl
/-- a cell of the abstract heap stands at the address a -/
def x_at (G : XG) (t : XT) (a : Nat) (c : XC) (H : Heap) : Prop := match c with
  | .inl o => va_at G.1 x_cls (a, .inr (o.1, o.2.map (xz t))) H
  | .inr q => va_at G.1 x_cls (a, .inl (G.2.1 q.1, xz_a t q.2.1 q.2.2)) H
/-- a value's place is filled -/
def x_ok (S : XH) (v : XV) : Prop := match v with
  | .inr (.inr (some r)) => S r.1 r.2 ≠ none
  | _ => True
def x_oks (S : XH) (st : List XV) : Prop := ∀ v ∈ st, x_ok S v
def x_okc (S : XH) (c : XC) : Prop := match c with
  | .inl o => x_oks S o.2
  | .inr (_, n, .inr (.inr f)) => ∀ j, j < n → x_ok S (xv_o (f j))
  | .inr _ => True
def x_up (S : XH) (k i : Nat) (c : XC) : XH := fun k' i' => if k' = k ∧ i' = i then some c else S k' i'
def x_ut (t : XT) (k i a : Nat) : XT := fun k' i' => if k' = k ∧ i' = i then a else t k' i'
theorem x_up_self (S : XH) (k i : Nat) (c : XC) : x_up S k i c k i = some c := if_pos ⟨rfl, rfl⟩
theorem x_up_ne {S : XH} {k i k' i' : Nat} {c : XC} (h : ¬ (k' = k ∧ i' = i)) : x_up S k i c k' i' = S k' i' := if_neg h
theorem x_ut_self (t : XT) (k i a : Nat) : x_ut t k i a k i = a := if_pos ⟨rfl, rfl⟩
theorem x_ut_ne {t : XT} {k i k' i' a : Nat} (h : ¬ (k' = k ∧ i' = i)) : x_ut t k i a k' i' = t k' i' := if_neg h
theorem x_up_some {S : XH} {k i k' i' : Nat} {c : XC} (h : S k' i' ≠ none) : x_up S k i c k' i' ≠ none := by
  unfold x_up
  split
  · exact fun q => by cases q
  · exact h
/-- t' is t where S has cells -/
def x_ag (t t' : XT) (S : XH) : Prop := ∀ k i, S k i ≠ none → t' k i = t k i
def x_dm (S S' : XH) : Prop := ∀ k i, S k i ≠ none → S' k i ≠ none
theorem x_ag.rf {t : XT} {S : XH} : x_ag t t S := fun _ _ _ => rfl
theorem x_dm.rf {S : XH} : x_dm S S := fun _ _ h => h
theorem x_dm.up {S S' : XH} {k i : Nat} {c : XC} (h : x_dm S S') : x_dm S (x_up S' k i c) := fun a b q => x_up_some (h a b q)
theorem x_dm.trans {S S' S'' : XH} (h : x_dm S S') (h' : x_dm S' S'') : x_dm S S'' := fun a b q => h' a b (h a b q)
theorem x_ok.dm {S S' : XH} {v : XV} (h : x_ok S v) (d : x_dm S S') : x_ok S' v := by
  rcases v with x | x | r
  · trivial
  · trivial
  · cases r with
    | none => trivial
    | some r => exact d _ _ h
theorem x_oks.dm {S S' : XH} {st : List XV} (h : x_oks S st) (d : x_dm S S') : x_oks S' st := fun v hv => (h v hv).dm d
theorem x_oks.cons {S : XH} {v : XV} {st : List XV} (h : x_ok S v) (h' : x_oks S st) : x_oks S (v :: st) := fun w hw => by
  rcases List.mem_cons.mp hw with rfl | hw
  · exact h
  · exact h' w hw
theorem x_oks.hd {S : XH} {v : XV} {st : List XV} (h : x_oks S (v :: st)) : x_ok S v := h v List.mem_cons_self
theorem x_oks.tl {S : XH} {v : XV} {st : List XV} (h : x_oks S (v :: st)) : x_oks S st := fun w hw => h w (List.mem_cons_of_mem _ hw)
theorem x_okc.dm {S S' : XH} {c : XC} (h : x_okc S c) (d : x_dm S S') : x_okc S' c := by
  rcases c with o | ⟨q, n, f | f | f⟩
  · exact x_oks.dm h d
  · trivial
  · trivial
  · exact fun j hj => (h j hj).dm d
theorem xz_ag {t t' : XT} {S : XH} {v : XV} (h : x_ok S v) (a : x_ag t t' S) : xz t' v = xz t v := by
  rcases v with x | x | r
  · rfl
  · rfl
  · cases r with
    | none => rfl
    | some r => exact congrArg Value.ref (a _ _ h)
theorem xz_ags {t t' : XT} {S : XH} {st : List XV} (h : x_oks S st) (a : x_ag t t' S) : st.map (xz t') = st.map (xz t) := List.map_congr_left fun v hv => xz_ag (h v hv) a
theorem x_arrV {cA : ClassId} {n : Nat} {f g : Nat → Value} (h : ∀ j, j < n → f j = g j) : arrV cA n f = arrV cA n g := by
  unfold arrV
  congr 1
  apply Array.ext
  · simp
  · intro j h1 h2
    simp only [Array.getElem_ofFn]
    exact h j (by simpa using h1)
theorem x_at.kept {G : XG} {t : XT} {a : Nat} {c : XC} {H H1 : Heap} (h : x_at G t a c H) (hq : H1[a]? = H[a]?) : x_at G t a c H1 := by
  rcases c with o | q
  · have h' : va_at G.1 x_cls (a, .inr (o.1, o.2.map (xz t))) H := h
    exact h'.kept hq
  · have h' : va_at G.1 x_cls (a, .inl (G.2.1 q.1, xz_a t q.2.1 q.2.2)) H := h
    exact h'.kept hq
theorem x_at.lt {G : XG} {t : XT} {a : Nat} {c : XC} {H : Heap} (h : x_at G t a c H) : a < H.size := by
  rcases c with o | q
  · have h' : va_at G.1 x_cls (a, .inr (o.1, o.2.map (xz t))) H := h
    exact h'.lt
  · have h' : va_at G.1 x_cls (a, .inl (G.2.1 q.1, xz_a t q.2.1 q.2.2)) H := h
    exact h'.lt
theorem x_at.ag {G : XG} {t t' : XT} {S : XH} {a : Nat} {c : XC} {H : Heap} (h : x_at G t a c H) (ho : x_okc S c) (g : x_ag t t' S) : x_at G t' a c H := by
  rcases c with o | ⟨q, n, f | f | f⟩
  · show va_at G.1 x_cls (a, .inr (o.1, o.2.map (xz t'))) H
    rw [xz_ags ho g]
    exact h
  · exact h
  · exact h
  · have e : vp_cell (G.2.1 q) (xz_a t' n (.inr (.inr f))) = vp_cell (G.2.1 q) (xz_a t n (.inr (.inr f))) := by
      show arrV (G.2.1 q) n (fun j => va_rf (xz_o t' (f j))) = arrV (G.2.1 q) n (fun j => va_rf (xz_o t (f j)))
      refine x_arrV fun j hj => ?_
      rw [xz_rf, xz_rf, xz_ag (ho j hj) g]
    show H[a]? = some (vp_cell (G.2.1 q) (xz_a t' n (.inr (.inr f))))
    rw [e]
    exact h
/-- the abstract heap S stands in the heap H, by t; below the mark nothing has changed; what is read only (kinds from 48 on) is as G has it -/
def x_R (G : XG) (t : XT) (S : XH) (H : Heap) : Prop :=
  (∀ k i c, k < 48 → S k i = some c → x_at G t (t k i) c H) ∧ (∀ k i c, S k i = some c → x_okc S c) ∧
  (∀ k i k' i', k < 48 → k' < 48 → S k i ≠ none → S k' i' ≠ none → t k i = t k' i' → k = k' ∧ i = i') ∧
  (∀ k i, S k i ≠ none → k < 48 → G.2.2.1 ≤ t k i) ∧ (∀ q, q < G.2.2.1 → H[q]? = G.2.2.2.1[q]?) ∧ G.2.2.1 ≤ H.size ∧
  (∀ k i, ¬ k < 48 → S k i = G.2.2.2.2.2 k i ∧ (S k i ≠ none → t k i = G.2.2.2.2.1 k i ∧ t k i < G.2.2.1))
theorem x_some {S : XH} {k i : Nat} {c : XC} (h : S k i = some c) : S k i ≠ none := by rw [h]; exact fun q => by cases q
theorem x_R.lt {G : XG} {t : XT} {S : XH} {H : Heap} (h : x_R G t S H) {k i : Nat} (hk : S k i ≠ none) : t k i < H.size := by
  by_cases h48 : k < 48
  · cases hc : S k i with
    | none => exact absurd hc hk
    | some c => exact (h.1 k i c h48 hc).lt
  · have h1 := ((h.2.2.2.2.2.2 k i h48).2 hk).2
    have h2 := h.2.2.2.2.2.1
    omega
theorem x_R.set {G : XG} {t : XT} {S : XH} {H H1 : Heap} {k i : Nat} {c0 c : XC} (h : x_R G t S H) (h0 : S k i = some c0) (hk : k < 48) (hc : x_okc S c) (hs : H1.size = H.size) (ho : ∀ q, q ≠ t k i → H1[q]? = H[q]?) (ha : x_at G t (t k i) c H1) : x_R G t (x_up S k i c) H1 := by
  obtain ⟨h1, h2, h3, h4, h5, h6, h7⟩ := h
  have hn : S k i ≠ none := x_some h0
  have hb : ∀ a b, x_up S k i c a b ≠ none → S a b ≠ none := fun a b q => by
    unfold x_up at q
    split at q
    · next e => rw [e.1, e.2]; exact hn
    · exact q
  refine ⟨fun a b d h48 hd => ?_, fun a b d hd => ?_, fun a b a' b' z z' q q' e => h3 a b a' b' z z' (hb _ _ q) (hb _ _ q') e, fun a b q hq => h4 a b (hb _ _ q) hq, fun q hq => ?_, by rw [hs]; exact h6, fun a b q => ?_⟩
  · unfold x_up at hd
    split at hd
    · next e =>
      cases hd
      rw [e.1, e.2]
      exact ha
    · next e =>
      have hne : t a b ≠ t k i := fun q => e (h3 a b k i h48 hk (x_some hd) hn q)
      exact (h1 a b d h48 hd).kept (ho _ hne)
  · unfold x_up at hd
    split at hd
    · cases hd
      exact hc.dm (x_dm.up x_dm.rf)
    · exact (h2 a b d hd).dm (x_dm.up x_dm.rf)
  · rw [ho q (fun e => by have := h4 k i hn hk; omega)]
    exact h5 q hq
  · rw [x_up_ne (fun e => q (by rw [e.1]; exact hk))]
    exact h7 a b q
theorem x_R.new {G : XG} {t : XT} {S : XH} {H H1 : Heap} {k i : Nat} {c : XC} (h : x_R G t S H) (hk : k < 48) (h0 : S k i = none) (hs : H1.size = H.size + 1) (ho : ∀ q, q < H.size → H1[q]? = H[q]?) (hc : x_okc (x_up S k i c) c) (ha : x_at G (x_ut t k i H.size) H.size c H1) :
    x_R G (x_ut t k i H.size) (x_up S k i c) H1 ∧ x_ag t (x_ut t k i H.size) S := by
  have hag : x_ag t (x_ut t k i H.size) S := fun a b q => x_ut_ne (fun e => q (by rw [e.1, e.2]; exact h0))
  have hL := fun {a b : Nat} (q : S a b ≠ none) => h.lt q
  obtain ⟨h1, h2, h3, h4, h5, h6, h7⟩ := h
  refine ⟨⟨fun a b d h48 hd => ?_, fun a b d hd => ?_, fun a b a' b' z z' q q' e => ?_, fun a b q hq => ?_, fun q hq => ?_, by omega, fun a b q => ?_⟩, hag⟩
  · unfold x_up at hd
    split at hd
    · next e =>
      cases hd
      rw [e.1, e.2, x_ut_self]
      exact ha
    · next e =>
      have hn : S a b ≠ none := x_some hd
      rw [hag a b hn]
      exact ((h1 a b d h48 hd).kept (ho _ (hL hn))).ag (h2 a b d hd) hag
  · unfold x_up at hd
    split at hd
    · cases hd
      exact hc
    · exact (h2 a b d hd).dm (x_dm.up x_dm.rf)
  · by_cases ea : a = k ∧ b = i
    · by_cases eb : a' = k ∧ b' = i
      · exact ⟨ea.1.trans eb.1.symm, ea.2.trans eb.2.symm⟩
      · rw [x_up_ne eb] at q'
        rw [ea.1, ea.2, x_ut_self, hag a' b' q'] at e
        have := hL q'
        omega
    · rw [x_up_ne ea] at q
      by_cases eb : a' = k ∧ b' = i
      · rw [eb.1, eb.2, x_ut_self, hag a b q] at e
        have := hL q
        omega
      · rw [x_up_ne eb] at q'
        rw [hag a b q, hag a' b' q'] at e
        exact h3 a b a' b' z z' q q' e
  · by_cases ea : a = k ∧ b = i
    · rw [ea.1, ea.2, x_ut_self]
      exact h6
    · rw [x_up_ne ea] at q
      rw [hag a b q]
      exact h4 a b q hq
  · rw [ho q (by omega)]
    exact h5 q hq
  · have hne : ¬ (a = k ∧ b = i) := fun z => q (by rw [z.1]; exact hk)
    rw [x_up_ne hne, x_ut_ne hne]
    exact h7 a b q
/-- the locals -/
def x_pl (t : XT) (L : List (Option XV)) : List (Nat × Value) := L.zipIdx.filterMap (fun q => q.1.map (fun v => (q.2, xz t v)))
theorem x_pl_mem {t : XT} {L : List (Option XV)} {i : Nat} {w : Value} : (i, w) ∈ x_pl t L ↔ ∃ v, L[i]? = some (some v) ∧ w = xz t v := by
  unfold x_pl
  rw [List.mem_filterMap]
  constructor
  · rintro ⟨⟨o, j⟩, h1, h2⟩
    have h1 := List.mem_zipIdx_iff_getElem?.mp h1
    cases o with
    | none => cases h2
    | some v =>
      simp only [Option.map_some, Option.some.injEq, Prod.mk.injEq] at h2
      obtain ⟨rfl, rfl⟩ := h2
      exact ⟨v, h1, rfl⟩
  · rintro ⟨v, h, rfl⟩
    exact ⟨(some v, i), List.mem_zipIdx_iff_getElem?.mpr h, rfl⟩
def x_L (t : XT) (ls : Array Slot) (nL : Nat) (L : List (Option XV)) : Prop := lv_has ls nL (x_pl t L) ∧ ∀ v, some v ∈ L → x_c1 v = true
def x_okl (S : XH) (L : List (Option XV)) : Prop := ∀ v, some v ∈ L → x_ok S v
theorem x_okl.dm {S S' : XH} {L : List (Option XV)} (h : x_okl S L) (d : x_dm S S') : x_okl S' L := fun v hv => (h v hv).dm d
theorem x_L.at {t : XT} {ls : Array Slot} {nL : Nat} {L : List (Option XV)} (h : x_L t ls nL L) {i : Nat} {v : XV} (hi : L[i]? = some (some v)) : ls[i]? = some (.val (xz t v)) := h.1.2.2 (i, xz t v) (x_pl_mem.mpr ⟨v, hi, rfl⟩)
theorem x_L.ag {t t' : XT} {S : XH} {ls : Array Slot} {nL : Nat} {L : List (Option XV)} (h : x_L t ls nL L) (ho : x_okl S L) (g : x_ag t t' S) : x_L t' ls nL L := by
  refine ⟨⟨h.1.1, h.1.2.1, ?_⟩, h.2⟩
  rintro ⟨j, w⟩ hq
  obtain ⟨v, hv, rfl⟩ := x_pl_mem.mp hq
  show ls[j]? = _
  rw [h.at hv, xz_ag (ho v (List.mem_of_getElem? hv)) g]
theorem x_L.set {t : XT} {ls : Array Slot} {nL : Nat} {L : List (Option XV)} {i : Nat} {v : XV} (hL : ∀ v, some v ∈ L → x_c1 v = true) (hv : x_c1 v = true) (h : lv_has ls nL ((i, xz t v) :: (x_pl t L).filter (fun q => !(q.1 == i) && !(q.1 + 1 == i && q.2.category == 2)))) : x_L t ls nL (L.set i (some v)) := by
  refine ⟨⟨h.1, h.2.1, ?_⟩, ?_⟩
  · rintro ⟨j, w⟩ hq
    obtain ⟨v', h1, rfl⟩ := x_pl_mem.mp hq
    rw [List.getElem?_set] at h1
    by_cases hj : i = j
    · subst hj
      rw [if_pos rfl] at h1
      split at h1
      · simp only [Option.some.injEq] at h1
        subst h1
        exact h.2.2 _ List.mem_cons_self
      · cases h1
    · rw [if_neg hj] at h1
      refine h.2.2 (j, xz t v') (List.mem_cons_of_mem _ (List.mem_filter.mpr ⟨x_pl_mem.mpr ⟨v', h1, rfl⟩, ?_⟩))
      have := x_c1_cat (t := t) (hL v' (List.mem_of_getElem? h1))
      simp [Ne.symm hj, this]
  · intro v' hv'
    rcases List.mem_or_eq_of_mem_set hv' with q | q
    · exact hL v' q
    · cases q
      exact hv
theorem x_okl.set {S : XH} {L : List (Option XV)} {i : Nat} {v : XV} (h : x_okl S L) (hv : x_ok S v) : x_okl S (L.set i (some v)) := by
  intro v' hv'
  rcases List.mem_or_eq_of_mem_set hv' with q | q
  · exact h v' q
  · cases q
    exact hv
end
section
/-! what the Statement says of the start, as it is used: read-only objects and arrays, statics, texts -/
def x_A (G : XG) : Nat → Prop := fun q => G.2.2.1 ≤ q
def x_el (t : XT) (z : XA) (j : Nat) : Value := match z with
  | .inl f => .int (f j)
  | .inr (.inl f) => .long (f j)
  | .inr (.inr f) => xz t (xv_o (f j))
def x_sts : List (String × String × String × XV) := [
  ("CashLink$State", "EMPTY", "LCashLink$State;", xv_r 49 0), ("CashLink$State", "CARD", "LCashLink$State;", xv_r 49 1), ("CashLink$State", "READY", "LCashLink$State;", xv_r 49 2), ("CashLink$State", "WAITS", "LCashLink$State;", xv_r 49 3),
  ("CashLink$Type", "REQUEST", "LCashLink$Type;", xv_r 50 0), ("CashLink$Type", "REQUEST_ANSWER", "LCashLink$Type;", xv_r 50 1), ("CashLink$Type", "REVERSAL", "LCashLink$Type;", xv_r 50 2), ("CashLink$Type", "REVERSAL_ANSWER", "LCashLink$Type;", xv_r 50 3), ("CashLink$Type", "TOTALS", "LCashLink$Type;", xv_r 50 4), ("CashLink$Type", "TOTALS_ANSWER", "LCashLink$Type;", xv_r 50 5),
  ("CashLink$Dispenser", "WORTH", "[I", xv_r 53 0), ("CashLinkModel", "WORTH", "[I", xv_r 53 1), ("java/util/ArrayList", "DEFAULTCAPACITY_EMPTY_ELEMENTDATA", "[Ljava/lang/Object;", xv_r 54 0),
  ("java/lang/String", "COMPACT_STRINGS", "Z", xv_i 1)]
/-- no reference to what may be written -/
def x_nw (v : XV) : Prop := match v with
  | .inr (.inr (some q)) => ¬ q.1 < 48
  | _ => True
def x_KX (G : XG) (U : State) : Prop :=
  (∀ k i q n z, ¬ k < 48 → G.2.2.2.2.2 k i = some (.inr (q, n, z)) → ∃ ty, x_tys[q]? = some ty ∧ va_T ty (G.2.2.2.2.1 k i) n (x_el G.2.2.2.2.1 z) (x_A G) U G.2.2.2.1) ∧
  (∀ k i ci fs, ¬ k < 48 → G.2.2.2.2.2 k i = some (.inl (ci, fs)) → va_O (x_rocls ci) (G.2.2.2.2.1 k i) (x_A G) U G.2.2.2.1 ∧ (∀ v ∈ fs, x_nw v) ∧ ∀ j o n d v, x_rof ci j = some (o, n, d) → fs[j]? = some v → va_OF o n d (xz G.2.2.2.2.1 v) (G.2.2.2.2.1 k i) (x_A G) U G.2.2.2.1) ∧
  (∀ q ∈ x_sts, va_Z q.1 q.2.1 q.2.2.1 (xz G.2.2.2.2.1 q.2.2.2) (x_A G) U G.2.2.2.1 ∧ ∀ k i, q.2.2.2 = xv_r k i → ¬ k < 48 ∧ G.2.2.2.2.2 k i ≠ none) ∧
  (∀ q ∈ x_strs, ∃ a, vk_R q.1 q.2.1 q.2.2 a U) ∧
  vx_Zq Bundle.tN "UNASSIGNED_STACK" Bundle.steD (x_A G) U G.2.2.2.1 ∧ vx_Zq Bundle.tN "SUPPRESSED_SENTINEL" Bundle.listD (x_A G) U G.2.2.2.1 ∧ G.2.2.1 = G.2.2.2.1.size ∧
  (∀ k i j, (k = 49 ∨ k = 50 ∨ k = 54) → G.2.2.2.2.2 k i ≠ none → G.2.2.2.2.2 k j ≠ none → G.2.2.2.2.1 k i = G.2.2.2.2.1 k j → i = j)
theorem x_KX_moved {G : XG} {u U : State} (hW : u.WarmedH U.vm) (h : x_KX G u) : x_KX G U := by
  obtain ⟨h1, h2, h3, h4, h5, h6, h7⟩ := h
  refine ⟨fun k i q n z hk hz => ?_, fun k i ci fs hk hz => ?_, fun q hq => ⟨va_Z.moved hW.alike (h3 q hq).1, (h3 q hq).2⟩, fun q hq => ?_, vx_Zq.moved hW.alike h5, vx_Zq.moved hW.alike h6, h7⟩
  · obtain ⟨ty, a1, a2⟩ := h1 k i q n z hk hz
    exact ⟨ty, a1, va_T.moved hW.alike a2⟩
  · obtain ⟨a1, a2, a3⟩ := h2 k i ci fs hk hz
    exact ⟨va_O.moved hW.alike a1, a2, fun j o n d v e1 e2 => va_OF.moved hW.alike (a3 j o n d v e1 e2)⟩
  · obtain ⟨a, ha⟩ := h4 q hq
    exact ⟨a, vk_R.warm hW ha⟩
theorem x_hq {G : XG} {U : State} {t : XT} {S : XH} {H : Heap} (hX : x_KX G U) (h : x_R G t S H) : ∀ a, a < G.2.2.2.1.size → ¬ x_A G a → H[a]? = G.2.2.2.1[a]? := fun a ha _ => h.2.2.2.2.1 a (by rw [hX.2.2.2.2.2.2.1]; exact ha)
theorem x_nw_z {G : XG} {t : XT} {S : XH} {H : Heap} (h : x_R G t S H) {v : XV} (hv : x_nw v) (ho : x_ok S v) : xz t v = xz G.2.2.2.2.1 v := by
  rcases v with x | x | r
  · rfl
  · rfl
  · cases r with
    | none => rfl
    | some r => exact congrArg Value.ref ((h.2.2.2.2.2.2 r.1 r.2 hv).2 ho).1
end
section
/-! the judgement: the walk stands at an abstract frame -/
abbrev XP : Type := (Option XV ⊕ (Nat × Nat)) → XH → Prop
abbrev XK : Type := Nat → List (Option XV) → List XV → XH → Nat → Nat → Prop
abbrev XI : Type := XK → XP → XK
/-- what the tables say, at a state -/
def x_K (G : XG) (U : State) : Prop := va_K G.1 x_cls [] U ∧ (∀ q ty, x_tys[q]? = some ty → ArrOfT U (G.2.1 q) ty ∧ va_RA U (G.2.1 q) ty) ∧ x_KX G U
theorem x_K.moved {G : XG} {u U : State} (hW : u.WarmedH U.vm) (h : x_K G u) : x_K G U :=
  ⟨va_K.moved hW.alike h.1, fun q ty hq => ⟨arrOfT_moved hW.alike (h.2.1 q ty hq).1, (h.2.1 q ty hq).2.moved hW.alike⟩, x_KX_moved hW h.2.2⟩
/-- the class, the code, the locals, the answer's type, the name, the handlers, and the frames and words that the calls need -/
abbrev XM : Type := String × ByteArray × Nat × Option FieldType × String × List (Nat × Nat × Nat × Nat) × Nat × Nat
def x_FE (first : State) (t : State) (L : List Loc) (k n : Nat) : Prop := first.WarmedH t.vm ∧ first.sameButNew ({ t with vm := first.vm } : State) L k n
/-- a method's end -/
def x_Qc (G : XG) (P : XP) (t0 : XT) (S0 : XH) (o : Outcome) (T : State) : Prop := ∃ (t : XT) (S : XH), x_ag t0 t S0 ∧ x_dm S0 S ∧ x_R G t S T.heap ∧
  ((∃ r : Option XV, o = .returned (r.map (xz t)) ∧ (∀ v, r = some v → x_ok S v) ∧ P (.inl r) S) ∨ (∃ k i, o = .threw (t k i) ∧ S k i ≠ none ∧ P (.inr (k, i)) S))
def x_Q (G : XG) (below : List Frame) (P : XP) (t0 : XT) (S0 : XH) (s : State) (mc ms : Nat) : State → Prop := fun T =>
  ∃ o, T.status = .running ∧ Ended T below o ∧ x_Qc G P t0 S0 o T ∧ ∃ L, x_FE s T L mc ms ∧ ∀ q ∈ L, G.2.2.1 ≤ q.base
section XJ
variable {G : XG} {p : Program} {l : Launch} {e : Env} {R : Room} {s : State} {m : MethodId} {args : Array Value} {below : List Frame} {meth : Method} {c : Code} {nL : Nat} {P : XP} {t0 : XT} {S0 : XH}
theorem x_mono {H : Heap} {locs : List Loc} {cells slots : Nat} {Q Q' : State → Prop} {g : JFrame} (k : W p l e R s m args below meth c H locs cells slots Q g) (h : ∀ t, Q t → Q' t) : W p l e R s m args below meth c H locs cells slots Q' g := fun T hT X => by
  obtain ⟨t, a, b⟩ := k T hT X
  exact ⟨t, a, h t b⟩
def x_C (G : XG) (M : XM) (p : Program) (R : Room) (s : State) (m : MethodId) (args : Array Value) (meth : Method) (c : Code) : Prop :=
  p.tables.exec = Jvm.exec ∧ c.code = M.2.1 ∧ c.maxLocals = M.2.2.1 ∧ meth.sig.returnType = M.2.2.2.1 ∧ s.vm.findClass M.1 = some m.cls ∧ (∀ w ∈ x_Wd, w.before args s = true) ∧ x_K G s ∧ meth.locks = false ∧ meth.name = M.2.2.2.2.1 ∧ c.exceptionTable.toList = tableOf M.2.2.2.2.2.1 ∧ M.2.2.2.2.2.2.1 ≤ R.frames ∧ M.2.2.2.2.2.2.2 ≤ R.locals
/-- the walk at an abstract frame: u cells of w slots are left -/
def x_W (G : XG) (p : Program) (l : Launch) (e : Env) (R : Room) (s : State) (m : MethodId) (args : Array Value) (below : List Frame) (meth : Method) (c : Code) (nL : Nat) (P : XP) (t0 : XT) (S0 : XH) : XK := fun pc L st S u w =>
  ∀ (t : XT) (H : Heap) (locs : List Loc) (ls : Array Slot) (cells slots : Nat), x_ag t0 t S0 → x_dm S0 S → x_R G t S H → (∀ q ∈ locs, G.2.2.1 ≤ q.base) → x_L t ls nL L → x_okl S L → x_oks S st → cells + u ≤ R.cells → slots + w ≤ R.slots →
    W p l e R s m args below meth c H locs cells slots (x_Q G below P t0 S0 s R.cells R.slots) (F0 m pc ls (st.map (xz t)))
end XJ
/-- an instruction at pc is sound -/
def XSnd (M : XM) (pc : Nat) (I : XI) : Prop := ∀ (G : XG) (p : Program) (l : Launch) (e : Env) (R : Room) (s : State) (m : MethodId) (args : Array Value) (below : List Frame) (meth : Method) (c : Code) (P : XP) (t0 : XT) (S0 : XH), l.stackTraces = false → x_C G M p R s m args meth c → ∀ K : XK,
  (∀ pc L st S u w, K pc L st S u w → x_W G p l e R s m args below meth c M.2.2.1 P t0 S0 pc L st S u w) → ∀ L st S u w, I K P pc L st S u w → x_W G p l e R s m args below meth c M.2.2.1 P t0 S0 pc L st S u w
abbrev XB : Type := List (Nat × XI)
def x_find (b : XB) (pc : Nat) : Option XI := match b with
  | [] => none
  | q :: r => if q.1 = pc then some q.2 else x_find r pc
/-- the least of all that is closed under the code's steps: what ends well -/
def x_go (b : XB) (P : XP) : XK := fun pc L st S u w => ∀ Z : XK, (∀ pc L st S u w, (∃ I, x_find b pc = some I ∧ I Z P pc L st S u w) → Z pc L st S u w) → Z pc L st S u w
def XMon (I : XI) : Prop := ∀ (K K' : XK) (P P' : XP) (pc : Nat) (L : List (Option XV)) (st : List XV) (S : XH) (u w : Nat), (∀ pc L st S u w, K pc L st S u w → K' pc L st S u w) → (∀ r S, P r S → P' r S) → I K P pc L st S u w → I K' P' pc L st S u w
def x_bmn (b : XB) : Prop := ∀ q ∈ b, XMon q.2
theorem x_bmn.nil : x_bmn [] := fun _ h => by cases h
theorem x_bmn.cons {pc : Nat} {I : XI} {b : XB} (h : XMon I) (h' : x_bmn b) : x_bmn ((pc, I) :: b) := fun q hq => by
  rcases List.mem_cons.mp hq with rfl | hq
  · exact h
  · exact h' q hq
theorem x_bmn.app {b b' : XB} (h : x_bmn b) (h' : x_bmn b') : x_bmn (b ++ b') := fun q hq => by
  rcases List.mem_append.mp hq with hq | hq
  · exact h q hq
  · exact h' q hq
/-- so many steps of the code, then K -/
def x_run (b : XB) (P : XP) (K : XK) : Nat → XK
  | 0 => K
  | n + 1 => fun pc L st S u w => match x_find b pc with
    | none => False
    | some I => I (x_run b P K n) P pc L st S u w
def x_bok (M : XM) (b : XB) : Prop := ∀ q ∈ b, XSnd M q.1 q.2
theorem x_bok.nil {M : XM} : x_bok M [] := fun _ h => by cases h
theorem x_bok.cons {M : XM} {pc : Nat} {I : XI} {b : XB} (h : XSnd M pc I) (h' : x_bok M b) : x_bok M ((pc, I) :: b) := fun q hq => by
  rcases List.mem_cons.mp hq with rfl | hq
  · exact h
  · exact h' q hq
theorem x_bok.app {M : XM} {b b' : XB} (h : x_bok M b) (h' : x_bok M b') : x_bok M (b ++ b') := fun q hq => by
  rcases List.mem_append.mp hq with hq | hq
  · exact h q hq
  · exact h' q hq
theorem x_find_mem {b : XB} {pc : Nat} {I : XI} (h : x_find b pc = some I) : (pc, I) ∈ b := by
  induction b with
  | nil => cases h
  | cons q r ih =>
    unfold x_find at h
    split at h
    · next e =>
      cases h
      rw [← e]
      exact List.mem_cons_self
    · exact List.mem_cons_of_mem _ (ih h)
theorem x_go.step {b : XB} {P : XP} (hb : x_bmn b) {pc : Nat} {I : XI} (hI : x_find b pc = some I) {L : List (Option XV)} {st : List XV} {S : XH} {u w : Nat} (h : I (x_go b P) P pc L st S u w) : x_go b P pc L st S u w := by
  intro Z hZ
  exact hZ _ _ _ _ _ _ ⟨I, hI, hb _ (x_find_mem hI) (x_go b P) Z P P _ _ _ _ _ _ (fun _ _ _ _ _ _ q => q Z hZ) (fun _ _ q => q) h⟩
theorem x_go.run {b : XB} {P : XP} (hb : x_bmn b) : ∀ (n : Nat) {pc : Nat} {L : List (Option XV)} {st : List XV} {S : XH} {u w : Nat}, x_run b P (x_go b P) n pc L st S u w → x_go b P pc L st S u w := by
  intro n
  induction n with
  | zero => intro pc L st S u w h; exact h
  | succ n ih =>
    intro pc L st S u w h
    unfold x_run at h
    split at h
    · exact h.elim
    · next I hI => exact x_go.step hb hI (hb _ (x_find_mem hI) (x_run b P (x_go b P) n) (x_go b P) P P _ _ _ _ _ _ (fun _ _ _ _ _ _ q => ih q) (fun _ _ q => q) h)
theorem x_go.mono {b : XB} {P P' : XP} (hb : x_bmn b) (hP : ∀ r S, P r S → P' r S) {pc : Nat} {L : List (Option XV)} {st : List XV} {S : XH} {u w : Nat} (h : x_go b P pc L st S u w) : x_go b P' pc L st S u w := by
  intro Z hZ
  refine h Z fun pc L st S u w q => ?_
  obtain ⟨I, hI, k⟩ := q
  exact hZ _ _ _ _ _ _ ⟨I, hI, hb _ (x_find_mem hI) Z Z P P' _ _ _ _ _ _ (fun _ _ _ _ _ _ q => q) hP k⟩
theorem x_go.sound {M : XM} {b : XB} (hb : x_bok M b) {G : XG} {p : Program} {l : Launch} {e : Env} {R : Room} {s : State} {m : MethodId} {args : Array Value} {below : List Frame} {meth : Method} {c : Code} {P : XP} {t0 : XT} {S0 : XH} (hl : l.stackTraces = false) (hC : x_C G M p R s m args meth c) {pc : Nat} {L : List (Option XV)} {st : List XV} {S : XH} {u w : Nat}
    (h : x_go b P pc L st S u w) : x_W G p l e R s m args below meth c M.2.2.1 P t0 S0 pc L st S u w := by
  refine h (x_W G p l e R s m args below meth c M.2.2.1 P t0 S0) fun pc L st S u w q => ?_
  obtain ⟨I, hI, k⟩ := q
  exact hb _ (x_find_mem hI) G p l e R s m args below meth c P t0 S0 hl hC _ (fun _ _ _ _ _ _ q => q) L st S u w k
/-- what a method does, its locals nL, its code b -/
def x_do (nL : Nat) (b : XB) (mc ms : Nat) (vs : List XV) (S : XH) (P : XP) : Prop := x_go b P 0 (vs.map some ++ List.replicate (nL - vs.length) none) [] S mc ms
/-- the method's contract, from a heap S at t with the arguments vs -/
def x_Pc (G : XG) (t : XT) (S : XH) (vs : List XV) : Array Value → State → Prop := fun a U => a = (vs.map (xz t)).toArray ∧ x_R G t S U.heap ∧ x_K G U ∧ x_oks S vs ∧ ∀ v ∈ vs, x_c1 v = true
def x_Met (l : Launch) (G : XG) (y : MethodName) (fr lo mc ms : Nat) (t : XT) (S : XH) (vs : List XV) (P : XP) : Prop :=
  MetFree l y (headSpec x_Wd { frames := fr, cells := mc, slots := ms, locals := lo }) (x_Pc G t S vs) (fun _ _ _ _ _ => True) (fun _ st o T => x_Qc G P t S o T ∧ ∃ L, x_FE st T L mc ms ∧ ∀ q ∈ L, G.2.2.1 ≤ q.base)
theorem x_args : ∀ (vs : List Value) (i j : Nat) (w : Value), (∀ v ∈ vs, v.category = 1) → vs[j]? = some w → (i + j, w) ∈ lv_args i vs
  | [], _, _, _, _, h => by simp at h
  | v :: vs, i, 0, w, _, h => by
    simp only [List.getElem?_cons_zero, Option.some.injEq] at h
    subst h
    exact List.mem_cons_self
  | v :: vs, i, j + 1, w, hc, h => by
    have e : lv_args i (v :: vs) = (i, v) :: lv_args (i + 1) vs := by
      show (i, v) :: lv_args (if v.category = 2 then i + 2 else i + 1) vs = _
      rw [if_neg (by rw [hc v List.mem_cons_self]; decide)]
    rw [e]
    have := x_args vs (i + 1) j w (fun v hv => hc v (List.mem_cons_of_mem _ hv)) (by simpa using h)
    rw [show i + (j + 1) = i + 1 + j by omega]
    exact List.mem_cons_of_mem _ this
end
section
/-! a method's contract out of its run; calls that return or throw -/
/-- the tables name the method y with this code -/
def x_Is (y : MethodName) (M : XM) : Prop := ∀ (args : Array Value) (s : State), (∀ w ∈ x_Wd, w.before args s = true) → ∃ (m : MethodId) (meth : Method) (c : Code), s.methodNamed? y = some m ∧ s.vm.method? m = some meth ∧ meth.code = some c ∧ c.code = M.2.1 ∧ c.maxLocals = M.2.2.1 ∧ meth.sig.returnType = M.2.2.2.1 ∧ meth.locks = false ∧ c.exceptionTable.toList = tableOf M.2.2.2.2.2.1 ∧ parseMethodDescriptor y.desc = some meth.sig
theorem x_is_code {y : MethodName} {cc : ByteArray} {nL : Nat} {ret : Option FieldType} {nm own : String} {fr lo : Nat} (h : Cond.code y cc nL ret ∈ x_Wd) : x_Is y (own, cc, nL, ret, nm, [], fr, lo) := by
  intro args s hts
  have h1 := hts _ h
  obtain ⟨m, hn⟩ := Cond.code_named h1
  obtain ⟨meth, c, q1, q2, q3, q4, q5, q6, q7, q8⟩ := Cond.code_spec hn h1
  refine ⟨m, meth, c, hn, q1, q2, q3, q4, q5, q6, ?_, q8⟩
  show c.exceptionTable.toList = []
  have := Array.isEmpty_iff.mp q7
  rw [this]
theorem x_is_with {y : MethodName} {cc : ByteArray} {nL : Nat} {ret : Option FieldType} {nm own : String} {hs : List (Nat × Nat × Nat × Nat)} {fr lo : Nat} (h : Cond.codeWith y cc nL ret hs ∈ x_Wd) : x_Is y (own, cc, nL, ret, nm, hs, fr, lo) := by
  intro args s hts
  obtain ⟨m, meth, c, q0, q1, q2, q3, q4, q5, q6, q7, q8⟩ := Cond.codeWith_spec (hts _ h)
  refine ⟨m, meth, c, q0, q1, q2, q3, q4, q6, q7, ?_, q8⟩
  show c.exceptionTable.toList = tableOf hs
  rw [← q5]
  exact (table_eq _).symm
theorem x_sl_len : ∀ vs : List Value, (∀ v ∈ vs, v.category = 1) → (lg_sl vs).length = vs.length
  | [], _ => rfl
  | v :: vs, h => by
    have e : lg_sl (v :: vs) = .val v :: lg_sl vs := by
      show (if v.category = 2 then [Slot.val v, .second] else [.val v]) ++ lg_sl vs = _
      rw [if_neg (by rw [h v List.mem_cons_self]; decide)]
      rfl
    rw [e, List.length_cons, List.length_cons, x_sl_len vs fun v hv => h v (List.mem_cons_of_mem _ hv)]
theorem x_entry {t : XT} {vs : List XV} {nL : Nat} (hn : vs.length ≤ nL) (hc : ∀ v ∈ vs, x_c1 v = true) :
    x_L t ((lg_sl (vs.map (xz t)) ++ List.replicate (nL - (lg_sl (vs.map (xz t))).length) Slot.unset).toArray) nL (vs.map some ++ List.replicate (nL - vs.length) none) := by
  have hcat : ∀ v ∈ vs.map (xz t), v.category = 1 := fun v hv => by
    obtain ⟨w, hw, rfl⟩ := List.mem_map.mp hv
    exact x_c1_cat (hc w hw)
  have hh := lv_entry (vs.map (xz t)) (n := nL) (by rw [x_sl_len _ hcat, List.length_map]; exact hn)
  refine ⟨⟨hh.1, hh.2.1, ?_⟩, ?_⟩
  · rintro ⟨j, w⟩ hq
    obtain ⟨v, hv, rfl⟩ := x_pl_mem.mp hq
    refine hh.2.2 (j, xz t v) ?_
    have hj : vs[j]? = some v := by
      rw [List.getElem?_append] at hv
      split at hv
      · rw [List.getElem?_map] at hv
        cases hx : vs[j]? with
        | none => rw [hx] at hv; cases hv
        | some x => rw [hx] at hv; cases hv; rfl
      · rw [List.getElem?_replicate] at hv
        split at hv <;> cases hv
    have := x_args (vs.map (xz t)) 0 j (xz t v) hcat (by rw [List.getElem?_map, hj]; rfl)
    rw [Nat.zero_add] at this
    exact this
  · intro v hv
    rcases List.mem_append.mp hv with h | h
    · obtain ⟨w, hw, e⟩ := List.mem_map.mp h
      cases e
      exact hc _ hw
    · cases List.eq_of_mem_replicate h
theorem x_met_of {l : Launch} {G : XG} {y : MethodName} {M : XM} {b : XB} {mc ms : Nat} {t : XT} {S : XH} {vs : List XV} {P : XP} (hl : l.stackTraces = false) (hy : plainName y.cls = true) (h1 : M.1 = y.cls) (h2 : M.2.2.2.2.1 = y.name) (his : x_Is y M) (hb : x_bok M b) (hlen : vs.length ≤ M.2.2.1) (h : x_do M.2.2.1 b mc ms vs S P) :
    x_Met l G y M.2.2.2.2.2.2.1 M.2.2.2.2.2.2.2 mc ms t S vs P := by
  refine MetFree.of_bodyS (code := M.2.1) (maxLocals := M.2.2.1) (ret := M.2.2.2.1) hy ?_ ?_
  · intro args s m hpre hn
    obtain ⟨m', meth, c, q0, q1, q2, q3, q4, q5, q6, -⟩ := his args s (atoms_spec (ws := x_Wd) hpre)
    cases hn.symm.trans q0
    exact ⟨meth, c, q1, q2, q3, q4, q5, q6⟩
  · intro p e s m args below meth c s₁ B hml hP _
    obtain ⟨rfl, hR, hK, hok, hc1⟩ := hP
    have hts := atoms_spec (ws := x_Wd) B.pre
    obtain ⟨m', meth', c', q0, q1, q2, q3, q4, q5, q6, q7, -⟩ := his _ s hts
    cases B.named.symm.trans q0
    cases B.method.symm.trans q1
    have X := Stand.of_body B
    cases X.code.symm.trans q2
    have hC : x_C G M p { frames := M.2.2.2.2.2.2.1, cells := mc, slots := ms, locals := M.2.2.2.2.2.2.2 } s m (vs.map (xz t)).toArray meth c :=
      ⟨B.exec, B.bytes, hml, B.returns, by rw [h1]; exact findClass_of_methodNamed B.named, hts, hK, B.notSynchronized, by rw [h2]; exact (name_of_methodNamed B.named B.method).1, q7, Nat.le_refl _, Nat.le_refl _⟩
    have hh0 : s₁.heap = s.heap := by rw [B.state]; rfl
    have w := x_go.sound (l := l) (e := e) (below := below) (t0 := t) (S0 := S) hb hl hC h t s.heap [] _ 0 0 x_ag.rf x_dm.rf hR (fun _ h => by cases h) (x_entry hlen hc1) ?_ (fun _ h => by cases h) (by simp) (by simp) s₁ hh0 X
    · rw [lg_entry_eq]
      obtain ⟨T, a1, o, b1, b2, b3, b4⟩ := w
      exact ⟨T, o, a1, b1, b2, b3, b4⟩
    · intro v hv
      rcases List.mem_append.mp hv with h | h
      · obtain ⟨w, hw, e⟩ := List.mem_map.mp h
        cases e
        exact hok _ hw
      · cases List.eq_of_mem_replicate h
section XC1
variable {G : XG} {p : Program} {l : Launch} {e : Env} {R : Room} {s : State} {m : MethodId} {args : Array Value} {below : List Frame} {meth : Method} {c : Code} {T : State} {locs : List Loc} {cells slots : Nat}
/-- the callee goes, and comes back, or throws -/
theorem x_back (X : Stand p l e R s m args below meth c T locs cells slots) {y : MethodName} {M : XM} {mc ms : Nat} {t : XT} {S : XH} {vs : List XV} {P : XP} (hM : x_Met l G y M.2.2.2.2.2.2.1 M.2.2.2.2.2.2.2 mc ms t S vs P) (his : x_Is y M)
    (hts : ∀ w ∈ x_Wd, w.before args s = true) (hini : (Cond.initialized y.cls).before args s = true) {g : JFrame} (hg : g.method = m) (hsize : g.locals.size = c.maxLocals) {ig : Instr} {len : Nat} (hdg : decode c.code g.pc = .ok (ig, len)) (hW : 2 * g.monitorRoom + (g.stack.map fun v => v.category).sum ≤ 8)
    {mk : MethodId} (hn : T.methodNamed? y = some mk) (hfr : M.2.2.2.2.2.2.1 + 1 ≤ R.frames) (hlo : 8 + (M.2.2.1 + 11) + M.2.2.2.2.2.2.2 ≤ R.locals) (hcells : cells + mc ≤ R.cells) (hslots : slots + ms ≤ R.slots) (hR : x_R G t S T.heap) (hK : x_K G T) (hok : x_oks S vs) (hc1 : ∀ v ∈ vs, x_c1 v = true) :
    ∃ (o : Outcome) (T' : State) (L : List Loc), Stand p l e R s m args below meth c T' (locs ++ L) (cells + mc) (slots + ms) ∧ (∀ q ∈ L, G.2.2.1 ≤ q.base) ∧ x_Qc G P t S o T' ∧
      match o with
      | .returned v => Steps p.tables e below (doInvoke e (T.setTop g) [] mk (vs.map (xz t)).toArray).1 (T'.setTop { g with pc := g.pc + len, stack := v.toList ++ g.stack })
      | .threw x => Steps p.tables e below (doInvoke e (T.setTop g) [] mk (vs.map (xz t)).toArray).1 ((T'.setTop g).pushFrame (.throwing x)) := by
  have htsT : ∀ w ∈ x_Wd, w.before (vs.map (xz t)).toArray T = true := fun w hw => x_wat X.warmed (x_good w hw) (hts w hw)
  obtain ⟨mk', methY, cY, hnY, hmY, hcY, -, hlY, -, -, -, -⟩ := his (vs.map (xz t)).toArray T htsT
  cases hn.symm.trans hnY
  obtain ⟨kY, hkY, -⟩ := className_of_methodNamed hn
  have hiniT : (Cond.initialized y.cls).before args T = true := word_at X.warmed (Or.inl (by first | rfl | simp [Cond.onTables, Cond.keeps, Cond.steady])) hini
  have hinitY : kY.init = .initialized := Cond.initialized_spec (findClass_of_methodNamed hn) hkY hiniT
  have h : At T g.method c below := by rw [hg]; exact X.here
  have happ : (headSpec x_Wd { frames := M.2.2.2.2.2.2.1, cells := mc, slots := ms, locals := M.2.2.2.2.2.2.2 }).appliesLoose y e.platform (T.calling g mk (vs.map (xz t)).toArray) = true :=
    Spec.appliesLoose_calling (g := g) h hdg hn hkY hinitY
      (X.room_calling (g := g) (R' := { frames := M.2.2.2.2.2.2.1, cells := mc, slots := ms, locals := M.2.2.2.2.2.2.2 }) hsize hmY hcY hfr (by rw [hlY]; show _ + _ + M.2.2.2.2.2.2.2 ≤ _; omega) hcells hslots) (atoms_intro htsT)
  obtain ⟨mid, hmid⟩ := h.above
  have hfr2 : (T.setTop g).frames = (.java g :: mid) ++ below := by rw [State.frames_setTop' g h.top, hmid]; rfl
  obtain ⟨o, s₂, hsteps, -, hend, hq, L, hfe, hL⟩ := Steps.callFree hM p X.admits X.cas X.clock (acts := []) hfr2 happ ⟨rfl, hR, x_K.moved (u := T) (U := T.calling g mk (vs.map (xz t)).toArray) (State.WarmedH.refl T) hK, hok, hc1⟩ trivial
  rw [State.frames_setTop' g h.top, X.tail] at hend
  cases o with
  | returned v =>
    obtain ⟨T', X', -, -, ht⟩ := X.outOf hg hdg (mk := mk) (a := (vs.map (xz t)).toArray) hend hfe.1 hfe.2
    have hh : T'.heap = s₂.heap := by rw [ht]; simp [State.setFrames, State.setTop, State.modifyTopJava]
    refine ⟨.returned v, T', L, X', hL, ?_, ?_⟩
    · obtain ⟨t', S', a1, a2, a3, a4⟩ := hq
      exact ⟨t', S', a1, a2, by rw [hh]; exact a3, a4⟩
    · dsimp only
      rw [← ht]
      exact hsteps
  | threw x =>
    obtain ⟨T', X', -, -, ht⟩ := X.outOfThrown hg (mk := mk) (a := (vs.map (xz t)).toArray) hend hfe.1 hfe.2
    have hh : T'.heap = s₂.heap := by rw [ht]; simp [State.pushFrame, State.setFrames, State.setTop, State.modifyTopJava]
    refine ⟨.threw x, T', L, X', hL, ?_, ?_⟩
    · obtain ⟨t', S', a1, a2, a3, a4⟩ := hq
      exact ⟨t', S', a1, a2, by rw [hh]; exact a3, a4⟩
    · dsimp only
      rw [← ht]
      exact hsteps
end XC1
end
section
/-! instructions as wp transformers, and that each is sound -/
section XS
variable {M : XM} {pc : Nat}

/-- a constant (an int, null, a long) -/
def X_push (v : XV) (n : Nat) : XI := fun K _ pc L st S u w => K (pc + n) L (v :: st) S u w
theorem xs_iconst {n : Int} {v : Int32} (hd : decode M.2.1 pc = .ok (.iconst n, 1)) (hv : Int32.ofInt n = v) : XSnd M pc (X_push (xv_i v) 1) := by
  intro G p l e R s m args below meth c P t0 S0 htr0 hC K hK L st S u w h t H locs ls cells slots h1 h2 h3 h4 h5 h6 h7 h8 h9
  exact lv_iconst hC.1 hC.2.1 hd hv (hK _ _ _ _ _ _ h t H locs ls cells slots h1 h2 h3 h4 h5 h6 (x_oks.cons trivial h7) h8 h9)
theorem xs_bipush {n : Int} {v : Int32} (hd : decode M.2.1 pc = .ok (.bipush n, 2)) (hv : (Int8.ofInt n).toInt32 = v) : XSnd M pc (X_push (xv_i v) 2) := by
  intro G p l e R s m args below meth c P t0 S0 htr0 hC K hK L st S u w h t H locs ls cells slots h1 h2 h3 h4 h5 h6 h7 h8 h9
  exact lv_bipush hC.1 hC.2.1 hd hv (hK _ _ _ _ _ _ h t H locs ls cells slots h1 h2 h3 h4 h5 h6 (x_oks.cons trivial h7) h8 h9)
theorem xs_sipush {n : Int} {v : Int32} (hd : decode M.2.1 pc = .ok (.sipush n, 3)) (hv : (Int16.ofInt n).toInt32 = v) : XSnd M pc (X_push (xv_i v) 3) := by
  intro G p l e R s m args below meth c P t0 S0 htr0 hC K hK L st S u w h t H locs ls cells slots h1 h2 h3 h4 h5 h6 h7 h8 h9
  exact lv_sipush hC.1 hC.2.1 hd hv (hK _ _ _ _ _ _ h t H locs ls cells slots h1 h2 h3 h4 h5 h6 (x_oks.cons trivial h7) h8 h9)
theorem xs_lconst {n : Fin 2} {v : Int64} (hd : decode M.2.1 pc = .ok (.lconst n, 1)) (hv : Int64.ofNat (n : Nat) = v) : XSnd M pc (X_push (xv_l v) 1) := by
  intro G p l e R s m args below meth c P t0 S0 htr0 hC K hK L st S u w h t H locs ls cells slots h1 h2 h3 h4 h5 h6 h7 h8 h9
  exact lv_lconst hC.1 hC.2.1 hd hv (hK _ _ _ _ _ _ h t H locs ls cells slots h1 h2 h3 h4 h5 h6 (x_oks.cons trivial h7) h8 h9)
theorem xs_null  (hd : decode M.2.1 pc = .ok (.aconst_null, 1))  : XSnd M pc (X_push xv_n 1) := by
  intro G p l e R s m args below meth c P t0 S0 htr0 hC K hK L st S u w h t H locs ls cells slots h1 h2 h3 h4 h5 h6 h7 h8 h9
  exact lv_null hC.1 hC.2.1 hd (hK _ _ _ _ _ _ h t H locs ls cells slots h1 h2 h3 h4 h5 h6 (x_oks.cons trivial h7) h8 h9)
theorem xs_ldc {i : Nat} {v : Int32} (hd : decode M.2.1 pc = .ok (.ldc i, 2)) (hw : Cond.constant M.1 i v ∈ x_Wd) : XSnd M pc (X_push (xv_i v) 2) := by
  intro G p l e R s m args below meth c P t0 S0 htr0 hC K hK L st S u w h t H locs ls cells slots h1 h2 h3 h4 h5 h6 h7 h8 h9
  exact lv_ldc hC.1 hC.2.1 hC.2.2.2.2.1 (hC.2.2.2.2.2.1 _ hw) hd (hK _ _ _ _ _ _ h t H locs ls cells slots h1 h2 h3 h4 h5 h6 (x_oks.cons trivial h7) h8 h9)
def X_iload (i n : Nat) : XI := fun K _ pc L st S u w => match L[i]? with
  | some (some (.inl x)) => K (pc + n) L (.inl x :: st) S u w
  | _ => False
def X_aload (i n : Nat) : XI := fun K _ pc L st S u w => match L[i]? with
  | some (some (.inr (.inr r))) => K (pc + n) L (.inr (.inr r) :: st) S u w
  | _ => False
theorem xs_iload_n {i : Nat} {k : Fin 4} (hd : decode M.2.1 pc = .ok (.iload_n k, 1)) (hi : (k : Nat) = i) : XSnd M pc (X_iload i 1) := by
  intro G p l e R s m args below meth c P t0 S0 htr0 hC K hK L st S u w h t H locs ls cells slots h1 h2 h3 h4 h5 h6 h7 h8 h9
  unfold X_iload at h
  split at h
  · next x hq => exact lv_iload_n hC.1 hC.2.1 hd hi (h5.at hq) (hK _ _ _ _ _ _ h t H locs ls cells slots h1 h2 h3 h4 h5 h6 (x_oks.cons trivial h7) h8 h9)
  · exact h.elim
theorem xs_iload {i : Nat}  (hd : decode M.2.1 pc = .ok (.iload i, 2))  : XSnd M pc (X_iload i 2) := by
  intro G p l e R s m args below meth c P t0 S0 htr0 hC K hK L st S u w h t H locs ls cells slots h1 h2 h3 h4 h5 h6 h7 h8 h9
  unfold X_iload at h
  split at h
  · next x hq => exact lv_iload hC.1 hC.2.1 hd (h5.at hq) (hK _ _ _ _ _ _ h t H locs ls cells slots h1 h2 h3 h4 h5 h6 (x_oks.cons trivial h7) h8 h9)
  · exact h.elim
theorem xs_aload_n {i : Nat} {k : Fin 4} (hd : decode M.2.1 pc = .ok (.aload_n k, 1)) (hi : (k : Nat) = i) : XSnd M pc (X_aload i 1) := by
  intro G p l e R s m args below meth c P t0 S0 htr0 hC K hK L st S u w h t H locs ls cells slots h1 h2 h3 h4 h5 h6 h7 h8 h9
  unfold X_aload at h
  split at h
  · next r hq =>
    have k := hK _ _ _ _ _ _ h t H locs ls cells slots h1 h2 h3 h4 h5 h6 (x_oks.cons (h6 _ (List.mem_of_getElem? hq)) h7) h8 h9
    cases r with
    | none => exact lv_aload_nN hC.1 hC.2.1 hd hi (h5.at hq) k
    | some r => exact lv_aload_n hC.1 hC.2.1 hd hi (h5.at hq) k
  · exact h.elim
theorem xs_aload {i : Nat}  (hd : decode M.2.1 pc = .ok (.aload i, 2))  : XSnd M pc (X_aload i 2) := by
  intro G p l e R s m args below meth c P t0 S0 htr0 hC K hK L st S u w h t H locs ls cells slots h1 h2 h3 h4 h5 h6 h7 h8 h9
  unfold X_aload at h
  split at h
  · next r hq =>
    have k := hK _ _ _ _ _ _ h t H locs ls cells slots h1 h2 h3 h4 h5 h6 (x_oks.cons (h6 _ (List.mem_of_getElem? hq)) h7) h8 h9
    cases r with
    | none => exact lv_aloadN hC.1 hC.2.1 hd (h5.at hq) k
    | some r => exact lv_aload hC.1 hC.2.1 hd (h5.at hq) k
  · exact h.elim
def X_istore (i n : Nat) : XI := fun K _ pc L st S u w => match st with
  | .inl x :: r => K (pc + n) (L.set i (some (.inl x))) r S u w
  | _ => False
def X_astore (i n : Nat) : XI := fun K _ pc L st S u w => match st with
  | .inr (.inr x) :: r => K (pc + n) (L.set i (some (.inr (.inr x)))) r S u w
  | _ => False
def X_iinc (i : Nat) (d : Int32) : XI := fun K _ pc L st S u w => match L[i]? with
  | some (some (.inl x)) => K (pc + 3) (L.set i (some (.inl (x + d)))) st S u w
  | _ => False
theorem xs_istore_n {i : Nat} {k : Fin 4} (hd : decode M.2.1 pc = .ok (.istore_n k, 1)) (hi : (k : Nat) = i) (hn : i < M.2.2.1) : XSnd M pc (X_istore i 1) := by
  intro G p l e R s m args below meth c P t0 S0 htr0 hC K hK L st S u w h t H locs ls cells slots h1 h2 h3 h4 h5 h6 h7 h8 h9
  unfold X_istore at h
  split at h
  · next x r => exact lv_istore_n hC.1 hC.2.1 hd hi h5.1 hn rfl fun ls' hl => hK _ _ _ _ _ _ h t H locs ls' cells slots h1 h2 h3 h4 (x_L.set (v := xv_i x) h5.2 rfl hl) (h6.set trivial) h7.tl h8 h9
  · exact h.elim
theorem xs_istore {i : Nat}  (hd : decode M.2.1 pc = .ok (.istore i, 2))  (hn : i < M.2.2.1) : XSnd M pc (X_istore i 2) := by
  intro G p l e R s m args below meth c P t0 S0 htr0 hC K hK L st S u w h t H locs ls cells slots h1 h2 h3 h4 h5 h6 h7 h8 h9
  unfold X_istore at h
  split at h
  · next x r => exact lv_istore hC.1 hC.2.1 hd h5.1 hn rfl fun ls' hl => hK _ _ _ _ _ _ h t H locs ls' cells slots h1 h2 h3 h4 (x_L.set (v := xv_i x) h5.2 rfl hl) (h6.set trivial) h7.tl h8 h9
  · exact h.elim
theorem xs_astore_n {i : Nat} {k : Fin 4} (hd : decode M.2.1 pc = .ok (.astore_n k, 1)) (hi : (k : Nat) = i) (hn : i < M.2.2.1) : XSnd M pc (X_astore i 1) := by
  intro G p l e R s m args below meth c P t0 S0 htr0 hC K hK L st S u w h t H locs ls cells slots h1 h2 h3 h4 h5 h6 h7 h8 h9
  unfold X_astore at h
  split at h
  · next x r =>
    have k := fun ls' hl => hK _ _ _ _ _ _ h t H locs ls' cells slots h1 h2 h3 h4 (x_L.set (v := xv_o x) h5.2 rfl hl) (h6.set h7.hd) h7.tl h8 h9
    cases x with
    | none => exact lv_astore_nN hC.1 hC.2.1 hd hi h5.1 hn rfl k
    | some x => exact lv_astore_n hC.1 hC.2.1 hd hi h5.1 hn rfl k
  · exact h.elim
theorem xs_astore {i : Nat}  (hd : decode M.2.1 pc = .ok (.astore i, 2))  (hn : i < M.2.2.1) : XSnd M pc (X_astore i 2) := by
  intro G p l e R s m args below meth c P t0 S0 htr0 hC K hK L st S u w h t H locs ls cells slots h1 h2 h3 h4 h5 h6 h7 h8 h9
  unfold X_astore at h
  split at h
  · next x r =>
    have k := fun ls' hl => hK _ _ _ _ _ _ h t H locs ls' cells slots h1 h2 h3 h4 (x_L.set (v := xv_o x) h5.2 rfl hl) (h6.set h7.hd) h7.tl h8 h9
    cases x with
    | none => exact lv_astoreN hC.1 hC.2.1 hd h5.1 hn rfl k
    | some x => exact lv_astore hC.1 hC.2.1 hd h5.1 hn rfl k
  · exact h.elim
theorem xs_iinc {i : Nat} {d : Int} {v : Int32} (hd : decode M.2.1 pc = .ok (.iinc i d, 3)) (hv : Int32.ofInt d = v) (hn : i < M.2.2.1) : XSnd M pc (X_iinc i v) := by
  intro G p l e R s m args below meth c P t0 S0 htr0 hC K hK L st S u w h t H locs ls cells slots h1 h2 h3 h4 h5 h6 h7 h8 h9
  subst hv
  unfold X_iinc at h
  split at h
  · next x hq =>
    obtain ⟨k, hk⟩ := List.getElem?_of_mem (x_pl_mem.mpr ⟨xv_i x, hq, rfl⟩ : (i, xz t (xv_i x)) ∈ x_pl t L)
    exact lv_iinc hC.1 hC.2.1 hd h5.1 hk rfl hn rfl fun ls' hl => hK _ _ _ _ _ _ h t H locs ls' cells slots h1 h2 h3 h4 (x_L.set (v := xv_i (x + Int32.ofInt d)) h5.2 rfl hl) (h6.set trivial) h7 h8 h9
  · exact h.elim
def X_bin (f : Int32 → Int32 → Int32) : XI := fun K _ pc L st S u w => match st with
  | .inl y :: .inl x :: r => K (pc + 1) L (.inl (f x y) :: r) S u w
  | _ => False
def X_div : XI := fun K _ pc L st S u w => match st with
  | .inl y :: .inl x :: r => ¬ y = 0 ∧ K (pc + 1) L (.inl (x / y) :: r) S u w
  | _ => False
def X_rem : XI := fun K _ pc L st S u w => match st with
  | .inl y :: .inl x :: r => ¬ y = 0 ∧ K (pc + 1) L (.inl (x - x / y * y) :: r) S u w
  | _ => False
theorem xs_iadd (hd : decode M.2.1 pc = .ok (.iadd, 1)) : XSnd M pc (X_bin (fun x y => x + y)) := by
  intro G p l e R s m args below meth c P t0 S0 htr0 hC K hK L st S u w h t H locs ls cells slots h1 h2 h3 h4 h5 h6 h7 h8 h9
  unfold X_bin at h
  split at h
  · exact lv_iadd hC.1 hC.2.1 hd (hK _ _ _ _ _ _ h t H locs ls cells slots h1 h2 h3 h4 h5 h6 (x_oks.cons trivial h7.tl.tl) h8 h9)
  · exact h.elim
theorem xs_isub (hd : decode M.2.1 pc = .ok (.isub, 1)) : XSnd M pc (X_bin (fun x y => x - y)) := by
  intro G p l e R s m args below meth c P t0 S0 htr0 hC K hK L st S u w h t H locs ls cells slots h1 h2 h3 h4 h5 h6 h7 h8 h9
  unfold X_bin at h
  split at h
  · exact lv_isub hC.1 hC.2.1 hd (hK _ _ _ _ _ _ h t H locs ls cells slots h1 h2 h3 h4 h5 h6 (x_oks.cons trivial h7.tl.tl) h8 h9)
  · exact h.elim
theorem xs_imul (hd : decode M.2.1 pc = .ok (.imul, 1)) : XSnd M pc (X_bin (fun x y => x * y)) := by
  intro G p l e R s m args below meth c P t0 S0 htr0 hC K hK L st S u w h t H locs ls cells slots h1 h2 h3 h4 h5 h6 h7 h8 h9
  unfold X_bin at h
  split at h
  · exact lv_imul hC.1 hC.2.1 hd (hK _ _ _ _ _ _ h t H locs ls cells slots h1 h2 h3 h4 h5 h6 (x_oks.cons trivial h7.tl.tl) h8 h9)
  · exact h.elim
theorem xs_iand (hd : decode M.2.1 pc = .ok (.iand, 1)) : XSnd M pc (X_bin (fun x y => x &&& y)) := by
  intro G p l e R s m args below meth c P t0 S0 htr0 hC K hK L st S u w h t H locs ls cells slots h1 h2 h3 h4 h5 h6 h7 h8 h9
  unfold X_bin at h
  split at h
  · exact lv_iand hC.1 hC.2.1 hd (hK _ _ _ _ _ _ h t H locs ls cells slots h1 h2 h3 h4 h5 h6 (x_oks.cons trivial h7.tl.tl) h8 h9)
  · exact h.elim
theorem xs_ior (hd : decode M.2.1 pc = .ok (.ior, 1)) : XSnd M pc (X_bin (fun x y => x ||| y)) := by
  intro G p l e R s m args below meth c P t0 S0 htr0 hC K hK L st S u w h t H locs ls cells slots h1 h2 h3 h4 h5 h6 h7 h8 h9
  unfold X_bin at h
  split at h
  · exact lv_ior hC.1 hC.2.1 hd (hK _ _ _ _ _ _ h t H locs ls cells slots h1 h2 h3 h4 h5 h6 (x_oks.cons trivial h7.tl.tl) h8 h9)
  · exact h.elim
theorem xs_ixor (hd : decode M.2.1 pc = .ok (.ixor, 1)) : XSnd M pc (X_bin (fun x y => x ^^^ y)) := by
  intro G p l e R s m args below meth c P t0 S0 htr0 hC K hK L st S u w h t H locs ls cells slots h1 h2 h3 h4 h5 h6 h7 h8 h9
  unfold X_bin at h
  split at h
  · exact lv_ixor hC.1 hC.2.1 hd (hK _ _ _ _ _ _ h t H locs ls cells slots h1 h2 h3 h4 h5 h6 (x_oks.cons trivial h7.tl.tl) h8 h9)
  · exact h.elim
theorem xs_ishl (hd : decode M.2.1 pc = .ok (.ishl, 1)) : XSnd M pc (X_bin (fun x y => x <<< (y &&& 31))) := by
  intro G p l e R s m args below meth c P t0 S0 htr0 hC K hK L st S u w h t H locs ls cells slots h1 h2 h3 h4 h5 h6 h7 h8 h9
  unfold X_bin at h
  split at h
  · exact lv_ishl hC.1 hC.2.1 hd (hK _ _ _ _ _ _ h t H locs ls cells slots h1 h2 h3 h4 h5 h6 (x_oks.cons trivial h7.tl.tl) h8 h9)
  · exact h.elim
theorem xs_ishr (hd : decode M.2.1 pc = .ok (.ishr, 1)) : XSnd M pc (X_bin (fun x y => x >>> (y &&& 31))) := by
  intro G p l e R s m args below meth c P t0 S0 htr0 hC K hK L st S u w h t H locs ls cells slots h1 h2 h3 h4 h5 h6 h7 h8 h9
  unfold X_bin at h
  split at h
  · exact lv_ishr hC.1 hC.2.1 hd (hK _ _ _ _ _ _ h t H locs ls cells slots h1 h2 h3 h4 h5 h6 (x_oks.cons trivial h7.tl.tl) h8 h9)
  · exact h.elim
theorem xs_idiv (hd : decode M.2.1 pc = .ok (.idiv, 1)) : XSnd M pc X_div := by
  intro G p l e R s m args below meth c P t0 S0 htr0 hC K hK L st S u w h t H locs ls cells slots h1 h2 h3 h4 h5 h6 h7 h8 h9
  unfold X_div at h
  split at h
  · exact lv_idiv hC.1 hC.2.1 hd h.1 (hK _ _ _ _ _ _ h.2 t H locs ls cells slots h1 h2 h3 h4 h5 h6 (x_oks.cons trivial h7.tl.tl) h8 h9)
  · exact h.elim
theorem xs_irem (hd : decode M.2.1 pc = .ok (.irem, 1)) : XSnd M pc X_rem := by
  intro G p l e R s m args below meth c P t0 S0 htr0 hC K hK L st S u w h t H locs ls cells slots h1 h2 h3 h4 h5 h6 h7 h8 h9
  unfold X_rem at h
  split at h
  · exact lv_irem hC.1 hC.2.1 hd h.1 (hK _ _ _ _ _ _ h.2 t H locs ls cells slots h1 h2 h3 h4 h5 h6 (x_oks.cons trivial h7.tl.tl) h8 h9)
  · exact h.elim
def X_un (f : Int32 → Int32) : XI := fun K _ pc L st S u w => match st with
  | .inl x :: r => K (pc + 1) L (.inl (f x) :: r) S u w
  | _ => False
def X_i2l : XI := fun K _ pc L st S u w => match st with
  | .inl x :: r => K (pc + 1) L (.inr (.inl x.toInt64) :: r) S u w
  | _ => False
def X_lcmp : XI := fun K _ pc L st S u w => match st with
  | .inr (.inl y) :: .inr (.inl x) :: r => K (pc + 1) L (.inl (lg_cmp x y) :: r) S u w
  | _ => False
def X_dup : XI := fun K _ pc L st S u w => match st with
  | a :: r => match x_c1 a with
    | true => K (pc + 1) L (a :: a :: r) S u w
    | false => False
  | _ => False
def X_pop : XI := fun K _ pc L st S u w => match st with
  | a :: r => match x_c1 a with
    | true => K (pc + 1) L r S u w
    | false => False
  | _ => False
def X_dup_x1 : XI := fun K _ pc L st S u w => match st with
  | a :: b :: r => match x_c1 a && x_c1 b with
    | true => K (pc + 1) L (a :: b :: a :: r) S u w
    | false => False
  | _ => False
def X_dup_x2 : XI := fun K _ pc L st S u w => match st with
  | a :: b :: d :: r => match x_c1 a && (x_c1 b && x_c1 d) with
    | true => K (pc + 1) L (a :: b :: d :: a :: r) S u w
    | false => False
  | _ => False
def X_dup2 : XI := fun K _ pc L st S u w => match st with
  | a :: b :: r => match x_c1 a && x_c1 b with
    | true => K (pc + 1) L (a :: b :: a :: b :: r) S u w
    | false => False
  | _ => False
theorem xs_ineg (hd : decode M.2.1 pc = .ok (.ineg, 1)) : XSnd M pc (X_un (fun x => -x)) := by
  intro G p l e R s m args below meth c P t0 S0 htr0 hC K hK L st S u w h t H locs ls cells slots h1 h2 h3 h4 h5 h6 h7 h8 h9
  unfold X_un at h
  split at h
  · exact lv_ineg hC.1 hC.2.1 hd (hK _ _ _ _ _ _ h t H locs ls cells slots h1 h2 h3 h4 h5 h6 (x_oks.cons trivial h7.tl) h8 h9)
  · exact h.elim
theorem xs_i2c (hd : decode M.2.1 pc = .ok (.i2c, 1)) : XSnd M pc (X_un (fun x => (x.toUInt32 % 65536).toInt32)) := by
  intro G p l e R s m args below meth c P t0 S0 htr0 hC K hK L st S u w h t H locs ls cells slots h1 h2 h3 h4 h5 h6 h7 h8 h9
  unfold X_un at h
  split at h
  · exact lv_i2c hC.1 hC.2.1 hd rfl (hK _ _ _ _ _ _ h t H locs ls cells slots h1 h2 h3 h4 h5 h6 (x_oks.cons trivial h7.tl) h8 h9)
  · exact h.elim
theorem xs_i2b (hd : decode M.2.1 pc = .ok (.i2b, 1)) : XSnd M pc (X_un (fun x => x.toInt8.toInt32)) := by
  intro G p l e R s m args below meth c P t0 S0 htr0 hC K hK L st S u w h t H locs ls cells slots h1 h2 h3 h4 h5 h6 h7 h8 h9
  unfold X_un at h
  split at h
  · exact lv_i2b hC.1 hC.2.1 hd rfl (hK _ _ _ _ _ _ h t H locs ls cells slots h1 h2 h3 h4 h5 h6 (x_oks.cons trivial h7.tl) h8 h9)
  · exact h.elim
theorem xs_i2l (hd : decode M.2.1 pc = .ok (.i2l, 1)) : XSnd M pc X_i2l := by
  intro G p l e R s m args below meth c P t0 S0 htr0 hC K hK L st S u w h t H locs ls cells slots h1 h2 h3 h4 h5 h6 h7 h8 h9
  unfold X_i2l at h
  split at h
  · exact lv_i2l hC.1 hC.2.1 hd rfl (hK _ _ _ _ _ _ h t H locs ls cells slots h1 h2 h3 h4 h5 h6 (x_oks.cons trivial h7.tl) h8 h9)
  · exact h.elim
theorem xs_lcmp (hd : decode M.2.1 pc = .ok (.lcmp, 1)) : XSnd M pc X_lcmp := by
  intro G p l e R s m args below meth c P t0 S0 htr0 hC K hK L st S u w h t H locs ls cells slots h1 h2 h3 h4 h5 h6 h7 h8 h9
  unfold X_lcmp at h
  split at h
  · exact W.lcmp hC.1 hC.2.1 hd (hK _ _ _ _ _ _ h t H locs ls cells slots h1 h2 h3 h4 h5 h6 (x_oks.cons trivial h7.tl.tl) h8 h9)
  · exact h.elim
theorem xs_dup (hd : decode M.2.1 pc = .ok (.dup, 1)) : XSnd M pc X_dup := by
  intro G p l e R s m args below meth c P t0 S0 htr0 hC K hK L st S u w h t H locs ls cells slots h1 h2 h3 h4 h5 h6 h7 h8 h9
  unfold X_dup at h
  split at h
  · split at h
    · next a r ha => exact lv_dup hC.1 hC.2.1 hd (x_c1_cat ha) (hK _ _ _ _ _ _ h t H locs ls cells slots h1 h2 h3 h4 h5 h6 (x_oks.cons h7.hd h7) h8 h9)
    · exact h.elim
  · exact h.elim
theorem xs_pop (hd : decode M.2.1 pc = .ok (.pop, 1)) : XSnd M pc X_pop := by
  intro G p l e R s m args below meth c P t0 S0 htr0 hC K hK L st S u w h t H locs ls cells slots h1 h2 h3 h4 h5 h6 h7 h8 h9
  unfold X_pop at h
  split at h
  · split at h
    · next a r ha => exact lv_pop hC.1 hC.2.1 hd (x_c1_cat ha) (hK _ _ _ _ _ _ h t H locs ls cells slots h1 h2 h3 h4 h5 h6 h7.tl h8 h9)
    · exact h.elim
  · exact h.elim
theorem xs_dup_x1 (hd : decode M.2.1 pc = .ok (.dup_x1, 1)) : XSnd M pc X_dup_x1 := by
  intro G p l e R s m args below meth c P t0 S0 htr0 hC K hK L st S u w h t H locs ls cells slots h1 h2 h3 h4 h5 h6 h7 h8 h9
  unfold X_dup_x1 at h
  split at h
  · split at h
    · next a b r ha =>
      rw [Bool.and_eq_true] at ha
      exact lv_dup_x1 hC.1 hC.2.1 hd (x_c1_cat ha.1) (x_c1_cat ha.2) (hK _ _ _ _ _ _ h t H locs ls cells slots h1 h2 h3 h4 h5 h6 (x_oks.cons h7.hd (x_oks.cons h7.tl.hd (x_oks.cons h7.hd h7.tl.tl))) h8 h9)
    · exact h.elim
  · exact h.elim
theorem xs_dup_x2 (hd : decode M.2.1 pc = .ok (.dup_x2, 1)) : XSnd M pc X_dup_x2 := by
  intro G p l e R s m args below meth c P t0 S0 htr0 hC K hK L st S u w h t H locs ls cells slots h1 h2 h3 h4 h5 h6 h7 h8 h9
  unfold X_dup_x2 at h
  split at h
  · split at h
    · next a b d r ha =>
      rw [Bool.and_eq_true, Bool.and_eq_true] at ha
      exact lv_dup_x2 hC.1 hC.2.1 hd (x_c1_cat ha.1) (x_c1_cat ha.2.1) (x_c1_cat ha.2.2) (hK _ _ _ _ _ _ h t H locs ls cells slots h1 h2 h3 h4 h5 h6 (x_oks.cons h7.hd (x_oks.cons h7.tl.hd (x_oks.cons h7.tl.tl.hd (x_oks.cons h7.hd h7.tl.tl.tl)))) h8 h9)
    · exact h.elim
  · exact h.elim
theorem xs_dup2 (hd : decode M.2.1 pc = .ok (.dup2, 1)) : XSnd M pc X_dup2 := by
  intro G p l e R s m args below meth c P t0 S0 htr0 hC K hK L st S u w h t H locs ls cells slots h1 h2 h3 h4 h5 h6 h7 h8 h9
  unfold X_dup2 at h
  split at h
  · split at h
    · next a b r ha =>
      rw [Bool.and_eq_true] at ha
      exact lv_dup2_11 hC.1 hC.2.1 hd (x_c1_cat ha.1) (x_c1_cat ha.2) (hK _ _ _ _ _ _ h t H locs ls cells slots h1 h2 h3 h4 h5 h6 (x_oks.cons h7.hd (x_oks.cons h7.tl.hd h7)) h8 h9)
    · exact h.elim
  · exact h.elim
def X_if (f : Int32 → Prop) (tgt : Nat) : XI := fun K _ pc L st S u w => match st with
  | .inl x :: r => (f x → K tgt L r S u w) ∧ (¬ f x → K (pc + 3) L r S u w)
  | _ => False
def X_icmp (f : Int32 → Int32 → Prop) (tgt : Nat) : XI := fun K _ pc L st S u w => match st with
  | .inl y :: .inl x :: r => (f x y → K tgt L r S u w) ∧ (¬ f x y → K (pc + 3) L r S u w)
  | _ => False
def X_goto (tgt : Nat) : XI := fun K _ _ L st S u w => K tgt L st S u w
def X_ifnull (tgt : Nat) : XI := fun K _ pc L st S u w => match st with
  | .inr (.inr none) :: r => K tgt L r S u w
  | .inr (.inr (some _)) :: r => K (pc + 3) L r S u w
  | _ => False
def X_ifnonnull (tgt : Nat) : XI := fun K _ pc L st S u w => match st with
  | .inr (.inr none) :: r => K (pc + 3) L r S u w
  | .inr (.inr (some _)) :: r => K tgt L r S u w
  | _ => False
/-- references that can be told apart -/
def x_cmp (x y : Option (Nat × Nat)) : Prop := match x, y with
  | some a, some b => a.1 < 48 ∨ b.1 < 48 ∨ (a.1 = b.1 ∧ (a.1 = 49 ∨ a.1 = 50 ∨ a.1 = 54))
  | _, _ => True
def X_acmp (f : Prop → Prop) (tgt : Nat) : XI := fun K _ pc L st S u w => match st with
  | .inr (.inr y) :: .inr (.inr x) :: r => x_cmp x y ∧ (f (x = y) → K tgt L r S u w) ∧ (¬ f (x = y) → K (pc + 3) L r S u w)
  | _ => False
theorem xs_if_eq {off : Int} {tgt : Nat} (hd : decode M.2.1 pc = .ok (.ifCond .eq off, 3)) (ht : (pc : Int) + off = (tgt : Int)) : XSnd M pc (X_if (fun x => x = 0) tgt) := by
  intro G p l e R s m args below meth c P t0 S0 htr0 hC K hK L st S u w h t H locs ls cells slots h1 h2 h3 h4 h5 h6 h7 h8 h9
  unfold X_if at h
  split at h
  · exact lv_if_eq hC.1 hC.2.1 hd ht (fun q => hK _ _ _ _ _ _ (h.1 q) t H locs ls cells slots h1 h2 h3 h4 h5 h6 h7.tl h8 h9) (fun q => hK _ _ _ _ _ _ (h.2 q) t H locs ls cells slots h1 h2 h3 h4 h5 h6 h7.tl h8 h9)
  · exact h.elim
theorem xs_if_ne {off : Int} {tgt : Nat} (hd : decode M.2.1 pc = .ok (.ifCond .ne off, 3)) (ht : (pc : Int) + off = (tgt : Int)) : XSnd M pc (X_if (fun x => ¬ x = 0) tgt) := by
  intro G p l e R s m args below meth c P t0 S0 htr0 hC K hK L st S u w h t H locs ls cells slots h1 h2 h3 h4 h5 h6 h7 h8 h9
  unfold X_if at h
  split at h
  · exact lv_if_ne hC.1 hC.2.1 hd ht (fun q => hK _ _ _ _ _ _ (h.1 q) t H locs ls cells slots h1 h2 h3 h4 h5 h6 h7.tl h8 h9) (fun q => hK _ _ _ _ _ _ (h.2 (fun z => z q)) t H locs ls cells slots h1 h2 h3 h4 h5 h6 h7.tl h8 h9)
  · exact h.elim
theorem xs_if_lt {off : Int} {tgt : Nat} (hd : decode M.2.1 pc = .ok (.ifCond .lt off, 3)) (ht : (pc : Int) + off = (tgt : Int)) : XSnd M pc (X_if (fun x => x < 0) tgt) := by
  intro G p l e R s m args below meth c P t0 S0 htr0 hC K hK L st S u w h t H locs ls cells slots h1 h2 h3 h4 h5 h6 h7 h8 h9
  unfold X_if at h
  split at h
  · exact lv_if_lt hC.1 hC.2.1 hd ht (fun q => hK _ _ _ _ _ _ (h.1 q) t H locs ls cells slots h1 h2 h3 h4 h5 h6 h7.tl h8 h9) (fun q => hK _ _ _ _ _ _ (h.2 q) t H locs ls cells slots h1 h2 h3 h4 h5 h6 h7.tl h8 h9)
  · exact h.elim
theorem xs_if_ge {off : Int} {tgt : Nat} (hd : decode M.2.1 pc = .ok (.ifCond .ge off, 3)) (ht : (pc : Int) + off = (tgt : Int)) : XSnd M pc (X_if (fun x => 0 ≤ x) tgt) := by
  intro G p l e R s m args below meth c P t0 S0 htr0 hC K hK L st S u w h t H locs ls cells slots h1 h2 h3 h4 h5 h6 h7 h8 h9
  unfold X_if at h
  split at h
  · exact lv_if_ge hC.1 hC.2.1 hd ht (fun q => hK _ _ _ _ _ _ (h.1 q) t H locs ls cells slots h1 h2 h3 h4 h5 h6 h7.tl h8 h9) (fun q => hK _ _ _ _ _ _ (h.2 q) t H locs ls cells slots h1 h2 h3 h4 h5 h6 h7.tl h8 h9)
  · exact h.elim
theorem xs_if_gt {off : Int} {tgt : Nat} (hd : decode M.2.1 pc = .ok (.ifCond .gt off, 3)) (ht : (pc : Int) + off = (tgt : Int)) : XSnd M pc (X_if (fun x => 0 < x) tgt) := by
  intro G p l e R s m args below meth c P t0 S0 htr0 hC K hK L st S u w h t H locs ls cells slots h1 h2 h3 h4 h5 h6 h7 h8 h9
  unfold X_if at h
  split at h
  · exact lv_if_gt hC.1 hC.2.1 hd ht (fun q => hK _ _ _ _ _ _ (h.1 q) t H locs ls cells slots h1 h2 h3 h4 h5 h6 h7.tl h8 h9) (fun q => hK _ _ _ _ _ _ (h.2 q) t H locs ls cells slots h1 h2 h3 h4 h5 h6 h7.tl h8 h9)
  · exact h.elim
theorem xs_if_le {off : Int} {tgt : Nat} (hd : decode M.2.1 pc = .ok (.ifCond .le off, 3)) (ht : (pc : Int) + off = (tgt : Int)) : XSnd M pc (X_if (fun x => x ≤ 0) tgt) := by
  intro G p l e R s m args below meth c P t0 S0 htr0 hC K hK L st S u w h t H locs ls cells slots h1 h2 h3 h4 h5 h6 h7 h8 h9
  unfold X_if at h
  split at h
  · exact lv_if_le hC.1 hC.2.1 hd ht (fun q => hK _ _ _ _ _ _ (h.1 q) t H locs ls cells slots h1 h2 h3 h4 h5 h6 h7.tl h8 h9) (fun q => hK _ _ _ _ _ _ (h.2 q) t H locs ls cells slots h1 h2 h3 h4 h5 h6 h7.tl h8 h9)
  · exact h.elim
theorem xs_icmp_eq {off : Int} {tgt : Nat} (hd : decode M.2.1 pc = .ok (.if_icmp .eq off, 3)) (ht : (pc : Int) + off = (tgt : Int)) : XSnd M pc (X_icmp (fun x y => x = y) tgt) := by
  intro G p l e R s m args below meth c P t0 S0 htr0 hC K hK L st S u w h t H locs ls cells slots h1 h2 h3 h4 h5 h6 h7 h8 h9
  unfold X_icmp at h
  split at h
  · exact lv_icmp_eq hC.1 hC.2.1 hd ht (fun q => hK _ _ _ _ _ _ (h.1 q) t H locs ls cells slots h1 h2 h3 h4 h5 h6 h7.tl.tl h8 h9) (fun q => hK _ _ _ _ _ _ (h.2 q) t H locs ls cells slots h1 h2 h3 h4 h5 h6 h7.tl.tl h8 h9)
  · exact h.elim
theorem xs_icmp_ne {off : Int} {tgt : Nat} (hd : decode M.2.1 pc = .ok (.if_icmp .ne off, 3)) (ht : (pc : Int) + off = (tgt : Int)) : XSnd M pc (X_icmp (fun x y => ¬ x = y) tgt) := by
  intro G p l e R s m args below meth c P t0 S0 htr0 hC K hK L st S u w h t H locs ls cells slots h1 h2 h3 h4 h5 h6 h7 h8 h9
  unfold X_icmp at h
  split at h
  · exact lv_icmp_ne hC.1 hC.2.1 hd ht (fun q => hK _ _ _ _ _ _ (h.1 q) t H locs ls cells slots h1 h2 h3 h4 h5 h6 h7.tl.tl h8 h9) (fun q => hK _ _ _ _ _ _ (h.2 (fun z => z q)) t H locs ls cells slots h1 h2 h3 h4 h5 h6 h7.tl.tl h8 h9)
  · exact h.elim
theorem xs_icmp_lt {off : Int} {tgt : Nat} (hd : decode M.2.1 pc = .ok (.if_icmp .lt off, 3)) (ht : (pc : Int) + off = (tgt : Int)) : XSnd M pc (X_icmp (fun x y => x < y) tgt) := by
  intro G p l e R s m args below meth c P t0 S0 htr0 hC K hK L st S u w h t H locs ls cells slots h1 h2 h3 h4 h5 h6 h7 h8 h9
  unfold X_icmp at h
  split at h
  · exact lv_icmp_lt hC.1 hC.2.1 hd ht (fun q => hK _ _ _ _ _ _ (h.1 q) t H locs ls cells slots h1 h2 h3 h4 h5 h6 h7.tl.tl h8 h9) (fun q => hK _ _ _ _ _ _ (h.2 q) t H locs ls cells slots h1 h2 h3 h4 h5 h6 h7.tl.tl h8 h9)
  · exact h.elim
theorem xs_icmp_ge {off : Int} {tgt : Nat} (hd : decode M.2.1 pc = .ok (.if_icmp .ge off, 3)) (ht : (pc : Int) + off = (tgt : Int)) : XSnd M pc (X_icmp (fun x y => y ≤ x) tgt) := by
  intro G p l e R s m args below meth c P t0 S0 htr0 hC K hK L st S u w h t H locs ls cells slots h1 h2 h3 h4 h5 h6 h7 h8 h9
  unfold X_icmp at h
  split at h
  · exact lv_icmp_ge hC.1 hC.2.1 hd ht (fun q => hK _ _ _ _ _ _ (h.1 q) t H locs ls cells slots h1 h2 h3 h4 h5 h6 h7.tl.tl h8 h9) (fun q => hK _ _ _ _ _ _ (h.2 q) t H locs ls cells slots h1 h2 h3 h4 h5 h6 h7.tl.tl h8 h9)
  · exact h.elim
theorem xs_icmp_gt {off : Int} {tgt : Nat} (hd : decode M.2.1 pc = .ok (.if_icmp .gt off, 3)) (ht : (pc : Int) + off = (tgt : Int)) : XSnd M pc (X_icmp (fun x y => y < x) tgt) := by
  intro G p l e R s m args below meth c P t0 S0 htr0 hC K hK L st S u w h t H locs ls cells slots h1 h2 h3 h4 h5 h6 h7 h8 h9
  unfold X_icmp at h
  split at h
  · exact lv_icmp_gt hC.1 hC.2.1 hd ht (fun q => hK _ _ _ _ _ _ (h.1 q) t H locs ls cells slots h1 h2 h3 h4 h5 h6 h7.tl.tl h8 h9) (fun q => hK _ _ _ _ _ _ (h.2 q) t H locs ls cells slots h1 h2 h3 h4 h5 h6 h7.tl.tl h8 h9)
  · exact h.elim
theorem xs_icmp_le {off : Int} {tgt : Nat} (hd : decode M.2.1 pc = .ok (.if_icmp .le off, 3)) (ht : (pc : Int) + off = (tgt : Int)) : XSnd M pc (X_icmp (fun x y => x ≤ y) tgt) := by
  intro G p l e R s m args below meth c P t0 S0 htr0 hC K hK L st S u w h t H locs ls cells slots h1 h2 h3 h4 h5 h6 h7 h8 h9
  unfold X_icmp at h
  split at h
  · exact lv_icmp_le hC.1 hC.2.1 hd ht (fun q => hK _ _ _ _ _ _ (h.1 q) t H locs ls cells slots h1 h2 h3 h4 h5 h6 h7.tl.tl h8 h9) (fun q => hK _ _ _ _ _ _ (h.2 q) t H locs ls cells slots h1 h2 h3 h4 h5 h6 h7.tl.tl h8 h9)
  · exact h.elim
theorem xs_goto {off : Int} {tgt : Nat} (hd : decode M.2.1 pc = .ok (.goto off, 3)) (ht : (pc : Int) + off = (tgt : Int)) : XSnd M pc (X_goto tgt) := by
  intro G p l e R s m args below meth c P t0 S0 htr0 hC K hK L st S u w h t H locs ls cells slots h1 h2 h3 h4 h5 h6 h7 h8 h9
  exact lv_goto hC.1 hC.2.1 hd ht (hK _ _ _ _ _ _ h t H locs ls cells slots h1 h2 h3 h4 h5 h6 h7 h8 h9)
theorem xs_ifnull {off : Int} {tgt : Nat} (hd : decode M.2.1 pc = .ok (.ifnull off, 3)) (ht : (pc : Int) + off = (tgt : Int)) : XSnd M pc (X_ifnull tgt) := by
  intro G p l e R s m args below meth c P t0 S0 htr0 hC K hK L st S u w h t H locs ls cells slots h1 h2 h3 h4 h5 h6 h7 h8 h9
  unfold X_ifnull at h
  split at h
  · exact lv_ifnullN hC.1 hC.2.1 hd ht (hK _ _ _ _ _ _ h t H locs ls cells slots h1 h2 h3 h4 h5 h6 h7.tl h8 h9)
  · exact lv_ifnull hC.1 hC.2.1 hd (hK _ _ _ _ _ _ h t H locs ls cells slots h1 h2 h3 h4 h5 h6 h7.tl h8 h9)
  · exact h.elim
theorem xs_ifnonnull {off : Int} {tgt : Nat} (hd : decode M.2.1 pc = .ok (.ifnonnull off, 3)) (ht : (pc : Int) + off = (tgt : Int)) : XSnd M pc (X_ifnonnull tgt) := by
  intro G p l e R s m args below meth c P t0 S0 htr0 hC K hK L st S u w h t H locs ls cells slots h1 h2 h3 h4 h5 h6 h7 h8 h9
  unfold X_ifnonnull at h
  split at h
  · exact lv_ifnonnullN hC.1 hC.2.1 hd (hK _ _ _ _ _ _ h t H locs ls cells slots h1 h2 h3 h4 h5 h6 h7.tl h8 h9)
  · exact lv_ifnonnull hC.1 hC.2.1 hd ht (hK _ _ _ _ _ _ h t H locs ls cells slots h1 h2 h3 h4 h5 h6 h7.tl h8 h9)
  · exact h.elim
theorem x_inj {G : XG} {U : State} {t : XT} {S : XH} {H : Heap} (hX : x_KX G U) (h : x_R G t S H) {x y : Option (Nat × Nat)} (hc : x_cmp x y) (hx : x_ok S (xv_o x)) (hy : x_ok S (xv_o y)) : xz_o t x = xz_o t y ↔ x = y := by
  constructor
  · intro e
    cases x with
    | none => cases y with
      | none => rfl
      | some b => cases e
    | some a => cases y with
      | none => cases e
      | some b =>
        have e : t a.1 a.2 = t b.1 b.2 := Option.some.inj e
        have hx : S a.1 a.2 ≠ none := hx
        have hy : S b.1 b.2 ≠ none := hy
        by_cases ha : a.1 < 48
        · by_cases hb : b.1 < 48
          · obtain ⟨e1, e2⟩ := h.2.2.1 a.1 a.2 b.1 b.2 ha hb hx hy e
            exact congrArg some (Prod.ext e1 e2)
          · have q1 := h.2.2.2.1 a.1 a.2 hx ha
            have q2 := ((h.2.2.2.2.2.2 b.1 b.2 hb).2 hy).2
            omega
        · by_cases hb : b.1 < 48
          · have q1 := h.2.2.2.1 b.1 b.2 hy hb
            have q2 := ((h.2.2.2.2.2.2 a.1 a.2 ha).2 hx).2
            omega
          · rcases hc with q | q | ⟨q1, q2⟩
            · exact absurd q ha
            · exact absurd q hb
            · obtain ⟨z1, z2⟩ := h.2.2.2.2.2.2 a.1 a.2 ha
              obtain ⟨y1, y2⟩ := h.2.2.2.2.2.2 b.1 b.2 hb
              rw [(z2 hx).1, (y2 hy).1, ← q1] at e
              rw [z1] at hx
              rw [y1, ← q1] at hy
              exact congrArg some (Prod.ext q1 (hX.2.2.2.2.2.2.2 a.1 a.2 b.2 q2 hx hy e))
  · rintro rfl
    rfl
theorem xs_acmp_eq {off : Int} {tgt : Nat} (hd : decode M.2.1 pc = .ok (.if_acmp .eq off, 3)) (ht : (pc : Int) + off = (tgt : Int)) : XSnd M pc (X_acmp (fun q => q) tgt) := by
  intro G p l e R s m args below meth c P t0 S0 htr0 hC K hK L st S u w h t H locs ls cells slots h1 h2 h3 h4 h5 h6 h7 h8 h9
  unfold X_acmp at h
  split at h
  · next y x r =>
    have i := x_inj hC.2.2.2.2.2.2.1.2.2 h3 h.1 h7.tl.hd h7.hd
    have h := h.2
    have k := lv_acmp_eq (rx := xz_o t x) (ry := xz_o t y) (rest := r.map (xz t)) hC.1 hC.2.1 hd ht (fun q => hK _ _ _ _ _ _ (h.1 (i.mp q)) t H locs ls cells slots h1 h2 h3 h4 h5 h6 h7.tl.tl h8 h9) (fun q => hK _ _ _ _ _ _ (h.2 (fun z => q (i.mpr z))) t H locs ls cells slots h1 h2 h3 h4 h5 h6 h7.tl.tl h8 h9)
    rw [xz_rf, xz_rf] at k
    exact k
  · exact h.elim
theorem xs_acmp_ne {off : Int} {tgt : Nat} (hd : decode M.2.1 pc = .ok (.if_acmp .ne off, 3)) (ht : (pc : Int) + off = (tgt : Int)) : XSnd M pc (X_acmp (fun q => ¬ q) tgt) := by
  intro G p l e R s m args below meth c P t0 S0 htr0 hC K hK L st S u w h t H locs ls cells slots h1 h2 h3 h4 h5 h6 h7 h8 h9
  unfold X_acmp at h
  split at h
  · next y x r =>
    have i := x_inj hC.2.2.2.2.2.2.1.2.2 h3 h.1 h7.tl.hd h7.hd
    have h := h.2
    have k := lv_acmp_ne (rx := xz_o t x) (ry := xz_o t y) (rest := r.map (xz t)) hC.1 hC.2.1 hd ht (fun q => hK _ _ _ _ _ _ (h.1 (fun z => q (i.mpr z))) t H locs ls cells slots h1 h2 h3 h4 h5 h6 h7.tl.tl h8 h9) (fun q => hK _ _ _ _ _ _ (h.2 (fun z => z (i.mp q))) t H locs ls cells slots h1 h2 h3 h4 h5 h6 h7.tl.tl h8 h9)
    rw [xz_rf, xz_rf] at k
    exact k
  · exact h.elim
/-- the method's end, out of the kit's -/
theorem x_ret {G : XG} {p : Program} {l : Launch} {e : Env} {R : Room} {s : State} {m : MethodId} {args : Array Value} {below : List Frame} {meth : Method} {c : Code} {P : XP} {t0 t : XT} {S0 S : XH} {H : Heap} {locs : List Loc} {cells slots : Nat} {g : JFrame} {r : Option XV}
    (h1 : x_ag t0 t S0) (h2 : x_dm S0 S) (h3 : x_R G t S H) (hr : ∀ v, r = some v → x_ok S v) (hP : P (.inl r) S) (h8 : cells ≤ R.cells) (h9 : slots ≤ R.slots)
    (k : ∀ Qc : Array Value → State → Outcome → State → Prop, (∀ T : State, T.heap = H → s.WarmedH T.vm → Qc args s (.returned (r.map (xz t))) T) → W p l e R s m args below meth c H locs R.cells R.slots (MQ below Qc args s R.cells R.slots (fun q => G.2.2.1 ≤ q)) g) :
    W p l e R s m args below meth c H locs cells slots (x_Q G below P t0 S0 s R.cells R.slots) g := by
  refine W.widen h8 h9 (x_mono (k (fun _ _ o T => x_Qc G P t0 S0 o T) fun T hT _ => ⟨t, S, h1, h2, by rw [hT]; exact h3, Or.inl ⟨r, rfl, hr, hP⟩⟩) ?_)
  rintro T ⟨o, a1, a2, a3, L, a4, a5⟩
  exact ⟨o, a1, a2, a3, L, a4.2, a5⟩
def X_vret : XI := fun _ P _ _ st S _ _ => match st with
  | [] => P (.inl none) S
  | _ => False
def X_iret : XI := fun _ P _ _ st S _ _ => match st with
  | [.inl x] => P (.inl (some (.inl x))) S
  | _ => False
/-- of a boolean -/
def X_zret : XI := fun _ P _ _ st S _ _ => match st with
  | [.inl x] => (x = 0 ∨ x = 1) ∧ P (.inl (some (.inl x))) S
  | _ => False
def X_aret : XI := fun _ P _ _ st S _ _ => match st with
  | [.inr (.inr r)] => P (.inl (some (.inr (.inr r)))) S
  | _ => False
theorem xs_vret (hd : decode M.2.1 pc = .ok (.return_, 1)) (hr : M.2.2.2.1 = none) : XSnd M pc X_vret := by
  intro G p l e R s m args below meth c P t0 S0 htr0 hC K hK L st S u w h t H locs ls cells slots h1 h2 h3 h4 h5 h6 h7 h8 h9
  unfold X_vret at h
  split at h
  · exact x_ret (r := none) h1 h2 h3 (fun _ q => by cases q) h (by omega) (by omega) fun Qc hq => W.vret hC.1 hC.2.1 (hC.2.2.2.1.trans hr) hq h4 hd hC.2.2.2.2.2.2.2.1
  · exact h.elim
theorem xs_iret (hd : decode M.2.1 pc = .ok (.ireturn, 1)) (hr : M.2.2.2.1 = some .int) : XSnd M pc X_iret := by
  intro G p l e R s m args below meth c P t0 S0 htr0 hC K hK L st S u w h t H locs ls cells slots h1 h2 h3 h4 h5 h6 h7 h8 h9
  unfold X_iret at h
  split at h
  · next x => exact x_ret (r := some (xv_i x)) h1 h2 h3 (fun _ q => by cases q; trivial) h (by omega) (by omega) fun Qc hq => W.iret hC.1 hC.2.1 (hC.2.2.2.1.trans hr) hq h4 hd hC.2.2.2.2.2.2.2.1
  · exact h.elim
theorem xs_zret (hd : decode M.2.1 pc = .ok (.ireturn, 1)) (hr : M.2.2.2.1 = some .boolean) : XSnd M pc X_zret := by
  intro G p l e R s m args below meth c P t0 S0 htr0 hC K hK L st S u w h t H locs ls cells slots h1 h2 h3 h4 h5 h6 h7 h8 h9
  unfold X_zret at h
  split at h
  · next x => exact x_ret (r := some (xv_i x)) h1 h2 h3 (fun _ q => by cases q; trivial) h.2 (by omega) (by omega) fun Qc hq => W.zret hC.1 hC.2.1 (hC.2.2.2.1.trans hr) (by rcases h.1 with rfl | rfl <;> rfl) hq h4 hd hC.2.2.2.2.2.2.2.1
  · exact h.elim
theorem xs_aret {rt : FieldType} (hd : decode M.2.1 pc = .ok (.areturn, 1)) (hr : M.2.2.2.1 = some rt) (hrt : (∃ n, rt = .object n) ∨ ∃ t, rt = .array t) : XSnd M pc X_aret := by
  intro G p l e R s m args below meth c P t0 S0 htr0 hC K hK L st S u w h t H locs ls cells slots h1 h2 h3 h4 h5 h6 h7 h8 h9
  unfold X_aret at h
  split at h
  · next r => exact x_ret (r := some (xv_o r)) h1 h2 h3 (fun _ q => by cases q; exact h7.hd) h (by omega) (by omega) fun Qc hq => W.aret hC.1 hC.2.1 (hC.2.2.2.1.trans hr) hrt (by cases r with | none => exact Or.inl rfl | some r => exact Or.inr ⟨_, rfl⟩) hq h4 hd hC.2.2.2.2.2.2.2.1
  · exact h.elim
end XS
end
section
/-! fields, arrays, new -/
section XHP
variable {M : XM} {pc : Nat}
theorem x_P1 {G : XG} {t : XT} {S : XH} {H : Heap} {k i ci : Nat} {fs : List XV} (h : x_R G t S H) (h48 : k < 48) (hc : S k i = some (.inl (ci, fs))) : va_P G.1 x_cls [(t k i, .inr (ci, fs.map (xz t)))] H := by
  intro j q hq
  have hj : j = 0 := by
    have := (List.getElem?_eq_some_iff.mp hq).1
    simp at this
    exact this
  subst hj
  cases hq
  exact h.1 k i _ h48 hc
theorem x_PA {G : XG} {t : XT} {S : XH} {H : Heap} {k i ty n : Nat} {a : XA} (h : x_R G t S H) (h48 : k < 48) (hc : S k i = some (.inr (ty, n, a))) : va_P G.1 x_cls [(t k i, .inl (G.2.1 ty, xz_a t n a))] H := by
  intro j q hq
  have hj : j = 0 := by
    have := (List.getElem?_eq_some_iff.mp hq).1
    simp at this
    exact this
  subst hj
  cases hq
  exact h.1 k i _ h48 hc
theorem x_K1 {G : XG} {U : State} (h : x_K G U) {q : Nat} {ty : FieldType} (hq : x_tys[q]? = some ty) : va_K G.1 x_cls [(G.2.1 q, ty)] U := by
  refine ⟨h.1.1, fun j r hr => ?_⟩
  have hj : j = 0 := by
    have := (List.getElem?_eq_some_iff.mp hr).1
    simp at this
    exact this
  subst hj
  cases hr
  exact h.2.1 q ty hq
def x_same (ref own nm de : String) : Prop := ref = own ∨ Cond.sameField ref own nm de ∈ x_Wd
theorem x_same.use {ref own nm de : String} (h : x_same ref own nm de) {args : Array Value} {s : State} (hts : ∀ w ∈ x_Wd, w.before args s = true) : ∀ x, s.fieldFound? own nm de = some x → s.fieldFound? ref nm de = some x := by
  intro x hx
  rcases h with rfl | h
  · exact hx
  · exact u_same (hts _ h) x hx
def X_get (ci k : Nat) : XI := fun K _ pc L st S u w => match st with
  | .inr (.inr (some q)) :: r => q.1 < 48 ∧ ∃ fs v, S q.1 q.2 = some (.inl (ci, fs)) ∧ fs[k]? = some v ∧ K (pc + 3) L (v :: r) S u w
  | _ => False
theorem x_okf {G : XG} {t : XT} {S : XH} {H : Heap} (h : x_R G t S H) {k i ci j : Nat} {fs : List XV} {v : XV} (hc : S k i = some (.inl (ci, fs))) (hv : fs[j]? = some v) : x_ok S v := (h.2.1 k i _ hc : x_oks S fs) v (List.mem_of_getElem? hv)
theorem xs_get {ci k index N : Nat} {ref C : String} {T : u_T} (hd : decode M.2.1 pc = .ok (.getfield index, 3)) (hc : x_cls[ci]? = some (C, T, N)) (hin : ∀ w ∈ u_ws C T N, w ∈ x_Wd) (hk : k < N) (hl : Cond.fieldLink M.1 index ref (T k).2.1 (T k).2.2.1 ∈ x_Wd) (hs : x_same ref (T k).1 (T k).2.1 (T k).2.2.1) : XSnd M pc (X_get ci k) := by
  intro G p l e R s m args below meth c P t0 S0 htr0 hC K hK L st S u w h t H locs ls cells slots h1 h2 h3 h4 h5 h6 h7 h8 h9
  unfold X_get at h
  split at h
  · next q r =>
    obtain ⟨h48, fs, v, e1, e2, h⟩ := h
    exact va_get (D := G.1) (ci := ci) (v := xz t v) hC.1 hC.2.1 hC.2.2.2.2.2.1 hin hC.2.2.2.2.1 hC.2.2.2.2.2.2.1.1 (x_P1 h3 h48 e1) 0 rfl hc k hk (hC.2.2.2.2.2.1 _ hl) (hs.use hC.2.2.2.2.2.1) (by rw [List.getElem?_map, e2]; rfl) hd (hK _ _ _ _ _ _ h t H locs ls cells slots h1 h2 h3 h4 h5 h6 (x_oks.cons (x_okf h3 e1 e2) h7.tl) h8 h9)
  · exact h.elim
theorem xs_getN {ci k index N : Nat} {ref C host : String} {T : u_T} (hd : decode M.2.1 pc = .ok (.getfield index, 3)) (hc : x_cls[ci]? = some (C, T, N)) (hin : ∀ w ∈ u_ws C T N, w ∈ x_Wd) (hk : k < N) (hl : Cond.fieldLinkNest M.1 index ref (T k).2.1 (T k).2.2.1 host ∈ x_Wd) (hs : x_same ref (T k).1 (T k).2.1 (T k).2.2.1) : XSnd M pc (X_get ci k) := by
  intro G p l e R s m args below meth c P t0 S0 htr0 hC K hK L st S u w h t H locs ls cells slots h1 h2 h3 h4 h5 h6 h7 h8 h9
  unfold X_get at h
  split at h
  · next q r =>
    obtain ⟨h48, fs, v, e1, e2, h⟩ := h
    exact va_getN (D := G.1) (ci := ci) (v := xz t v) hC.1 hC.2.1 hC.2.2.2.2.2.1 hin hC.2.2.2.2.1 hC.2.2.2.2.2.2.1.1 (x_P1 h3 h48 e1) 0 rfl hc k hk (hC.2.2.2.2.2.1 _ hl) (hs.use hC.2.2.2.2.2.1) (by rw [List.getElem?_map, e2]; rfl) hd (hK _ _ _ _ _ _ h t H locs ls cells slots h1 h2 h3 h4 h5 h6 (x_oks.cons (x_okf h3 e1 e2) h7.tl) h8 h9)
  · exact h.elim
/-- what may be stored: an int, a boolean, a byte, a reference -/
def x_tI (v : XV) : Prop := match v with
  | .inl _ => True
  | _ => False
def x_tZ (v : XV) : Prop := match v with
  | .inl x => x = 0 ∨ x = 1
  | _ => False
def x_tB (v : XV) : Prop := match v with
  | .inl x => x.toInt8.toInt32 = x
  | _ => False
def x_tR (v : XV) : Prop := match v with
  | .inr (.inr _) => True
  | _ => False
def x_fit (ty : FieldType) (f : XV → Prop) : Prop := ∀ (t : XT) (v : XV), f v → narrow ty (xz t v) = xz t v ∧ fits ty (xz t v) = true
theorem x_fitI : x_fit .int x_tI := fun t v h => by
  rcases v with x | x | r
  · exact ⟨rfl, rfl⟩
  · exact h.elim
  · exact h.elim
theorem x_fitZ : x_fit .boolean x_tZ := fun t v h => by
  rcases v with x | x | r
  · rcases h with rfl | rfl <;> exact ⟨rfl, rfl⟩
  · exact h.elim
  · exact h.elim
theorem x_fitB : x_fit .byte x_tB := fun t v h => by
  rcases v with x | x | r
  · have e : x.toInt8.toInt32 = x := h
    refine ⟨?_, ?_⟩
    · show narrow .byte (.int x) = .int x
      rw [narrow_byte, e]
    · show fits .byte (.int x) = true
      rw [← e]
      exact pk_fb x
  · exact h.elim
  · exact h.elim
theorem x_fitO {C : String} : x_fit (.object C) x_tR := fun t v h => by
  rcases v with x | x | r
  · exact h.elim
  · exact h.elim
  · cases r <;> exact ⟨rfl, rfl⟩
theorem x_fitA {C : FieldType} : x_fit (.array C) x_tR := fun t v h => by
  rcases v with x | x | r
  · exact h.elim
  · exact h.elim
  · cases r <;> exact ⟨rfl, rfl⟩
def X_put (f : XV → Prop) (ci k : Nat) : XI := fun K _ pc L st S u w => match st with
  | v :: .inr (.inr (some q)) :: r => f v ∧ ∃ fs, S q.1 q.2 = some (.inl (ci, fs)) ∧ q.1 < 48 ∧ k < fs.length ∧ K (pc + 3) L r (x_up S q.1 q.2 (.inl (ci, fs.set k v))) u w
  | _ => False
/-- the world behind a field's store -/
theorem x_putR {G : XG} {t : XT} {S : XH} {H H1 : Heap} {k i ci j N : Nat} {C : String} {T : u_T} {fs : List XV} {v : XV} {cell : Cell} (h : x_R G t S H) (e1 : S k i = some (.inl (ci, fs))) (hk : k < 48) (hj : j < fs.length) (hv : x_ok S v) (hc : x_cls[ci]? = some (C, T, N)) (hjN : j < N) (hap : ∀ x y, x < N → y < N → x ≠ y → (G.1.2 ci) x ≠ (G.1.2 ci) y)
    (q2 : cell.cls = G.1.1 ci) (q3 : cell.vm = .none) (q4 : ∀ k, k < N → cell.slots[(G.1.2 ci) k]? = some (vp_V (fs.map (xz t)) k)) (g1 : H1[t k i]? = some (cell.setSlot ((G.1.2 ci) j) (xz t v))) (g2 : H1.size = H.size) (g3 : ∀ q, q ≠ t k i → H1[q]? = H[q]?) : x_R G t (x_up S k i (.inl (ci, fs.set j v))) H1 := by
  refine h.set e1 hk ?_ g2 g3 ?_
  · intro v' hv'
    rcases List.mem_or_eq_of_mem_set hv' with q | q
    · exact (h.2.1 k i _ e1 : x_oks S fs) v' q
    · rw [q]
      exact hv
  · refine ⟨_, hc, t_OB.to (V := updV (vp_V (fs.map (xz t))) j (xz t v)) ⟨_, g1, q2, q3, t_set q4 hap hjN (xz t v)⟩ (fun a _ => ?_)⟩
    rw [vp_updV_set (by rw [List.length_map]; exact hj)]
    show vp_V ((fs.map (xz t)).set j (xz t v)) a = vp_V ((fs.set j v).map (xz t)) a
    rw [List.map_set]
theorem x_locs {G : XG} {locs : List Loc} {a n : Nat} (h : ∀ q ∈ locs, G.2.2.1 ≤ q.base) (ha : G.2.2.1 ≤ a) : ∀ q ∈ locs ++ [(⟨a, n⟩ : Loc)], G.2.2.1 ≤ q.base := fun q hq => by
  rcases List.mem_append.mp hq with z | z
  · exact h q z
  · rw [List.mem_singleton.mp z]
    exact ha
theorem xs_put {f : XV → Prop} {ci k index N : Nat} {ref C : String} {T : u_T} {ty0 : Nat → FieldType} {ty : FieldType} (hd : decode M.2.1 pc = .ok (.putfield index, 3)) (hc : x_cls[ci]? = some (C, T, N)) (hin : ∀ w ∈ u_ws C T N, w ∈ x_Wd) (hty : ∀ k, k < N → parseFieldDescriptor (T k).2.2.1 = some (ty0 k)) (hnm : ∀ a, a < N → ∀ b, b < N → a ≠ b → (T a).2.1 ≠ (T b).2.1)
    (hk : k < N) (hl : Cond.fieldLink M.1 index ref (T k).2.1 (T k).2.2.1 ∈ x_Wd) (hs : x_same ref (T k).1 (T k).2.1 (T k).2.2.1) (hfin : (T k).2.2.2 = false) (hpd : parseFieldDescriptor (T k).2.2.1 = some ty) (hf : x_fit ty f) : XSnd M pc (X_put f ci k) := by
  intro G p l e R s m args below meth c P t0 S0 htr0 hC K hK L st S u w h t H locs ls cells slots h1 h2 h3 h4 h5 h6 h7 h8 h9
  unfold X_put at h
  split at h
  · next v q r =>
    obtain ⟨hfv, fs, e1, hq, hkl, h⟩ := h
    have hts := hC.2.2.2.2.2.1
    have hap := va_apart (own := M.1) hts hin ty0 hty hnm hC.2.2.2.2.2.2.1.1 hc
    obtain ⟨r', g1, cell, q1, q2, q3, q4⟩ := h3.1 _ _ _ hq e1
    have hr : r' = (C, T, N) := Option.some.inj (g1.symm.trans hc)
    subst hr
    obtain ⟨hS, hfc, kC, hkC, hkind⟩ := hC.2.2.2.2.2.2.1.1.1 ci _ hc
    obtain ⟨cf, kf, fi, fd, hi, hsl⟩ := hS k hk
    have hlay := hts _ (hin _ (u_in_lay hk))
    unfold u_lay at hlay
    rw [if_neg (by rw [hfin]; decide)] at hlay
    have hst := (u_facts hfc hkC (u_lays hts hin hk) hi).1
    have h6' := u_store hfc hkC hkind hlay hi hpd (hf t v hfv).1 (hf t v hfv).2
    refine W.putK hC.1 hC.2.1 (f := fd) ⟨hC.2.2.2.2.1, hts _ hl, ⟨_, _, _, hs.use hts _ hi⟩, hst⟩ (by rw [q2]; exact h6') q1 q3 (by rw [hsl]; exact k2_hasslot (q4 k hk)) rfl rfl hd fun H' g1 g2 g3 => ?_
    rw [hsl] at g1 ⊢
    exact hK _ _ _ _ _ _ h t H' _ ls cells slots h1 (h2.up) (x_putR h3 e1 hq hkl h7.hd hc hk hap q2 q3 q4 g1 g2 g3) (x_locs h4 (h3.2.2.2.1 _ _ (x_some e1) hq)) h5 (h6.dm (x_dm.up x_dm.rf)) (h7.tl.tl.dm (x_dm.up x_dm.rf)) h8 h9
  · exact h.elim
theorem xs_putN {f : XV → Prop} {ci k index N : Nat} {ref C host : String} {T : u_T} {ty0 : Nat → FieldType} {ty : FieldType} (hd : decode M.2.1 pc = .ok (.putfield index, 3)) (hc : x_cls[ci]? = some (C, T, N)) (hin : ∀ w ∈ u_ws C T N, w ∈ x_Wd) (hty : ∀ k, k < N → parseFieldDescriptor (T k).2.2.1 = some (ty0 k)) (hnm : ∀ a, a < N → ∀ b, b < N → a ≠ b → (T a).2.1 ≠ (T b).2.1)
    (hk : k < N) (hl : Cond.fieldLinkNest M.1 index ref (T k).2.1 (T k).2.2.1 host ∈ x_Wd) (hs : x_same ref (T k).1 (T k).2.1 (T k).2.2.1) (hfin : (T k).2.2.2 = false) (hpd : parseFieldDescriptor (T k).2.2.1 = some ty) (hf : x_fit ty f) : XSnd M pc (X_put f ci k) := by
  intro G p l e R s m args below meth c P t0 S0 htr0 hC K hK L st S u w h t H locs ls cells slots h1 h2 h3 h4 h5 h6 h7 h8 h9
  unfold X_put at h
  split at h
  · next v q r =>
    obtain ⟨hfv, fs, e1, hq, hkl, h⟩ := h
    have hts := hC.2.2.2.2.2.1
    have hap := va_apart (own := M.1) hts hin ty0 hty hnm hC.2.2.2.2.2.2.1.1 hc
    obtain ⟨r', g1, cell, q1, q2, q3, q4⟩ := h3.1 _ _ _ hq e1
    have hr : r' = (C, T, N) := Option.some.inj (g1.symm.trans hc)
    subst hr
    obtain ⟨hS, hfc, kC, hkC, hkind⟩ := hC.2.2.2.2.2.2.1.1.1 ci _ hc
    obtain ⟨cf, kf, fi, fd, hi, hsl⟩ := hS k hk
    have hlay := hts _ (hin _ (u_in_lay hk))
    unfold u_lay at hlay
    rw [if_neg (by rw [hfin]; decide)] at hlay
    have hst := (u_facts hfc hkC (u_lays hts hin hk) hi).1
    have h6' := u_store hfc hkC hkind hlay hi hpd (hf t v hfv).1 (hf t v hfv).2
    refine va_WputK hC.1 hC.2.1 (f := fd) hC.2.2.2.2.1 (hts _ hl) (hs.use hts _ hi) hst (by rw [q2]; exact h6') q1 q3 (by rw [hsl]; exact k2_hasslot (q4 k hk)) rfl rfl hd fun H' g1 g2 g3 => ?_
    rw [hsl] at g1 ⊢
    exact hK _ _ _ _ _ _ h t H' _ ls cells slots h1 (h2.up) (x_putR h3 e1 hq hkl h7.hd hc hk hap q2 q3 q4 g1 g2 g3) (x_locs h4 (h3.2.2.2.1 _ _ (x_some e1) hq)) h5 (h6.dm (x_dm.up x_dm.rf)) (h7.tl.tl.dm (x_dm.up x_dm.rf)) h8 h9
  · exact h.elim
/-- a final field, in a constructor of its class -/
theorem xs_putF {f : XV → Prop} {ci k index N : Nat} {ref C : String} {T : u_T} {ty0 : Nat → FieldType} {ty : FieldType} (hd : decode M.2.1 pc = .ok (.putfield index, 3)) (hc : x_cls[ci]? = some (C, T, N)) (hin : ∀ w ∈ u_ws C T N, w ∈ x_Wd) (hty : ∀ k, k < N → parseFieldDescriptor (T k).2.2.1 = some (ty0 k)) (hnm : ∀ a, a < N → ∀ b, b < N → a ≠ b → (T a).2.1 ≠ (T b).2.1)
    (hk : k < N) (hl : Cond.fieldLink M.1 index ref (T k).2.1 (T k).2.2.1 ∈ x_Wd) (hs : x_same ref (T k).1 (T k).2.1 (T k).2.2.1) (hfin : (T k).2.2.2 = true) (hin2 : M.2.2.2.2.1 = "<init>") (hdecl : (T k).1 = M.1) (hpd : parseFieldDescriptor (T k).2.2.1 = some ty) (hf : x_fit ty f) : XSnd M pc (X_put f ci k) := by
  intro G p l e R s m args below meth c P t0 S0 htr0 hC K hK L st S u w h t H locs ls cells slots h1 h2 h3 h4 h5 h6 h7 h8 h9
  unfold X_put at h
  split at h
  · next v q r =>
    obtain ⟨hfv, fs, e1, hq, hkl, h⟩ := h
    have hts := hC.2.2.2.2.2.1
    have hap := va_apart (own := M.1) hts hin ty0 hty hnm hC.2.2.2.2.2.2.1.1 hc
    obtain ⟨r', g1, cell, q1, q2, q3, q4⟩ := h3.1 _ _ _ hq e1
    have hr : r' = (C, T, N) := Option.some.inj (g1.symm.trans hc)
    subst hr
    obtain ⟨hS, hfc, kC, hkC, hkind⟩ := hC.2.2.2.2.2.2.1.1.1 ci _ hc
    obtain ⟨cf, kf, fi, fd, hi, hsl⟩ := hS k hk
    have hst := (u_facts hfc hkC (u_lays hts hin hk) hi).1
    have h6' := u_fits hfc hkC hkind (u_lays hts hin hk) hi hpd (hf t v hfv).1 (hf t v hfv).2
    have hlay := hts _ (hin _ (u_in_lay hk))
    unfold u_lay at hlay
    rw [if_pos hfin] at hlay
    have hcf : m.cls = cf := by
      obtain ⟨_, _, c', _, _, _, -, -, hf', -, -, -, hown2, -⟩ := Cond.laysFinal_spec hlay
      have z1 : c' = cf := by have := hi.symm.trans hf'; simp at this; exact this.1.symm
      rw [hdecl] at hown2
      rw [← z1]
      exact Option.some.inj (hC.2.2.2.2.1.symm.trans hown2)
    refine W.putFinK hC.1 hC.2.1 (f := fd) hC.2.2.2.2.1 (hts _ hl) (hs.use hts _ hi) hst hcf (hC.2.2.2.2.2.2.2.2.1.trans hin2) (by rw [q2]; exact h6') q1 q3 (by rw [hsl]; exact k2_hasslot (q4 k hk)) rfl rfl hd fun H' g1 g2 g3 => ?_
    rw [hsl] at g1 ⊢
    exact hK _ _ _ _ _ _ h t H' _ ls cells slots h1 (h2.up) (x_putR h3 e1 hq hkl h7.hd hc hk hap q2 q3 q4 g1 g2 g3) (x_locs h4 (h3.2.2.2.1 _ _ (x_some e1) hq)) h5 (h6.dm (x_dm.up x_dm.rf)) (h7.tl.tl.dm (x_dm.up x_dm.rf)) h8 h9
  · exact h.elim
/-- new: the place is the prover's to choose -/
def X_new (ci n : Nat) (dfl : List XV) : XI := fun K _ pc L st S u w => 1 ≤ u ∧ n ≤ w ∧ ∃ k i, k < 48 ∧ S k i = none ∧ K (pc + 3) L (xv_r k i :: st) (x_up S k i (.inl (ci, dfl))) (u - 1) (w - n)
theorem x_oks_def {dfl : List XV} (h : dfl.all (fun v => match v with | .inr (.inr (some _)) => false | _ => true) = true) (S : XH) : x_oks S dfl := by
  intro v hv
  have := List.all_eq_true.mp h v hv
  rcases v with x | x | r
  · trivial
  · trivial
  · cases r with
    | none => trivial
    | some r => cases this
theorem xs_new {ci index n N : Nat} {C : String} {T : u_T} {ty : Nat → FieldType} {dfl : List XV} (hd : decode M.2.1 pc = .ok (.new index, 3)) (hc : x_cls[ci]? = some (C, T, N)) (hin : ∀ w ∈ u_ws C T N, w ∈ x_Wd) (hty : ∀ k, k < N → parseFieldDescriptor (T k).2.2.1 = some (ty k))
    (hcl : Cond.classLink M.1 index C ∈ x_Wd) (hinst : Cond.instantiable C n ∈ x_Wd) (hini : Cond.initialized C ∈ x_Wd) (hdf : ∀ t j, j < N → defaultValue (ty j) = vp_V (dfl.map (xz t)) j) (hdo : dfl.all (fun v => match v with | .inr (.inr (some _)) => false | _ => true) = true) : XSnd M pc (X_new ci n dfl) := by
  intro G p l e R s m args below meth c P t0 S0 htr0 hC K hK L st S u w h t H locs ls cells slots h1 h2 h3 h4 h5 h6 h7 h8 h9
  obtain ⟨hu, hw, k, i, hk, h0, h⟩ := h
  have hts := hC.2.2.2.2.2.1
  have hKn := hC.2.2.2.2.2.2.1.1.1 ci _ hc
  refine W.newcK hC.1 hC.2.1 hC.2.2.2.2.1 (hts _ hcl) (hts _ hinst) (hts _ hini) rfl hd (by omega) (by omega) hKn.2.1 rfl fun H1 kC hkC g1 g2 g3 => ?_
  obtain ⟨r1, r2⟩ := h3.new (c := .inl (ci, dfl)) hk h0 g2 g3 (x_oks_def hdo _) ⟨_, hc, (u_born ty hts hin hKn hkC g1 hty).to (hdf _)⟩
  have kk := hK _ _ _ _ _ _ h (x_ut t k i H.size) H1 locs ls (cells + 1) (slots + n) (fun a b q => (r2 a b (h2 a b q)).trans (h1 a b q)) h2.up r1 h4 (h5.ag h6 r2) (h6.dm (x_dm.up x_dm.rf)) (x_oks.cons (by show x_up S k i _ k i ≠ none; rw [x_up_self]; exact fun q => by cases q) (h7.dm (x_dm.up x_dm.rf))) (by omega) (by omega)
  rw [List.map_cons, xz_ags h7 r2] at kk
  have ez : xz (x_ut t k i H.size) (xv_r k i) = .ref H.size := congrArg Value.ref (x_ut_self t k i H.size)
  rw [ez] at kk
  exact kk
/-- a new array -/
def X_newa (q b : Nat) (z : XA) (ln : Nat) : XI := fun K _ pc L st S u w => match st with
  | .inl n :: r => ¬ n < 0 ∧ n.toNatClampNeg * b ≤ 536870912 ∧ 1 ≤ u ∧ n.toNatClampNeg ≤ w ∧ ∃ k i, k < 48 ∧ S k i = none ∧ K (pc + ln) L (xv_r k i :: r) (x_up S k i (.inr (q, n.toNatClampNeg, z))) (u - 1) (w - n.toNatClampNeg)
  | _ => False
theorem x_okz {S : XH} {q n : Nat} {z : XA} (h : ∀ f, z = .inr (.inr f) → ∀ j, f j = none) : x_okc S (.inr (q, n, z)) := by
  rcases z with f | f | f
  · trivial
  · trivial
  · intro j _
    show x_ok S (xv_o (f j))
    rw [h f rfl j]
    trivial
theorem xs_newa {q : Nat} {atype : ArrayType} {ty : FieldType} {z : XA} (hd : decode M.2.1 pc = .ok (.newarray atype, 2)) (hq : x_tys[q]? = some ty) (hty : newarray.typeOf atype = ty) (harr : Cond.arrayClass ty ∈ x_Wd) (hz : ∀ t cA n, vp_cell cA (xz_a t n z) = arrV cA n (fun _ => defaultValue ty)) (hzn : ∀ f, z = .inr (.inr f) → ∀ j, f j = none) : XSnd M pc (X_newa q (componentBytes ty) z 2) := by
  intro G p l e R s m args below meth c P t0 S0 htr0 hC K hK L st S u w h t H locs ls cells slots h1 h2 h3 h4 h5 h6 h7 h8 h9
  unfold X_newa at h
  split at h
  · next n r =>
    obtain ⟨hn, hb, hu, hw, k, i, hk, h0, h⟩ := h
    subst hty
    refine va_newaK hC.1 hC.2.1 (hC.2.2.2.2.2.1 _ harr) rfl hd rfl hn rfl hb (by omega) (by omega) rfl fun H1 cA g1 g2 g3 hAr hNm => ?_
    have hcA : cA = G.2.1 q := by
      have hRA := (hC.2.2.2.2.2.2.1.2.1 q _ hq).2
      have : s.vm.findClass ("[" ++ (newarray.typeOf atype).toString) = some (G.2.1 q) := by cases atype <;> exact hRA
      exact Option.some.inj (hNm.symm.trans this)
    obtain ⟨r1, r2⟩ := h3.new (c := .inr (q, n.toNatClampNeg, z)) hk h0 g2 g3 (x_okz hzn) (by
      show H1[H.size]? = some (vp_cell (G.2.1 q) (xz_a _ _ z))
      rw [hz, ← hcA]
      exact g1)
    have kk := hK _ _ _ _ _ _ h (x_ut t k i H.size) H1 locs ls (cells + 1) (slots + n.toNatClampNeg) (fun a b q => (r2 a b (h2 a b q)).trans (h1 a b q)) h2.up r1 h4 (h5.ag h6 r2) (h6.dm (x_dm.up x_dm.rf)) (x_oks.cons (by show x_up S k i _ k i ≠ none; rw [x_up_self]; exact fun q => by cases q) (h7.tl.dm (x_dm.up x_dm.rf))) (by omega) (by omega)
    rw [List.map_cons, xz_ags h7.tl r2] at kk
    have ez : xz (x_ut t k i H.size) (xv_r k i) = .ref H.size := congrArg Value.ref (x_ut_self t k i H.size)
    rw [ez] at kk
    exact kk
  · exact h.elim
theorem xs_anew {q index : Nat} {C : String} (hd : decode M.2.1 pc = .ok (.anewarray index, 3)) (hq : x_tys[q]? = some (.object C)) (hcl : Cond.classLink M.1 index C ∈ x_Wd) (hov : Cond.arrayOver (.object C) ∈ x_Wd) : XSnd M pc (X_newa q 4 (.inr (.inr (fun _ => none))) 3) := by
  intro G p l e R s m args below meth c P t0 S0 htr0 hC K hK L st S u w h t H locs ls cells slots h1 h2 h3 h4 h5 h6 h7 h8 h9
  unfold X_newa at h
  split at h
  · next n r =>
    obtain ⟨hn, hb, hu, hw, k, i, hk, h0, h⟩ := h
    refine W.anew hC.1 hC.2.1 hC.2.2.2.2.1 (hC.2.2.2.2.2.1 _ hcl) (hC.2.2.2.2.2.1 _ hov) rfl hd rfl hn hb (by omega) (by omega) fun cA kA comp f1 f2 f3 f4 => ?_
    generalize hH1 : H.push ({ cls := cA, slots := Array.replicate n.toNatClampNeg .null, vm := .none } : Cell) = H1
    have g2 : H1.size = H.size + 1 := by rw [← hH1, Array.size_push]
    have g1 : H1[H.size]? = some (arrV cA n.toNatClampNeg (fun _ => .null)) := by rw [← hH1, Array.getElem?_push_size, ← arrV_new]
    have g3 : ∀ q : Nat, q < H.size → H1[q]? = H[q]? := fun q hq => by rw [← hH1, Array.getElem?_push, if_neg (Nat.ne_of_lt hq)]
    have hcA : cA = G.2.1 q := by
      obtain ⟨_, _, _, _, _, hh⟩ := (hC.2.2.2.2.2.2.1.2.1 q _ hq).2
      exact Option.some.inj (f1.symm.trans hh)
    obtain ⟨r1, r2⟩ := h3.new (c := .inr (q, n.toNatClampNeg, .inr (.inr (fun _ => none)))) hk h0 g2 g3 (x_okz (fun f hf j => by cases hf; rfl)) (by
      show H1[H.size]? = some (vp_cell (G.2.1 q) (xz_a (x_ut t k i H.size) n.toNatClampNeg (.inr (.inr (fun _ => none)))))
      rw [← hcA]
      exact g1)
    have kk := hK _ _ _ _ _ _ h (x_ut t k i H.size) H1 locs ls (cells + 1) (slots + n.toNatClampNeg) (fun a b q => (r2 a b (h2 a b q)).trans (h1 a b q)) h2.up r1 h4 (h5.ag h6 r2) (h6.dm (x_dm.up x_dm.rf)) (x_oks.cons (by show x_up S k i _ k i ≠ none; rw [x_up_self]; exact fun q => by cases q) (h7.tl.dm (x_dm.up x_dm.rf))) (by omega) (by omega)
    rw [List.map_cons, xz_ags h7.tl r2] at kk
    have ez : xz (x_ut t k i H.size) (xv_r k i) = .ref H.size := congrArg Value.ref (x_ut_self t k i H.size)
    rw [ez] at kk
    exact kk
  · exact h.elim
/-- reading and writing arrays -/
def X_ald (q : Nat) : XI := fun K _ pc L st S u w => match st with
  | .inl j :: .inr (.inr (some a)) :: r => ∃ n f, S a.1 a.2 = some (.inr (q, n, .inl f)) ∧ vp_in j n ∧ K (pc + 1) L (.inl (f j.toNatClampNeg) :: r) S u w
  | _ => False
def X_lald (q : Nat) : XI := fun K _ pc L st S u w => match st with
  | .inl j :: .inr (.inr (some a)) :: r => a.1 < 48 ∧ ∃ n f, S a.1 a.2 = some (.inr (q, n, .inr (.inl f))) ∧ vp_in j n ∧ K (pc + 1) L (.inr (.inl (f j.toNatClampNeg)) :: r) S u w
  | _ => False
def X_aald (q : Nat) : XI := fun K _ pc L st S u w => match st with
  | .inl j :: .inr (.inr (some a)) :: r => a.1 < 48 ∧ ∃ n f, S a.1 a.2 = some (.inr (q, n, .inr (.inr f))) ∧ vp_in j n ∧ K (pc + 1) L (.inr (.inr (f j.toNatClampNeg)) :: r) S u w
  | _ => False
def X_alen : XI := fun K _ pc L st S u w => match st with
  | .inr (.inr (some a)) :: r => ∃ q n z, S a.1 a.2 = some (.inr (q, n, z)) ∧ q < x_tys.length ∧ K (pc + 1) L (.inl (Int32.ofNat n) :: r) S u w
  | _ => False
theorem xs_iald {q : Nat} (hd : decode M.2.1 pc = .ok (.iaload, 1)) (hq : x_tys[q]? = some .int) : XSnd M pc (X_ald q) := by
  intro G p l e R s m args below meth c P t0 S0 htr0 hC K hK L st S u w h t H locs ls cells slots h1 h2 h3 h4 h5 h6 h7 h8 h9
  unfold X_ald at h
  split at h
  · next j a r =>
    obtain ⟨n, f, e1, hj, h⟩ := h
    have kk := hK _ _ _ _ _ _ h t H locs ls cells slots h1 h2 h3 h4 h5 h6 (x_oks.cons trivial h7.tl.tl) h8 h9
    by_cases h48 : a.1 < 48
    · exact va_iald hC.1 hC.2.1 (x_K1 hC.2.2.2.2.2.2.1 hq) (x_PA h3 h48 e1) 0 0 rfl rfl hj hd kk
    · have hX := hC.2.2.2.2.2.2.1.2.2
      obtain ⟨z1, z2⟩ := h3.2.2.2.2.2.2 _ _ h48
      obtain ⟨ty, y1, y2⟩ := hX.1 _ _ _ _ _ h48 (z1.symm.trans e1)
      have y3 := y2.kept (x_hq hX h3)
      obtain ⟨cell, c1, c2, c3, c4, c5, c6, c7⟩ := y3
      have hty : ty = .int := Option.some.inj (y1.symm.trans hq)
      subst hty
      have hlt : j.toNatClampNeg < n := Nat.not_le.mp fun q => hj (Or.inr q)
      have ea : t a.1 a.2 = G.2.2.2.2.1 a.1 a.2 := (z2 (x_some e1)).1
      have kk2 : W p l e R s m args below meth c H locs cells slots _ (F0 m (pc + 1) ls (.int (f j.toNatClampNeg) :: r.map (xz t))) := kk
      show W p l e R s m args below meth c H locs cells slots _ (F0 m pc ls (.int j :: .ref (t a.1 a.2) :: r.map (xz t)))
      rw [ea]
      exact W.iald hC.1 hC.2.1 c1 c2 c3 (fun z => z.elim (fun z => hj (Or.inl z)) (fun z => by omega)) (c6 _ hlt) rfl rfl hd kk2
  · exact h.elim
theorem xs_bald {q : Nat} (hd : decode M.2.1 pc = .ok (.baload, 1)) (hq : x_tys[q]? = some .byte) : XSnd M pc (X_ald q) := by
  intro G p l e R s m args below meth c P t0 S0 htr0 hC K hK L st S u w h t H locs ls cells slots h1 h2 h3 h4 h5 h6 h7 h8 h9
  unfold X_ald at h
  split at h
  · next j a r =>
    obtain ⟨n, f, e1, hj, h⟩ := h
    have kk := hK _ _ _ _ _ _ h t H locs ls cells slots h1 h2 h3 h4 h5 h6 (x_oks.cons trivial h7.tl.tl) h8 h9
    by_cases h48 : a.1 < 48
    · exact va_bald hC.1 hC.2.1 (x_K1 hC.2.2.2.2.2.2.1 hq) (x_PA h3 h48 e1) 0 0 rfl rfl hj hd kk
    · have hX := hC.2.2.2.2.2.2.1.2.2
      obtain ⟨z1, z2⟩ := h3.2.2.2.2.2.2 _ _ h48
      obtain ⟨ty, y1, y2⟩ := hX.1 _ _ _ _ _ h48 (z1.symm.trans e1)
      have y3 := y2.kept (x_hq hX h3)
      obtain ⟨cell, c1, c2, c3, c4, c5, c6, c7⟩ := y3
      have hty : ty = .byte := Option.some.inj (y1.symm.trans hq)
      subst hty
      have hlt : j.toNatClampNeg < n := Nat.not_le.mp fun q => hj (Or.inr q)
      have ea : t a.1 a.2 = G.2.2.2.2.1 a.1 a.2 := (z2 (x_some e1)).1
      have kk2 : W p l e R s m args below meth c H locs cells slots _ (F0 m (pc + 1) ls (.int (f j.toNatClampNeg) :: r.map (xz t))) := kk
      show W p l e R s m args below meth c H locs cells slots _ (F0 m pc ls (.int j :: .ref (t a.1 a.2) :: r.map (xz t)))
      rw [ea]
      exact W.bald hC.1 hC.2.1 c1 c2 c3 (fun z => z.elim (fun z => hj (Or.inl z)) (fun z => by omega)) (c6 _ hlt) rfl rfl hd kk2
  · exact h.elim
theorem xs_lald {q : Nat} (hd : decode M.2.1 pc = .ok (.laload, 1)) (hq : x_tys[q]? = some .long) : XSnd M pc (X_lald q) := by
  intro G p l e R s m args below meth c P t0 S0 htr0 hC K hK L st S u w h t H locs ls cells slots h1 h2 h3 h4 h5 h6 h7 h8 h9
  unfold X_lald at h
  split at h
  · next j a r =>
    obtain ⟨h48, n, f, e1, hj, h⟩ := h
    exact va_lald hC.1 hC.2.1 (x_K1 hC.2.2.2.2.2.2.1 hq) (x_PA h3 h48 e1) 0 0 rfl rfl hj hd (hK _ _ _ _ _ _ h t H locs ls cells slots h1 h2 h3 h4 h5 h6 (x_oks.cons trivial h7.tl.tl) h8 h9)
  · exact h.elim
theorem xs_aald {q : Nat} {C : String} (hd : decode M.2.1 pc = .ok (.aaload, 1)) (hq : x_tys[q]? = some (.object C)) : XSnd M pc (X_aald q) := by
  intro G p l e R s m args below meth c P t0 S0 htr0 hC K hK L st S u w h t H locs ls cells slots h1 h2 h3 h4 h5 h6 h7 h8 h9
  unfold X_aald at h
  split at h
  · next j a r =>
    obtain ⟨h48, n, f, e1, hj, h⟩ := h
    have hlt : j.toNatClampNeg < n := Nat.not_le.mp fun q => hj (Or.inr q)
    have hok : x_ok S (xv_o (f j.toNatClampNeg)) := (h3.2.1 _ _ _ e1 : ∀ j, j < n → x_ok S (xv_o (f j))) _ hlt
    have kk := hK _ _ _ _ _ _ h t H locs ls cells slots h1 h2 h3 h4 h5 h6 (x_oks.cons hok h7.tl.tl) h8 h9
    rw [List.map_cons, ← xz_rf] at kk
    exact va_aldq hC.1 hC.2.1 (x_K1 hC.2.2.2.2.2.2.1 hq) (x_PA h3 h48 e1) 0 0 rfl rfl hj hd kk
  · exact h.elim
theorem xs_alen (hd : decode M.2.1 pc = .ok (.arraylength, 1)) : XSnd M pc X_alen := by
  intro G p l e R s m args below meth c P t0 S0 htr0 hC K hK L st S u w h t H locs ls cells slots h1 h2 h3 h4 h5 h6 h7 h8 h9
  unfold X_alen at h
  split at h
  · next a r =>
    obtain ⟨q, n, z, e1, hq, h⟩ := h
    have kk := hK _ _ _ _ _ _ h t H locs ls cells slots h1 h2 h3 h4 h5 h6 (x_oks.cons trivial h7.tl) h8 h9
    by_cases h48 : a.1 < 48
    · have hq' : x_tys[q]? = some x_tys[q] := List.getElem?_eq_getElem hq
      have en : (xz_a t n z).1 = n := by rcases z with f | f | f <;> rfl
      exact va_alen hC.1 hC.2.1 (x_K1 hC.2.2.2.2.2.2.1 hq') (x_PA h3 h48 e1) 0 0 rfl rfl (by rw [en]) hd kk
    · have hX := hC.2.2.2.2.2.2.1.2.2
      obtain ⟨z1, z2⟩ := h3.2.2.2.2.2.2 _ _ h48
      obtain ⟨ty, y1, y2⟩ := hX.1 _ _ _ _ _ h48 (z1.symm.trans e1)
      obtain ⟨cell, c1, c2, c3, c4, c5, c6, c7⟩ := y2.kept (x_hq hX h3)
      have ea : t a.1 a.2 = G.2.2.2.2.1 a.1 a.2 := (z2 (x_some e1)).1
      have kk2 : W p l e R s m args below meth c H locs cells slots _ (F0 m (pc + 1) ls (.int (Int32.ofNat n) :: r.map (xz t))) := kk
      show W p l e R s m args below meth c H locs cells slots _ (F0 m pc ls (.ref (t a.1 a.2) :: r.map (xz t)))
      rw [ea]
      exact W.alen hC.1 hC.2.1 c1 c2 c5 rfl rfl hd kk2
  · exact h.elim
def X_ast (q : Nat) (g : Int32 → Int32) : XI := fun K _ pc L st S u w => match st with
  | .inl x :: .inl j :: .inr (.inr (some a)) :: r => ∃ n f, S a.1 a.2 = some (.inr (q, n, .inl f)) ∧ a.1 < 48 ∧ vp_in j n ∧ K (pc + 1) L r (x_up S a.1 a.2 (.inr (q, n, .inl (upd f j.toNatClampNeg (g x))))) u w
  | _ => False
def X_last (q : Nat) : XI := fun K _ pc L st S u w => match st with
  | .inr (.inl x) :: .inl j :: .inr (.inr (some a)) :: r => ∃ n f, S a.1 a.2 = some (.inr (q, n, .inr (.inl f))) ∧ a.1 < 48 ∧ vp_in j n ∧ K (pc + 1) L r (x_up S a.1 a.2 (.inr (q, n, .inr (.inl (vp_updL f j.toNatClampNeg x))))) u w
  | _ => False
theorem xs_iast {q : Nat} (hd : decode M.2.1 pc = .ok (.iastore, 1)) (hq : x_tys[q]? = some .int) : XSnd M pc (X_ast q (fun x => x)) := by
  intro G p l e R s m args below meth c P t0 S0 htr0 hC K hK L st S u w h t H locs ls cells slots h1 h2 h3 h4 h5 h6 h7 h8 h9
  unfold X_ast at h
  split at h
  · next x j a r =>
    obtain ⟨n, f, e1, hk, hj, h⟩ := h
    refine W.iast hC.1 hC.2.1 (h3.1 _ _ _ hk e1) ((hC.2.2.2.2.2.2.1.2.1 q _ hq).1 n (fun j => .int (f j))) (fun q => by cases q) (by show ¬ (j < 0 ∨ (arrV _ _ _).slots.size ≤ _); rw [arrV_size]; exact hj) rfl rfl hd fun H1 g1 g2 g3 => ?_
    refine hK _ _ _ _ _ _ h t H1 _ ls cells slots h1 h2.up (h3.set e1 hk trivial g2 g3 ?_) (x_locs h4 (h3.2.2.2.1 _ _ (x_some e1) hk)) h5 (h6.dm (x_dm.up x_dm.rf)) (h7.tl.tl.tl.dm (x_dm.up x_dm.rf)) h8 h9
    show H1[t a.1 a.2]? = some (vp_cell _ _)
    rw [g1]
    show some ((vp_cell (G.2.1 q) (n, .inl f)).setSlot _ _) = some (vp_cell (G.2.1 q) (n, .inl _))
    rw [vp_cell_i, vp_cell_i, arrV_store]
    congr 2
    funext k
    by_cases hkk : k = j.toNatClampNeg
    · subst hkk
      simp [updV, upd]
    · simp [updV, upd, hkk]
  · exact h.elim
theorem xs_bast {q : Nat} (hd : decode M.2.1 pc = .ok (.bastore, 1)) (hq : x_tys[q]? = some .byte) : XSnd M pc (X_ast q (fun x => x.toInt8.toInt32)) := by
  intro G p l e R s m args below meth c P t0 S0 htr0 hC K hK L st S u w h t H locs ls cells slots h1 h2 h3 h4 h5 h6 h7 h8 h9
  unfold X_ast at h
  split at h
  · next x j a r =>
    obtain ⟨n, f, e1, hk, hj, h⟩ := h
    refine W.bast hC.1 hC.2.1 (h3.1 _ _ _ hk e1) ((hC.2.2.2.2.2.2.1.2.1 q _ hq).1 n (fun j => .int (f j))) (fun q => by cases q) (by show ¬ (j < 0 ∨ (arrV _ _ _).slots.size ≤ _); rw [arrV_size]; exact hj) rfl rfl hd fun H1 g1 g2 g3 => ?_
    refine hK _ _ _ _ _ _ h t H1 _ ls cells slots h1 h2.up (h3.set e1 hk trivial g2 g3 ?_) (x_locs h4 (h3.2.2.2.1 _ _ (x_some e1) hk)) h5 (h6.dm (x_dm.up x_dm.rf)) (h7.tl.tl.tl.dm (x_dm.up x_dm.rf)) h8 h9
    show H1[t a.1 a.2]? = some (vp_cell _ _)
    rw [g1]
    show some ((vp_cell (G.2.1 q) (n, .inl f)).setSlot _ _) = some (vp_cell (G.2.1 q) (n, .inl _))
    rw [vp_cell_i, vp_cell_i, arrV_store]
    congr 2
    funext k
    by_cases hkk : k = j.toNatClampNeg
    · subst hkk
      simp [updV, upd]
      rfl
    · simp [updV, upd, hkk]
  · exact h.elim
theorem xs_last {q : Nat} (hd : decode M.2.1 pc = .ok (.lastore, 1)) (hq : x_tys[q]? = some .long) : XSnd M pc (X_last q) := by
  intro G p l e R s m args below meth c P t0 S0 htr0 hC K hK L st S u w h t H locs ls cells slots h1 h2 h3 h4 h5 h6 h7 h8 h9
  unfold X_last at h
  split at h
  · next x j a r =>
    obtain ⟨n, f, e1, hk, hj, h⟩ := h
    refine W.last hC.1 hC.2.1 (h3.1 _ _ _ hk e1) ((hC.2.2.2.2.2.2.1.2.1 q _ hq).1 n (fun j => .long (f j))) (fun q => by cases q) (by show ¬ (j < 0 ∨ (arrV _ _ _).slots.size ≤ _); rw [arrV_size]; exact hj) rfl rfl hd fun H1 g1 g2 g3 => ?_
    refine hK _ _ _ _ _ _ h t H1 _ ls cells slots h1 h2.up (h3.set e1 hk trivial g2 g3 ?_) (x_locs h4 (h3.2.2.2.1 _ _ (x_some e1) hk)) h5 (h6.dm (x_dm.up x_dm.rf)) (h7.tl.tl.tl.dm (x_dm.up x_dm.rf)) h8 h9
    show H1[t a.1 a.2]? = some (vp_cell _ _)
    rw [g1]
    show some ((vp_cell (G.2.1 q) (n, .inr (.inl f))).setSlot _ _) = some (vp_cell (G.2.1 q) (n, .inr (.inl _)))
    rw [vp_cell_l, vp_cell_l, arrV_store]
    congr 2
    funext k
    by_cases hkk : k = j.toNatClampNeg
    · subst hkk
      simp [updV, vp_updL]
    · simp [updV, vp_updL, hkk]
  · exact h.elim
/-- a reference into an array of references: the object's class ci can be put there -/
def X_aast (q ci : Nat) : XI := fun K _ pc L st S u w => match st with
  | .inr (.inr (some v)) :: .inl j :: .inr (.inr (some a)) :: r => ∃ n f fs, S a.1 a.2 = some (.inr (q, n, .inr (.inr f))) ∧ S v.1 v.2 = some (.inl (ci, fs)) ∧ a.1 < 48 ∧ v.1 < 48 ∧ vp_in j n ∧ K (pc + 1) L r (x_up S a.1 a.2 (.inr (q, n, .inr (.inr (va_up f j.toNatClampNeg (some v)))))) u w
  | _ => False
theorem xs_aast {q ci N : Nat} {C : String} {T : u_T} (hd : decode M.2.1 pc = .ok (.aastore, 1)) (hq : x_tys[q]? = some (.object C)) (hc : x_cls[ci]? = some (C, T, N)) : XSnd M pc (X_aast q ci) := by
  intro G p l e R s m args below meth c P t0 S0 htr0 hC K hK L st S u w h t H locs ls cells slots h1 h2 h3 h4 h5 h6 h7 h8 h9
  unfold X_aast at h
  split at h
  · next v j a r =>
    obtain ⟨n, f, fs, e1, e2, hk, hkv, hj, h⟩ := h
    have hlt : j.toNatClampNeg < n := Nat.not_le.mp fun q => hj (Or.inr q)
    have h0 : ¬ j < 0 := fun q => hj (Or.inl q)
    obtain ⟨r', hr', cellV, c1, c2, c3, -⟩ := h3.1 _ _ _ hkv e2
    have hcls := (hC.2.2.2.2.2.2.1.1.1 ci _ hc).2
    obtain ⟨kA, comp, k1, k2, k3, -⟩ := (hC.2.2.2.2.2.2.1.2.1 q _ hq).2
    have hcomp : comp = G.1.1 ci := Option.some.inj (k3.symm.trans hcls.1)
    subst hcomp
    obtain ⟨kC, hkC, -⟩ := hcls.2
    refine W.aast hC.1 hC.2.1 (h3.1 _ _ _ hk e1) (fun q h => by cases h) (fun h => by cases h) k1 k2 rfl hkC ⟨h0, by show _ < (arrV _ _ _).slots.size; rw [arrV_size]; exact hlt⟩ c1 (fun q h => by rw [c3] at h; cases h) (by rw [c2]; exact hkC) (by rw [c2]; exact va_assign hcls) rfl rfl hd fun H1 g1 g2 g3 => ?_
    refine hK _ _ _ _ _ _ h t H1 _ ls cells slots h1 h2.up (h3.set e1 hk ?_ g2 g3 ?_) (x_locs h4 (h3.2.2.2.1 _ _ (x_some e1) hk)) h5 (h6.dm (x_dm.up x_dm.rf)) (h7.tl.tl.tl.dm (x_dm.up x_dm.rf)) h8 h9
    · intro k hk'
      show x_ok S (xv_o (va_up f j.toNatClampNeg (some v) k))
      unfold va_up
      split
      · exact h7.hd
      · exact (h3.2.1 _ _ _ e1 : ∀ j, j < n → x_ok S (xv_o (f j))) k hk'
    · show H1[t a.1 a.2]? = some (vp_cell _ _)
      rw [g1]
      show some ((vp_cell (G.2.1 q) (n, .inr (.inr (.inr (.inr (fun j => xz_o t (f j))))))).setSlot _ _) = some (vp_cell (G.2.1 q) (n, .inr (.inr (.inr (.inr _)))))
      rw [vp_cell_q, vp_cell_q, arrV_store]
      congr 2
      funext k
      by_cases hkk : k = j.toNatClampNeg
      · subst hkk
        simp [updV, va_up, va_rf, xz_o]
      · simp [updV, va_up, hkk]
  · exact h.elim
end XHP
end
section
/-! calls as steps; throwing; catching -/
abbrev XMeth : Type := Nat → Nat → List XV → XH → XP → Prop
/-- a method's run gives its contract -/
def x_Snd (y : MethodName) (My : XM) (Y : XMeth) : Prop := ∀ (l : Launch) (G : XG) (t : XT) (S : XH) (vs : List XV) (mc ms : Nat) (P : XP), l.stackTraces = false → vs.length ≤ My.2.2.1 → Y mc ms vs S P → x_Met l G y My.2.2.2.2.2.2.1 My.2.2.2.2.2.2.2 mc ms t S vs P
theorem x_snd_of {y : MethodName} {My : XM} {b : XB} (hy : plainName y.cls = true) (h1 : My.1 = y.cls) (h2 : My.2.2.2.2.1 = y.name) (his : x_Is y My) (hb : x_bok My b) : x_Snd y My (x_do My.2.2.1 b) := fun _ _ _ _ _ _ _ _ ht hl h => x_met_of ht hy h1 h2 his hb hl h
def x_catch (hs : List (Nat × Nat)) (ci : Nat) : Option Nat := match hs with
  | [] => none
  | q :: r => if q.1 = ci then some q.2 else x_catch r ci
/-- what comes behind a call -/
def x_aft (K : XK) (P : XP) (hs : List (Nat × Nat)) (pc : Nat) (L : List (Option XV)) (rest : List XV) (u w : Nat) : XP := fun r S => match r with
  | .inl v => K pc L (v.toList ++ rest) S u w
  | .inr q => match hs with
    | [] => P (.inr q) S
    | a :: b => ∃ ci fs h, S q.1 q.2 = some (.inl (ci, fs)) ∧ q.1 < 48 ∧ x_catch (a :: b) ci = some h ∧ K h L [xv_r q.1 q.2] S u w
def X_invS (Y : XMeth) (n : Nat) (hs : List (Nat × Nat)) : XI := fun K P pc L st S u w =>
  n ≤ st.length ∧ (st.take n).all x_c1 = true ∧ x_cs (st.drop n) ≤ 8 ∧ ∃ mc ms, mc ≤ u ∧ ms ≤ w ∧ Y mc ms (st.take n).reverse S (x_aft K P hs (pc + 3) L (st.drop n) (u - mc) (w - ms))
def X_invI (Y : XMeth) (n : Nat) (hs : List (Nat × Nat)) : XI := fun K P pc L st S u w => match st.drop n with
  | .inr (.inr (some q)) :: rest => (st.take n).all x_c1 = true ∧ x_cs rest ≤ 8 ∧ ∃ mc ms, mc ≤ u ∧ ms ≤ w ∧ Y mc ms (xv_r q.1 q.2 :: (st.take n).reverse) S (x_aft K P hs (pc + 3) L rest (u - mc) (w - ms))
  | _ => False
def X_invV (ci : Nat) (Y : XMeth) (n : Nat) (hs : List (Nat × Nat)) : XI := fun K P pc L st S u w => match st.drop n with
  | .inr (.inr (some q)) :: rest => q.1 < 48 ∧ (∃ fs, S q.1 q.2 = some (.inl (ci, fs))) ∧ (st.take n).all x_c1 = true ∧ x_cs rest ≤ 8 ∧ ∃ mc ms, mc ≤ u ∧ ms ≤ w ∧ Y mc ms (xv_r q.1 q.2 :: (st.take n).reverse) S (x_aft K P hs (pc + 3) L rest (u - mc) (w - ms))
  | _ => False
/-- Object.<init> -/
def X_obj : XI := fun K _ pc L st S u w => match st with
  | .inr (.inr (some _)) :: r => x_cs r + 12 ≤ 20 ∧ K (pc + 3) L r S u w
  | _ => False
section XFH
variable {Q : Handler → Pre} {E : CtlPost} {e : Env} {d : Bool} {acts : List Action} {s : State} {f : JFrame} {a : Addr}
/-- an entry's class is linked now, if it wasn't; it takes the object, or not -/
theorem x_fh {x : ExceptionTableEntry} {r : List ExceptionTableEntry} {k : ClassId} {cell : Cell} (hx : covers x f.pc = true) (h0 : x.catchType ≠ 0) (hl : s.vm.ClassLinks e.platform f.method.cls x.catchType k) (hcell : s.heap[a]? = some cell) (hobj : ∀ k, cell.vm ≠ .statics k)
    (hk : ∃ k, s.vm.classes[cell.cls]? = some k) (hc : ∃ z, s.vm.classes[k]? = some z) :
    wp (findHandler.go f a (x :: r)) Q E e d acts s ↔ if s.vm.assignable cell.cls k = true then Q (.found x.handlerPc) d acts (s.setVm (s.vm.noted f.method.cls x.catchType (.cls k))) else wp (findHandler.go f a r) Q E e d acts (s.setVm (s.vm.noted f.method.cls x.catchType (.cls k))) := by
  simp only [covers] at hx
  obtain ⟨ha, ht⟩ := (resolveClass_links e.toSetting hl).op (op := VmOp.resolveClass f.method.cls x.catchType) rfl
  have hal : s.vm.Alike (s.vm.noted f.method.cls x.catchType (.cls k)) := (Vm.Alike.refl s.vm).noted _ _ _
  obtain ⟨k1, hk1⟩ := hk
  obtain ⟨k2, hk2⟩ := hc
  obtain ⟨z1, hz1, -⟩ := hal.2.2 _ _ hk1
  obtain ⟨z2, hz2, -⟩ := hal.2.2 _ _ hk2
  by_cases hf : s.vm.assignable cell.cls k = true
  · have hf' : (s.vm.noted f.method.cls x.catchType (.cls k)).assignable cell.cls k = true := by rw [hal.assignable]; exact hf
    rw [if_pos hf]
    simp [findHandler.go, hx, h0, ha, ht, hcell, hobj, hz1, hz2, hf', VmOp.dirties, VmOp.acts]
  · have hf0 : s.vm.assignable cell.cls k = false := by simpa using hf
    have hf' : (s.vm.noted f.method.cls x.catchType (.cls k)).assignable cell.cls k = false := by rw [hal.assignable]; exact hf0
    rw [if_neg hf]
    simp [findHandler.go, hx, h0, ha, ht, hcell, hobj, hz1, hz2, hf', VmOp.dirties, VmOp.acts]
end XFH
/-- the search's end, and the tables that it leaves -/
def x_FT (e : Env) (s : State) (f : JFrame) (a : Addr) (h : Handler) (vm' : Vm) : Prop := ∀ (Q : Handler → Pre) (E : CtlPost) (d : Bool) (acts : List Action), wp (findHandler f a) Q E e d acts s ↔ Q h d acts (s.setVm vm')
/-- an entry that lets the class pass -/
def x_miss (pl : Platform) (s : State) (d : ClassId) (pc : Nat) (th : ClassId) (y : ExceptionTableEntry) : Prop := covers y pc = false ∨ (y.catchType ≠ 0 ∧ ∃ k, s.vm.ClassLinks pl d y.catchType k ∧ s.vm.assignable th k = false)
theorem x_search {e : Env} {s0 : State} {f : JFrame} {a : Addr} {cell : Cell} (hobj : ∀ k, cell.vm ≠ .statics k) (hk0 : ∃ k, s0.vm.classes[cell.cls]? = some k) {x : ExceptionTableEntry} (rest : List ExceptionTableEntry) (hx : covers x f.pc = true) (h0 : x.catchType ≠ 0) {k : ClassId} (hl : s0.vm.ClassLinks e.platform f.method.cls x.catchType k) (hfit : s0.vm.assignable cell.cls k = true) :
    ∀ (pre : List ExceptionTableEntry) (S : State), s0.WarmedH S.vm → S.heap[a]? = some cell → (∀ y ∈ pre, x_miss e.platform s0 f.method.cls f.pc cell.cls y) →
      ∃ vm', s0.WarmedH vm' ∧ ∀ (Q : Handler → Pre) (E : CtlPost) (d : Bool) (acts : List Action), wp (findHandler.go f a (pre ++ x :: rest)) Q E e d acts S ↔ Q (.found x.handlerPc) d acts (S.setVm vm') := by
  obtain ⟨k0, hk0⟩ := hk0
  intro pre
  induction pre with
  | nil =>
    intro S hW hcell _
    obtain ⟨z0, hz0, -⟩ := hW.alike.2.2 _ _ hk0
    obtain ⟨dk, _, _, kt, hd, _, _, _, _, hkt, _, hopen⟩ := hl.here
    obtain ⟨kt', hkt', -⟩ := hW.alike.2.2 _ _ hkt
    refine ⟨_, hW.noted hd hopen (State.rightAt_cls hl), fun Q E d acts => ?_⟩
    rw [List.nil_append, x_fh hx h0 (hW.classLinks hl) hcell hobj ⟨z0, hz0⟩ ⟨kt', hkt'⟩, if_pos (by rw [hW.alike.assignable]; exact hfit)]
  | cons y ys ih =>
    intro S hW hcell hpass
    have hr : ∀ z ∈ ys, x_miss e.platform s0 f.method.cls f.pc cell.cls z := fun z hz => hpass z (List.mem_cons_of_mem _ hz)
    by_cases hcov : covers y f.pc = true
    · rcases hpass y List.mem_cons_self with q | ⟨hy0, ky, hly, hno⟩
      · rw [q] at hcov
        cases hcov
      · obtain ⟨z0, hz0, -⟩ := hW.alike.2.2 _ _ hk0
        obtain ⟨dk, _, _, kt, hd, _, _, _, _, hkt, _, hopen⟩ := hly.here
        obtain ⟨kt', hkt', -⟩ := hW.alike.2.2 _ _ hkt
        obtain ⟨vm', hW', hq⟩ := ih (S.setVm (S.vm.noted f.method.cls y.catchType (.cls ky))) (hW.noted hd hopen (State.rightAt_cls hly)) hcell hr
        refine ⟨vm', hW', fun Q E d acts => ?_⟩
        rw [List.cons_append, x_fh hcov hy0 (hW.classLinks hly) hcell hobj ⟨z0, hz0⟩ ⟨kt', hkt'⟩, if_neg (by rw [hW.alike.assignable, hno]; decide)]
        exact hq Q E d acts
    · obtain ⟨vm', hW', hq⟩ := ih S hW hcell hr
      refine ⟨vm', hW', fun Q E d acts => ?_⟩
      rw [List.cons_append, W.findHandler_go_skip (by simpa using hcov)]
      exact hq Q E d acts
theorem x_caughtS {e : Env} {s : State} {a : Addr} {f : JFrame} {r : List Frame} {pc : Nat} {vm' : Vm} (hfind : x_FT e s f a (.found pc) vm') : (stepThrowing e s a (.java f :: r)).Is ((s.setVm vm').setFrames (.java { f with pc := pc, stack := [.ref a] } :: r)) [] := by
  simp only [stepThrowing, searchFrame, vmDo]
  generalize hr : Sem.go _ e false [] s = res
  obtain ⟨as, rfl, ha⟩ := Sem.eq_ok_of hr (a := Handler.found pc) (s' := s.setVm vm') (acts' := []) (by simp [hfind _ _ _ _])
  exact ⟨rfl, ha⟩
theorem x_frsv (u : State) (vm' : Vm) (F F' : List Frame) : ((u.setFrames F).setVm vm').setFrames F' = (u.setVm vm').setFrames F' := by
  have h1 : (u.setFrames F).setVm vm' = (u.setVm vm').setFrames F := rfl
  rw [h1, State.setFrames_setFrames]
theorem x_caught {tb : Tables} {e : Env} {s target : State} {g : JFrame} {c : Code} {below : List Frame} {a : Addr} (h : At s g.method c below) {pc : Nat} {vm' : Vm} (hfind : x_FT e ((s.setTop g).pushFrame (.throwing a)) g a (.found pc) vm') (hrest : Steps tb e below ((s.setVm vm').setTop { g with pc := pc, stack := [.ref a] }) target) :
    Steps tb e below ((s.setTop g).pushFrame (.throwing a)) target := by
  obtain ⟨hgo, hw⟩ := h.throwing a
  refine Steps.head hgo hw ?_
  rw [stepThread_throwing (frames_entered h.top _), (x_caughtS (s := (s.setTop g).pushFrame (.throwing a)) hfind).1]
  obtain ⟨g0, hg⟩ := Option.isSome_iff_exists.mp h.top
  obtain ⟨r, hr⟩ := State.topJava?_eq_some.mp hg
  have hr' : (s.setVm vm').frames = .java g0 :: r := hr
  rw [State.setTop_of_frames _ hr'] at hrest
  rw [hr, List.tail_cons, State.pushFrame, x_frsv, State.setTop_of_frames _ hr, x_frsv]
  exact hrest
/-- the handlers of M at pc catch as hs says, by the tables' words -/
def x_hok (M : XM) (pc : Nat) (hs : List (Nat × Nat)) : Prop := match hs with
  | [] => (tableOf M.2.2.2.2.2.1).all (fun x => !covers x pc) = true
  | a :: b => ∀ ci h, x_catch (a :: b) ci = some h → ∃ (C : String) (T : u_T) (N : Nat) (pre : List ExceptionTableEntry) (x : ExceptionTableEntry) (rest : List ExceptionTableEntry), x_cls[ci]? = some (C, T, N) ∧ tableOf M.2.2.2.2.2.1 = pre ++ x :: rest ∧ x.handlerPc = h ∧ covers x pc = true ∧ x.catchType ≠ 0 ∧ Cond.classLink M.1 x.catchType C ∈ x_Wd ∧
      ∀ y ∈ pre, covers y pc = false ∨ (y.catchType ≠ 0 ∧ ∃ nm, Cond.classLink M.1 y.catchType nm ∈ x_Wd ∧ Cond.not (.castable C nm) ∈ x_Wd)
section XCL
variable {G : XG} {p : Program} {l : Launch} {e : Env} {R : Room} {s : State} {m : MethodId} {args : Array Value} {below : List Frame} {meth : Method} {c : Code} {M : XM} {pc : Nat} {P : XP} {t0 t : XT} {S0 S : XH} {H : Heap} {locs : List Loc} {cells slots u w : Nat} {ls : Array Slot} {L : List (Option XV)} {K : XK}
theorem x_catchW {T : State} (X : Stand p l e R s m args below meth c T locs cells slots) (hC : x_C G M p R s m args meth c) {hs : List (Nat × Nat)} {ci h : Nat} {fs : List XV} {k i : Nat} {a : Nat × Nat} {b : List (Nat × Nat)} (hhs : hs = a :: b) (hh : x_hok M pc hs) (hct : x_catch hs ci = some h) (hR : x_R G t S T.heap) (h48 : k < 48) (hS : S k i = some (.inl (ci, fs))) {stk : List Value} :
    ∃ vm', Stand p l e R s m args below meth c (T.setVm vm') locs cells slots ∧ ∀ target, Steps p.tables e below ((T.setVm vm').setTop (F0 m h ls [.ref (t k i)])) target → Steps p.tables e below ((T.setTop (F0 m pc ls stk)).pushFrame (.throwing (t k i))) target := by
  subst hhs
  obtain ⟨C, Tt, N, pre, x, rest, hc, hsp, rfl, hx, h0, hl, hpre⟩ := hh ci h hct
  obtain ⟨r', g1, cell, q1, q2, q3, q4⟩ := hR.1 _ _ _ h48 hS
  have hts := hC.2.2.2.2.2.1
  have hpl : e.platform.magicAccessors = ({} : Platform).magicAccessors := by rw [X.admits.platform]
  have hcls := (hC.2.2.2.2.2.2.1.1.1 ci _ hc).2
  obtain ⟨kc, hkc, hcl⟩ := Cond.classLink_spec hC.2.2.2.2.1 (hts _ hl) e.platform hpl
  have hkc' : kc = G.1.1 ci := Option.some.inj (hkc.symm.trans hcls.1)
  subst hkc'
  have hobj : ∀ k, cell.vm ≠ .statics k := fun k q => by rw [q3] at q; cases q
  obtain ⟨kC, hkC, -⟩ := hcls.2
  have hcell' : ((T.setTop (F0 m pc ls stk)).pushFrame (.throwing (t k i))).heap[t k i]? = some cell := by rw [Stand.throwing_heap]; exact q1
  have hvm' : s.WarmedH ((T.setTop (F0 m pc ls stk)).pushFrame (.throwing (t k i))).vm := by rw [Stand.throwing_vm]; exact X.warmed
  obtain ⟨vm', hW', hq⟩ := x_search (e := e) (s0 := s) (f := F0 m pc ls stk) (a := t k i) (cell := cell) hobj ⟨kC, by rw [q2]; exact hkC⟩ rest hx h0 hcl (by rw [q2]; exact va_assign hcls) pre _ hvm' hcell' (fun y hy => by
    rcases hpre y hy with q | ⟨hy0, nm, hyl, hyn⟩
    · exact Or.inl q
    · obtain ⟨ky, hky, hyc⟩ := Cond.classLink_spec hC.2.2.2.2.1 (hts _ hyl) e.platform hpl
      have hv := Cond.holds_not_iff.mp (hts _ hyn)
      have hfC : s.vm.findClass C = some cell.cls := by rw [q2]; exact hcls.1
      simp only [Cond.value, hfC, hky] at hv
      exact Or.inr ⟨hy0, ky, hyc, Option.some.inj hv⟩)
  have hmeth : ((T.setTop (F0 m pc ls stk)).pushFrame (.throwing (t k i))).vm.method? m = some meth := by rw [Stand.throwing_vm]; exact X.method'
  refine ⟨vm', X.noted hW', fun target hrest => ?_⟩
  refine x_caught (g := F0 m pc ls stk) X.here (pc := x.handlerPc) (vm' := vm') ?_ hrest
  intro Q E d acts
  rw [W.findHandler_eq hmeth X.code, hC.2.2.2.2.2.2.2.2.2.1, hsp]
  exact hq Q E d acts
/-- behind the call's site: the callee goes, and then what comes behind it -/
theorem x_call {y : MethodName} {My : XM} {Y : XMeth} {vs rest : List XV} {stk : List Value} {hs : List (Nat × Nat)} {mc ms : Nat} {ig : Instr} (hl : l.stackTraces = false) (hC : x_C G M p R s m args meth c) (hY : x_Snd y My Y) (his : x_Is y My) (hini : Cond.initialized y.cls ∈ x_Wd) (hdg : decode M.2.1 pc = .ok (ig, 3)) (hfr : My.2.2.2.2.2.2.1 + 1 ≤ M.2.2.2.2.2.2.1) (hlo : 8 + (My.2.2.1 + 11) + My.2.2.2.2.2.2.2 ≤ M.2.2.2.2.2.2.2) (hh : x_hok M pc hs)
    (hK : ∀ pc L st S u w, K pc L st S u w → x_W G p l e R s m args below meth c M.2.2.1 P t0 S0 pc L st S u w)
    (h1 : x_ag t0 t S0) (h2 : x_dm S0 S) (h3 : x_R G t S H) (h4 : ∀ q ∈ locs, G.2.2.1 ≤ q.base) (h5 : x_L t ls M.2.2.1 L) (h6 : x_okl S L) (hvs : x_oks S vs) (hv1 : ∀ v ∈ vs, x_c1 v = true) (hvl : vs.length ≤ My.2.2.1) (hro : x_oks S rest) (hrc : x_cs rest ≤ 8) (h8 : cells + u ≤ R.cells) (h9 : slots + w ≤ R.slots) (hmc : mc ≤ u) (hms : ms ≤ w)
    (hrun : Y mc ms vs S (x_aft K P hs (pc + 3) L rest (u - mc) (w - ms)))
    (site : ∀ T : State, T.heap = H → Stand p l e R s m args below meth c T locs cells slots → ∃ (vm₁ : Vm) (mk : MethodId), Stand p l e R s m args below meth c (T.setVm vm₁) locs cells slots ∧ (T.setVm vm₁).methodNamed? y = some mk ∧
      ∀ target, (∀ acts, Steps p.tables e below (doInvoke e ((T.setVm vm₁).setTop (F0 m pc ls (rest.map (xz t)))) acts mk (vs.map (xz t)).toArray).1 target) → Steps p.tables e below (T.setTop (F0 m pc ls stk)) target) :
    W p l e R s m args below meth c H locs cells slots (x_Q G below P t0 S0 s R.cells R.slots) (F0 m pc ls stk) := by
  intro T hT X
  obtain ⟨vm₁, mk, X₁, hn, hstep⟩ := site T hT X
  have hts := hC.2.2.2.2.2.1
  have hsz : (F0 m pc ls (rest.map (xz t))).locals.size = c.maxLocals := by rw [hC.2.2.1]; exact h5.1.1
  obtain ⟨o, T', L', X', hL', ⟨t', S', a1, a2, a3, a4⟩, hs'⟩ := x_back (g := F0 m pc ls (rest.map (xz t))) X₁ (hY l G t S vs mc ms _ hl hvl hrun) his hts (hts _ hini) rfl hsz (by rw [hC.2.1]; exact hdg) (by show 2 * 0 + _ ≤ 8; rw [x_cs_cat]; omega) hn (Nat.le_trans hfr hC.2.2.2.2.2.2.2.2.2.2.1) (Nat.le_trans hlo hC.2.2.2.2.2.2.2.2.2.2.2) (by omega) (by omega) (by show x_R G t S T.heap; rw [hT]; exact h3) (x_K.moved X₁.warmed hC.2.2.2.2.2.2.1) hvs hv1
  have hag : x_ag t0 t' S0 := fun a b q => (a1 a b (h2 a b q)).trans (h1 a b q)
  have hdm := h2.trans a2
  have hloc : ∀ q ∈ locs ++ L', G.2.2.1 ≤ q.base := fun q hq => by
    rcases List.mem_append.mp hq with z | z
    · exact h4 q z
    · exact hL' q z
  cases o with
  | returned v =>
    rcases a4 with ⟨r, hv, hro', hP⟩ | ⟨_, _, hv, _⟩
    · cases hv
      have hk := hK _ _ _ _ _ _ hP t' T'.heap (locs ++ L') ls (cells + mc) (slots + ms) hag hdm a3 hloc (h5.ag h6 a1) (h6.dm a2) (fun z hz => by
        rcases List.mem_append.mp hz with q | q
        · exact hro' z (Option.mem_toList.mp q)
        · exact (hro.dm a2) z q) (by omega) (by omega)
      obtain ⟨tt, b1, b2⟩ := hk T' rfl X'
      refine ⟨tt, hstep _ fun acts => ?_, b2⟩
      rw [doInvoke_state]
      refine hs'.trans ?_
      have es : (r.map (xz t')).toList ++ rest.map (xz t) = (r.toList ++ rest).map (xz t') := by
        rw [List.map_append, xz_ags hro a1]
        cases r <;> rfl
      show Steps p.tables e below (T'.setTop (F0 m (pc + 3) ls ((r.map (xz t')).toList ++ rest.map (xz t)))) tt
      rw [es]
      exact b1
    · cases hv
  | threw x =>
    rcases a4 with ⟨r, hv, _⟩ | ⟨k, i, hv, hne, hP⟩
    · cases hv
    · cases hv
      cases hs with
      | nil =>
        have hout : ∀ z ∈ c.exceptionTable.toList, covers z (F0 m pc ls (rest.map (xz t))).pc = false := fun z hz => by
          rw [hC.2.2.2.2.2.2.2.2.2.1] at hz
          have hz2 := List.all_eq_true.mp hh z hz
          show covers z pc = false
          cases hcv : covers z pc with
          | false => rfl
          | true => rw [hcv] at hz2; cases hz2
        obtain ⟨s1, r1, r2, r3, r4⟩ := X'.leaveThrown (t' k i) (g := F0 m pc ls (rest.map (xz t))) rfl rfl rfl hout hC.2.2.2.2.2.2.2.1
        refine ⟨_, hstep _ fun acts => ?_, .threw (t' k i), r1, r2, ⟨t', S', hag, hdm, a3, Or.inr ⟨k, i, rfl, hne, hP⟩⟩, locs ++ L', ⟨r3, r4.mono (by omega) (by omega)⟩, hloc⟩
        rw [doInvoke_state]
        exact hs'.trans s1
      | cons a b =>
        obtain ⟨ci, fs, h, hS, h48, hct, hk⟩ := hP
        obtain ⟨vm', X'', hst⟩ := x_catchW (ls := ls) (pc := pc) (stk := rest.map (xz t)) X' hC rfl hh hct a3 h48 hS
        have hk' := hK _ _ _ _ _ _ hk t' T'.heap (locs ++ L') ls (cells + mc) (slots + ms) hag hdm a3 hloc (h5.ag h6 a1) (h6.dm a2) (x_oks.cons hne (fun _ q => by cases q)) (by omega) (by omega)
        obtain ⟨tt, b1, b2⟩ := hk' (T'.setVm vm') rfl X''
        refine ⟨tt, hstep _ fun acts => ?_, b2⟩
        rw [doInvoke_state]
        exact hs'.trans (hst tt b1)
end XCL
end
section
/-! the sites of calls -/
section XSI
variable {M : XM} {pc : Nat}
theorem x_c1s {l : List XV} (h : l.all x_c1 = true) : ∀ v ∈ l.reverse, x_c1 v = true := fun v hv => List.all_eq_true.mp h v (List.mem_reverse.mp hv)
theorem x_take {S : XH} {st : List XV} (h : x_oks S st) (n : Nat) : x_oks S (st.take n).reverse := fun v hv => h v (List.mem_of_mem_take (List.mem_reverse.mp hv))
theorem x_drop {S : XH} {st : List XV} (h : x_oks S st) (n : Nat) : x_oks S (st.drop n) := fun v hv => h v (List.mem_of_mem_drop hv)
theorem xs_invV {ci n index N : Nat} {C : String} {T : u_T} {y : MethodName} {My : XM} {Y : XMeth} {hs : List (Nat × Nat)} (hd : decode M.2.1 pc = .ok (.invokevirtual index, 3)) (hc : x_cls[ci]? = some (C, T, N)) (hY : x_Snd y My Y) (his : x_Is y My)
    (hw : Cond.methodLink M.1 index y ∈ x_Wd ∧ Cond.instanceMethod y ∈ x_Wd ∧ Cond.selects C y y ∈ x_Wd ∧ Cond.initialized y.cls ∈ x_Wd) (hy : y.cls ≠ "java/lang/invoke/MethodHandle" ∧ y.cls ≠ "java/lang/invoke/VarHandle" ∧ (parseMethodDescriptor y.desc).map (fun d => d.parameters.length) = some n)
    (hr : n + 1 ≤ My.2.2.1 ∧ My.2.2.2.2.2.2.1 + 1 ≤ M.2.2.2.2.2.2.1 ∧ 8 + (My.2.2.1 + 11) + My.2.2.2.2.2.2.2 ≤ M.2.2.2.2.2.2.2) (hh : x_hok M pc hs) : XSnd M pc (X_invV ci Y n hs) := by
  intro G p l e R s m args below meth c P t0 S0 htr0 hC K hK L st S u w h t H locs ls cells slots h1 h2 h3 h4 h5 h6 h7 h8 h9
  unfold X_invV at h
  split at h
  · next q rest heq =>
    obtain ⟨h48, ⟨fs, e1⟩, hc1, hcs, mc, ms, hmc, hms, hrun⟩ := h
    have hts := hC.2.2.2.2.2.1
    have hd7 := x_drop h7 n
    rw [heq] at hd7
    have est : st.map (xz t) = ((st.take n).reverse.map (xz t)).reverse ++ .ref (t q.1 q.2) :: rest.map (xz t) := by
      rw [List.map_reverse, List.reverse_reverse]
      conv => lhs; rw [← List.take_append_drop n st, heq]
      rw [List.map_append]
      rfl
    have hlt : (st.take n).length = n := by
      have : n < st.length := by
        rcases Nat.lt_or_ge n st.length with z | z
        · exact z
        · rw [List.drop_eq_nil_of_le z] at heq
          cases heq
      rw [List.length_take]
      omega
    refine x_call (vs := xv_r q.1 q.2 :: (st.take n).reverse) (rest := rest) htr0 hC hY his hw.2.2.2 hd hr.2.1 hr.2.2 hh hK h1 h2 h3 h4 h5 h6 (x_oks.cons (x_some e1) (x_take h7 n)) ?_ ?_ hd7.tl hcs h8 h9 hmc hms hrun ?_
    · intro v hv
      rcases List.mem_cons.mp hv with rfl | hv
      · rfl
      · exact x_c1s hc1 v hv
    · rw [List.length_cons, List.length_reverse, hlt]
      exact hr.1
    · intro T' hT X
      obtain ⟨mk, methM, hnamed, hmethM, hstM, habM⟩ := Cond.instanceMethod_spec (hts _ hw.2.1)
      obtain ⟨mk', methM', cM, hn', hm', -, -, -, -, -, -, hsig⟩ := his args s hts
      cases hnamed.symm.trans hn'
      cases hmethM.symm.trans hm'
      obtain ⟨c2, r2, m2, q1, q2, q3, q4, kP, hkP, hkPi⟩ := Cond.selects_spec (hts _ hw.2.2.1)
      obtain ⟨r', g1, cellB, c1, cc2, c3, -⟩ := h3.1 _ _ _ h48 e1
      have hcls := (hC.2.2.2.2.2.2.1.1.1 ci _ hc).2.1
      have hcl2 : s.vm.findClass C = some cellB.cls := by rw [cc2]; exact hcls
      cases hcl2.symm.trans q1
      cases (State.methodFound?_of_named hnamed ⟨hy.1, hy.2.1⟩).symm.trans q2
      cases hnamed.symm.trans q3
      have hselP : selectMethod e.platform s.vm cellB.cls mk = .method mk := by rw [Launch.admits_selectMethod X.admits]; exact q4
      have hlen : ((st.take n).reverse.map (xz t)).length = methM.sig.parameters.length := by
        rw [List.length_map, List.length_reverse, hlt]
        have z := hy.2.2
        rw [hsig] at z
        exact (Option.some.inj z).symm
      obtain ⟨vm₁, X₁, hstep₁⟩ := X.invokevirtual hC.1 hC.2.2.2.2.1 (hts _ hw.1) hnamed hmethM hstM hkP hkPi ⟨hy.1, hy.2.1⟩ (a := t q.1 q.2) (cell := cellB) (by rw [hT]; exact c1)
        (fun z h => by rw [c3] at h; cases h) hselP hmethM habM hkP hkPi (g := F0 m pc ls (st.map (xz t))) rfl (argsL := (st.take n).reverse.map (xz t)) (rest := rest.map (xz t)) hlen est (by rw [hC.2.1]; exact hd)
      exact ⟨vm₁, mk, X₁, X₁.named hnamed, fun target h => hstep₁ _ h⟩
  · exact h.elim
theorem xs_invVN {ci n index N : Nat} {C host : String} {T : u_T} {y : MethodName} {My : XM} {Y : XMeth} {hs : List (Nat × Nat)} (hd : decode M.2.1 pc = .ok (.invokevirtual index, 3)) (hc : x_cls[ci]? = some (C, T, N)) (hY : x_Snd y My Y) (his : x_Is y My)
    (hw : Cond.methodLinkNest M.1 index y host ∈ x_Wd ∧ Cond.instanceMethod y ∈ x_Wd ∧ Cond.selects C y y ∈ x_Wd ∧ Cond.initialized y.cls ∈ x_Wd) (hy : y.cls ≠ "java/lang/invoke/MethodHandle" ∧ y.cls ≠ "java/lang/invoke/VarHandle" ∧ (parseMethodDescriptor y.desc).map (fun d => d.parameters.length) = some n)
    (hr : n + 1 ≤ My.2.2.1 ∧ My.2.2.2.2.2.2.1 + 1 ≤ M.2.2.2.2.2.2.1 ∧ 8 + (My.2.2.1 + 11) + My.2.2.2.2.2.2.2 ≤ M.2.2.2.2.2.2.2) (hh : x_hok M pc hs) : XSnd M pc (X_invV ci Y n hs) := by
  intro G p l e R s m args below meth c P t0 S0 htr0 hC K hK L st S u w h t H locs ls cells slots h1 h2 h3 h4 h5 h6 h7 h8 h9
  unfold X_invV at h
  split at h
  · next q rest heq =>
    obtain ⟨h48, ⟨fs, e1⟩, hc1, hcs, mc, ms, hmc, hms, hrun⟩ := h
    have hts := hC.2.2.2.2.2.1
    have hd7 := x_drop h7 n
    rw [heq] at hd7
    have est : st.map (xz t) = ((st.take n).reverse.map (xz t)).reverse ++ .ref (t q.1 q.2) :: rest.map (xz t) := by
      rw [List.map_reverse, List.reverse_reverse]
      conv => lhs; rw [← List.take_append_drop n st, heq]
      rw [List.map_append]
      rfl
    have hlt : (st.take n).length = n := by
      have : n < st.length := by
        rcases Nat.lt_or_ge n st.length with z | z
        · exact z
        · rw [List.drop_eq_nil_of_le z] at heq
          cases heq
      rw [List.length_take]
      omega
    refine x_call (vs := xv_r q.1 q.2 :: (st.take n).reverse) (rest := rest) htr0 hC hY his hw.2.2.2 hd hr.2.1 hr.2.2 hh hK h1 h2 h3 h4 h5 h6 (x_oks.cons (x_some e1) (x_take h7 n)) ?_ ?_ hd7.tl hcs h8 h9 hmc hms hrun ?_
    · intro v hv
      rcases List.mem_cons.mp hv with rfl | hv
      · rfl
      · exact x_c1s hc1 v hv
    · rw [List.length_cons, List.length_reverse, hlt]
      exact hr.1
    · intro T' hT X
      obtain ⟨mk, methM, hnamed, hmethM, hstM, habM⟩ := Cond.instanceMethod_spec (hts _ hw.2.1)
      obtain ⟨mk', methM', cM, hn', hm', -, -, -, -, -, -, hsig⟩ := his args s hts
      cases hnamed.symm.trans hn'
      cases hmethM.symm.trans hm'
      obtain ⟨c2, r2, m2, q1, q2, q3, q4, kP, hkP, hkPi⟩ := Cond.selects_spec (hts _ hw.2.2.1)
      obtain ⟨r', g1, cellB, c1, cc2, c3, -⟩ := h3.1 _ _ _ h48 e1
      have hcls := (hC.2.2.2.2.2.2.1.1.1 ci _ hc).2.1
      have hcl2 : s.vm.findClass C = some cellB.cls := by rw [cc2]; exact hcls
      cases hcl2.symm.trans q1
      cases (State.methodFound?_of_named hnamed ⟨hy.1, hy.2.1⟩).symm.trans q2
      cases hnamed.symm.trans q3
      have hselP : selectMethod e.platform s.vm cellB.cls mk = .method mk := by rw [Launch.admits_selectMethod X.admits]; exact q4
      have hlen : ((st.take n).reverse.map (xz t)).length = methM.sig.parameters.length := by
        rw [List.length_map, List.length_reverse, hlt]
        have z := hy.2.2
        rw [hsig] at z
        exact (Option.some.inj z).symm
      obtain ⟨vm₁, X₁, hstep₁⟩ := X.invokevirtualNest hC.1 hC.2.2.2.2.1 (hts _ hw.1) hnamed hmethM hstM hkP hkPi ⟨hy.1, hy.2.1⟩ (a := t q.1 q.2) (cell := cellB) (by rw [hT]; exact c1)
        (fun z h => by rw [c3] at h; cases h) hselP hmethM habM hkP hkPi (g := F0 m pc ls (st.map (xz t))) rfl (argsL := (st.take n).reverse.map (xz t)) (rest := rest.map (xz t)) hlen est (by rw [hC.2.1]; exact hd)
      exact ⟨vm₁, mk, X₁, X₁.named hnamed, fun target h => hstep₁ _ h⟩
  · exact h.elim
theorem xs_invS {n index : Nat} {y : MethodName} {My : XM} {Y : XMeth} {hs : List (Nat × Nat)} (hd : decode M.2.1 pc = .ok (.invokestatic index, 3)) (hY : x_Snd y My Y) (his : x_Is y My)
    (hw : Cond.methodLink M.1 index y ∈ x_Wd ∧ Cond.static y ∈ x_Wd ∧ Cond.initialized y.cls ∈ x_Wd) (hy : y.cls ≠ "java/lang/invoke/MethodHandle" ∧ y.cls ≠ "java/lang/invoke/VarHandle" ∧ (parseMethodDescriptor y.desc).map (fun d => d.parameters.length) = some n)
    (hr : n ≤ My.2.2.1 ∧ My.2.2.2.2.2.2.1 + 1 ≤ M.2.2.2.2.2.2.1 ∧ 8 + (My.2.2.1 + 11) + My.2.2.2.2.2.2.2 ≤ M.2.2.2.2.2.2.2) (hh : x_hok M pc hs) : XSnd M pc (X_invS Y n hs) := by
  intro G p l e R s m args below meth c P t0 S0 htr0 hC K hK L st S u w h t H locs ls cells slots h1 h2 h3 h4 h5 h6 h7 h8 h9
  obtain ⟨hnl, hc1, hcs, mc, ms, hmc, hms, hrun⟩ := h
  have hts := hC.2.2.2.2.2.1
  have est : st.map (xz t) = ((st.take n).reverse.map (xz t)).reverse ++ (st.drop n).map (xz t) := by
    rw [List.map_reverse, List.reverse_reverse, ← List.map_append, List.take_append_drop]
  have hlt : (st.take n).length = n := by
    rw [List.length_take]
    omega
  refine x_call (vs := (st.take n).reverse) (rest := st.drop n) htr0 hC hY his hw.2.2 hd hr.2.1 hr.2.2 hh hK h1 h2 h3 h4 h5 h6 (x_take h7 n) (x_c1s hc1) ?_ (x_drop h7 n) hcs h8 h9 hmc hms hrun ?_
  · rw [List.length_reverse, hlt]
    exact hr.1
  · intro T' hT X
    obtain ⟨mk, methM, cM, hnamed, hmethM, -, -, -, -, -, -, hsig⟩ := his args s hts
    have hstatic : methM.isStatic = true := Cond.static_spec hnamed hmethM (hts _ hw.2.1)
    obtain ⟨kP, hkP, -⟩ := className_of_methodNamed hnamed
    have hinitP : kP.init = .initialized := Cond.initialized_spec (findClass_of_methodNamed hnamed) hkP (hts _ hw.2.2)
    have hlen : ((st.take n).reverse.map (xz t)).length = methM.sig.parameters.length := by
      rw [List.length_map, List.length_reverse, hlt]
      have z := hy.2.2
      rw [hsig] at z
      exact (Option.some.inj z).symm
    obtain ⟨vm₁, X₁, hstep₁⟩ := X.invokestatic hC.1 hC.2.2.2.2.1 (hts _ hw.1) hnamed hmethM hstatic hkP hinitP ⟨hy.1, hy.2.1⟩ (g := F0 m pc ls (st.map (xz t))) rfl (argsL := (st.take n).reverse.map (xz t)) (rest := (st.drop n).map (xz t)) hlen est (by rw [hC.2.1]; exact hd)
    exact ⟨vm₁, mk, X₁, X₁.named hnamed, fun target h => hstep₁ _ h⟩
theorem xs_invSN {n index : Nat} {host : String} {y : MethodName} {My : XM} {Y : XMeth} {hs : List (Nat × Nat)} (hd : decode M.2.1 pc = .ok (.invokestatic index, 3)) (hY : x_Snd y My Y) (his : x_Is y My)
    (hw : Cond.methodLinkNest M.1 index y host ∈ x_Wd ∧ Cond.static y ∈ x_Wd ∧ Cond.initialized y.cls ∈ x_Wd) (hy : y.cls ≠ "java/lang/invoke/MethodHandle" ∧ y.cls ≠ "java/lang/invoke/VarHandle" ∧ (parseMethodDescriptor y.desc).map (fun d => d.parameters.length) = some n)
    (hr : n ≤ My.2.2.1 ∧ My.2.2.2.2.2.2.1 + 1 ≤ M.2.2.2.2.2.2.1 ∧ 8 + (My.2.2.1 + 11) + My.2.2.2.2.2.2.2 ≤ M.2.2.2.2.2.2.2) (hh : x_hok M pc hs) : XSnd M pc (X_invS Y n hs) := by
  intro G p l e R s m args below meth c P t0 S0 htr0 hC K hK L st S u w h t H locs ls cells slots h1 h2 h3 h4 h5 h6 h7 h8 h9
  obtain ⟨hnl, hc1, hcs, mc, ms, hmc, hms, hrun⟩ := h
  have hts := hC.2.2.2.2.2.1
  have est : st.map (xz t) = ((st.take n).reverse.map (xz t)).reverse ++ (st.drop n).map (xz t) := by
    rw [List.map_reverse, List.reverse_reverse, ← List.map_append, List.take_append_drop]
  have hlt : (st.take n).length = n := by
    rw [List.length_take]
    omega
  refine x_call (vs := (st.take n).reverse) (rest := st.drop n) htr0 hC hY his hw.2.2 hd hr.2.1 hr.2.2 hh hK h1 h2 h3 h4 h5 h6 (x_take h7 n) (x_c1s hc1) ?_ (x_drop h7 n) hcs h8 h9 hmc hms hrun ?_
  · rw [List.length_reverse, hlt]
    exact hr.1
  · intro T' hT X
    obtain ⟨mk, methM, cM, hnamed, hmethM, -, -, -, -, -, -, hsig⟩ := his args s hts
    have hstatic : methM.isStatic = true := Cond.static_spec hnamed hmethM (hts _ hw.2.1)
    obtain ⟨kP, hkP, -⟩ := className_of_methodNamed hnamed
    have hinitP : kP.init = .initialized := Cond.initialized_spec (findClass_of_methodNamed hnamed) hkP (hts _ hw.2.2)
    have hlen : ((st.take n).reverse.map (xz t)).length = methM.sig.parameters.length := by
      rw [List.length_map, List.length_reverse, hlt]
      have z := hy.2.2
      rw [hsig] at z
      exact (Option.some.inj z).symm
    obtain ⟨vm₁, X₁, hstep₁⟩ := X.invokestaticNest hC.1 hC.2.2.2.2.1 (hts _ hw.1) hnamed hmethM hstatic hkP hinitP ⟨hy.1, hy.2.1⟩ (g := F0 m pc ls (st.map (xz t))) rfl (argsL := (st.take n).reverse.map (xz t)) (rest := (st.drop n).map (xz t)) hlen est (by rw [hC.2.1]; exact hd)
    exact ⟨vm₁, mk, X₁, X₁.named hnamed, fun target h => hstep₁ _ h⟩
theorem xs_invI {n index nL : Nat} {y : MethodName} {cc : ByteArray} {My : XM} {Y : XMeth} {hs : List (Nat × Nat)} (hd : decode M.2.1 pc = .ok (.invokespecial index, 3)) (hY : x_Snd y My Y) (his : x_Is y My)
    (hw : Cond.methodLink M.1 index y ∈ x_Wd ∧ Cond.instanceMethod y ∈ x_Wd ∧ Cond.code y cc nL none ∈ x_Wd ∧ Cond.initialized y.cls ∈ x_Wd) (hy : y.cls ≠ "java/lang/invoke/MethodHandle" ∧ y.cls ≠ "java/lang/invoke/VarHandle" ∧ (parseMethodDescriptor y.desc).map (fun d => d.parameters.length) = some n) (hyn : y.name = "<init>")
    (hr : n + 1 ≤ My.2.2.1 ∧ My.2.2.2.2.2.2.1 + 1 ≤ M.2.2.2.2.2.2.1 ∧ 8 + (My.2.2.1 + 11) + My.2.2.2.2.2.2.2 ≤ M.2.2.2.2.2.2.2) (hh : x_hok M pc hs) : XSnd M pc (X_invI Y n hs) := by
  intro G p l e R s m args below meth c P t0 S0 htr0 hC K hK L st S u w h t H locs ls cells slots h1 h2 h3 h4 h5 h6 h7 h8 h9
  unfold X_invI at h
  split at h
  · next q rest heq =>
    obtain ⟨hc1, hcs, mc, ms, hmc, hms, hrun⟩ := h
    have hts := hC.2.2.2.2.2.1
    have hd7 := x_drop h7 n
    rw [heq] at hd7
    have est : st.map (xz t) = ((st.take n).reverse.map (xz t)).reverse ++ .ref (t q.1 q.2) :: rest.map (xz t) := by
      rw [List.map_reverse, List.reverse_reverse]
      conv => lhs; rw [← List.take_append_drop n st, heq]
      rw [List.map_append]
      rfl
    have hlt : (st.take n).length = n := by
      have : n < st.length := by
        rcases Nat.lt_or_ge n st.length with z | z
        · exact z
        · rw [List.drop_eq_nil_of_le z] at heq
          cases heq
      rw [List.length_take]
      omega
    refine x_call (vs := xv_r q.1 q.2 :: (st.take n).reverse) (rest := rest) htr0 hC hY his hw.2.2.2 hd hr.2.1 hr.2.2 hh hK h1 h2 h3 h4 h5 h6 (x_oks.cons hd7.hd (x_take h7 n)) ?_ ?_ hd7.tl hcs h8 h9 hmc hms hrun ?_
    · intro v hv
      rcases List.mem_cons.mp hv with rfl | hv
      · rfl
      · exact x_c1s hc1 v hv
    · rw [List.length_cons, List.length_reverse, hlt]
      exact hr.1
    · intro T' hT X
      have hpl : e.platform.magicAccessors = ({} : Platform).magicAccessors := by rw [X.admits.platform]
      have hlen : ∀ sig, parseMethodDescriptor y.desc = some sig → ((st.take n).reverse.map (xz t)).length = sig.parameters.length := fun sig hsig => by
        rw [List.length_map, List.length_reverse, hlt]
        have z := hy.2.2
        rw [hsig] at z
        exact (Option.some.inj z).symm
      obtain ⟨mk, methM, cM, kP, vm₁, hnamed, hmethM, hcodeM, -, hlocalsM, -, hkP, -, hW₁, hstep₁⟩ := Steps.initColdArgs (e := e) X.here hC.1 X.warmed hpl hC.2.2.2.2.1 hyn ⟨hy.1, hy.2.1⟩ (hts _ hw.1) (hts _ hw.2.1) (hts _ hw.2.2.1) (f := F0 m pc ls (st.map (xz t))) rfl hlen est (by rw [hC.2.1]; exact hd)
      exact ⟨vm₁, mk, X.noted hW₁, (X.noted hW₁).named hnamed, fun target h => hstep₁ _ h⟩
  · exact h.elim
theorem xs_invIN {n index nL : Nat} {host : String} {y : MethodName} {cc : ByteArray} {My : XM} {Y : XMeth} {hs : List (Nat × Nat)} (hd : decode M.2.1 pc = .ok (.invokespecial index, 3)) (hY : x_Snd y My Y) (his : x_Is y My)
    (hw : Cond.methodLinkNest M.1 index y host ∈ x_Wd ∧ Cond.instanceMethod y ∈ x_Wd ∧ Cond.code y cc nL none ∈ x_Wd ∧ Cond.initialized y.cls ∈ x_Wd) (hy : y.cls ≠ "java/lang/invoke/MethodHandle" ∧ y.cls ≠ "java/lang/invoke/VarHandle" ∧ (parseMethodDescriptor y.desc).map (fun d => d.parameters.length) = some n) (hyn : y.name = "<init>")
    (hr : n + 1 ≤ My.2.2.1 ∧ My.2.2.2.2.2.2.1 + 1 ≤ M.2.2.2.2.2.2.1 ∧ 8 + (My.2.2.1 + 11) + My.2.2.2.2.2.2.2 ≤ M.2.2.2.2.2.2.2) (hh : x_hok M pc hs) : XSnd M pc (X_invI Y n hs) := by
  intro G p l e R s m args below meth c P t0 S0 htr0 hC K hK L st S u w h t H locs ls cells slots h1 h2 h3 h4 h5 h6 h7 h8 h9
  unfold X_invI at h
  split at h
  · next q rest heq =>
    obtain ⟨hc1, hcs, mc, ms, hmc, hms, hrun⟩ := h
    have hts := hC.2.2.2.2.2.1
    have hd7 := x_drop h7 n
    rw [heq] at hd7
    have est : st.map (xz t) = ((st.take n).reverse.map (xz t)).reverse ++ .ref (t q.1 q.2) :: rest.map (xz t) := by
      rw [List.map_reverse, List.reverse_reverse]
      conv => lhs; rw [← List.take_append_drop n st, heq]
      rw [List.map_append]
      rfl
    have hlt : (st.take n).length = n := by
      have : n < st.length := by
        rcases Nat.lt_or_ge n st.length with z | z
        · exact z
        · rw [List.drop_eq_nil_of_le z] at heq
          cases heq
      rw [List.length_take]
      omega
    refine x_call (vs := xv_r q.1 q.2 :: (st.take n).reverse) (rest := rest) htr0 hC hY his hw.2.2.2 hd hr.2.1 hr.2.2 hh hK h1 h2 h3 h4 h5 h6 (x_oks.cons hd7.hd (x_take h7 n)) ?_ ?_ hd7.tl hcs h8 h9 hmc hms hrun ?_
    · intro v hv
      rcases List.mem_cons.mp hv with rfl | hv
      · rfl
      · exact x_c1s hc1 v hv
    · rw [List.length_cons, List.length_reverse, hlt]
      exact hr.1
    · intro T' hT X
      have hpl : e.platform.magicAccessors = ({} : Platform).magicAccessors := by rw [X.admits.platform]
      have hlen : ∀ sig, parseMethodDescriptor y.desc = some sig → ((st.take n).reverse.map (xz t)).length = sig.parameters.length := fun sig hsig => by
        rw [List.length_map, List.length_reverse, hlt]
        have z := hy.2.2
        rw [hsig] at z
        exact (Option.some.inj z).symm
      obtain ⟨mk, methM, cM, kP, vm₁, hnamed, hmethM, hcodeM, -, hlocalsM, -, hkP, -, hW₁, hstep₁⟩ := Steps.initColdArgsNest (e := e) X.here hC.1 X.warmed hpl hC.2.2.2.2.1 hyn ⟨hy.1, hy.2.1⟩ (hts _ hw.1) (hts _ hw.2.1) (hts _ hw.2.2.1) (f := F0 m pc ls (st.map (xz t))) rfl hlen est (by rw [hC.2.1]; exact hd)
      exact ⟨vm₁, mk, X.noted hW₁, (X.noted hW₁).named hnamed, fun target h => hstep₁ _ h⟩
  · exact h.elim
theorem xs_obj {index : Nat} (hd : decode M.2.1 pc = .ok (.invokespecial index, 3)) (hw : Cond.methodLink M.1 index Lib.objectInit ∈ x_Wd ∧ Cond.instanceMethod Lib.objectInit ∈ x_Wd ∧ Cond.code Lib.objectInit ⟨#[0xb1]⟩ 1 none ∈ x_Wd) (hr : 1 ≤ M.2.2.2.2.2.2.1 ∧ 20 ≤ M.2.2.2.2.2.2.2) : XSnd M pc X_obj := by
  intro G p l e R s m args below meth c P t0 S0 htr0 hC K hK L st S u w h t H locs ls cells slots h1 h2 h3 h4 h5 h6 h7 h8 h9
  unfold X_obj at h
  split at h
  · have hts := hC.2.2.2.2.2.1
    refine W.objInit hC.1 hC.2.1 hC.2.2.2.2.1 (hts _ hw.1) (hts _ hw.2.1) (hts _ hw.2.2) rfl (by rw [hC.2.2.1]; exact h5.1.1) rfl hd (Nat.le_trans hr.1 hC.2.2.2.2.2.2.2.2.2.2.1) ?_ (hK _ _ _ _ _ _ h.2 t H locs ls cells slots h1 h2 h3 h4 h5 h6 h7.tl h8 h9)
    show 2 * 0 + _ + 12 ≤ _
    rw [x_cs_cat]
    have := Nat.le_trans hr.2 hC.2.2.2.2.2.2.2.2.2.2.2
    omega
  · exact h.elim
end XSI
end
section
/-! every instruction is monotone in what comes behind it -/
theorem xm_push {v : XV} {n : Nat} : XMon (X_push v n) := by
  intro K K' P P' pc L st S u w hK hP h
  exact hK _ _ _ _ _ _ h
theorem xm_goto {n : Nat} : XMon (X_goto n) := by
  intro K K' P P' pc L st S u w hK hP h
  exact hK _ _ _ _ _ _ h
theorem xm_iload {i n : Nat} : XMon (X_iload i n) := by
  intro K K' P P' pc L st S u w hK hP h
  unfold X_iload at h ⊢
  split at h
  · next x hq =>
        exact hK _ _ _ _ _ _ h
  · exact h.elim
theorem xm_aload {i n : Nat} : XMon (X_aload i n) := by
  intro K K' P P' pc L st S u w hK hP h
  unfold X_aload at h ⊢
  split at h
  · next x hq =>
        exact hK _ _ _ _ _ _ h
  · exact h.elim
theorem xm_iinc {i : Nat} {d : Int32} : XMon (X_iinc i d) := by
  intro K K' P P' pc L st S u w hK hP h
  unfold X_iinc at h ⊢
  split at h
  · next x hq =>
        exact hK _ _ _ _ _ _ h
  · exact h.elim
theorem xm_istore {i n : Nat} : XMon (X_istore i n) := by
  intro K K' P P' pc L st S u w hK hP h
  unfold X_istore at h ⊢
  split at h
  · exact hK _ _ _ _ _ _ h
  · exact h.elim
theorem xm_astore {i n : Nat} : XMon (X_astore i n) := by
  intro K K' P P' pc L st S u w hK hP h
  unfold X_astore at h ⊢
  split at h
  · exact hK _ _ _ _ _ _ h
  · exact h.elim
theorem xm_bin {f : Int32 → Int32 → Int32} : XMon (X_bin f) := by
  intro K K' P P' pc L st S u w hK hP h
  unfold X_bin at h ⊢
  split at h
  · exact hK _ _ _ _ _ _ h
  · exact h.elim
theorem xm_div  : XMon (X_div) := by
  intro K K' P P' pc L st S u w hK hP h
  unfold X_div at h ⊢
  split at h
  · exact ⟨h.1, hK _ _ _ _ _ _ h.2⟩
  · exact h.elim
theorem xm_rem  : XMon (X_rem) := by
  intro K K' P P' pc L st S u w hK hP h
  unfold X_rem at h ⊢
  split at h
  · exact ⟨h.1, hK _ _ _ _ _ _ h.2⟩
  · exact h.elim
theorem xm_un {f : Int32 → Int32} : XMon (X_un f) := by
  intro K K' P P' pc L st S u w hK hP h
  unfold X_un at h ⊢
  split at h
  · exact hK _ _ _ _ _ _ h
  · exact h.elim
theorem xm_i2l  : XMon (X_i2l) := by
  intro K K' P P' pc L st S u w hK hP h
  unfold X_i2l at h ⊢
  split at h
  · exact hK _ _ _ _ _ _ h
  · exact h.elim
theorem xm_lcmp  : XMon (X_lcmp) := by
  intro K K' P P' pc L st S u w hK hP h
  unfold X_lcmp at h ⊢
  split at h
  · exact hK _ _ _ _ _ _ h
  · exact h.elim
theorem xm_if {f : Int32 → Prop} {n : Nat} : XMon (X_if f n) := by
  intro K K' P P' pc L st S u w hK hP h
  unfold X_if at h ⊢
  split at h
  · exact ⟨fun q => hK _ _ _ _ _ _ (h.1 q), fun q => hK _ _ _ _ _ _ (h.2 q)⟩
  · exact h.elim
theorem xm_icmp {f : Int32 → Int32 → Prop} {n : Nat} : XMon (X_icmp f n) := by
  intro K K' P P' pc L st S u w hK hP h
  unfold X_icmp at h ⊢
  split at h
  · exact ⟨fun q => hK _ _ _ _ _ _ (h.1 q), fun q => hK _ _ _ _ _ _ (h.2 q)⟩
  · exact h.elim
theorem xm_acmp {f : Prop → Prop} {n : Nat} : XMon (X_acmp f n) := by
  intro K K' P P' pc L st S u w hK hP h
  unfold X_acmp at h ⊢
  split at h
  · exact ⟨h.1, fun q => hK _ _ _ _ _ _ (h.2.1 q), fun q => hK _ _ _ _ _ _ (h.2.2 q)⟩
  · exact h.elim
theorem xm_vret  : XMon (X_vret) := by
  intro K K' P P' pc L st S u w hK hP h
  unfold X_vret at h ⊢
  split at h
  · exact hP _ _ h
  · exact h.elim
theorem xm_iret  : XMon (X_iret) := by
  intro K K' P P' pc L st S u w hK hP h
  unfold X_iret at h ⊢
  split at h
  · exact hP _ _ h
  · exact h.elim
theorem xm_zret  : XMon (X_zret) := by
  intro K K' P P' pc L st S u w hK hP h
  unfold X_zret at h ⊢
  split at h
  · exact ⟨h.1, hP _ _ h.2⟩
  · exact h.elim
theorem xm_aret  : XMon (X_aret) := by
  intro K K' P P' pc L st S u w hK hP h
  unfold X_aret at h ⊢
  split at h
  · exact hP _ _ h
  · exact h.elim
theorem xm_get {c k : Nat} : XMon (X_get c k) := by
  intro K K' P P' pc L st S u w hK hP h
  unfold X_get at h ⊢
  split at h
  · obtain ⟨e0, fs, v, e1, e2, h⟩ := h
    exact ⟨e0, fs, v, e1, e2, hK _ _ _ _ _ _ h⟩
  · exact h.elim
theorem xm_put {f : XV → Prop} {c k : Nat} : XMon (X_put f c k) := by
  intro K K' P P' pc L st S u w hK hP h
  unfold X_put at h ⊢
  split at h
  · obtain ⟨h0, fs, e1, e2, e3, h⟩ := h
    exact ⟨h0, fs, e1, e2, e3, hK _ _ _ _ _ _ h⟩
  · exact h.elim
theorem xm_newa {q b n : Nat} {z : XA} : XMon (X_newa q b z n) := by
  intro K K' P P' pc L st S u w hK hP h
  unfold X_newa at h ⊢
  split at h
  · obtain ⟨a1, a2, a3, a4, k, i, e1, e2, h⟩ := h
    exact ⟨a1, a2, a3, a4, k, i, e1, e2, hK _ _ _ _ _ _ h⟩
  · exact h.elim
theorem xm_ald {q : Nat} : XMon (X_ald q) := by
  intro K K' P P' pc L st S u w hK hP h
  unfold X_ald at h ⊢
  split at h
  · obtain ⟨n, f, e1, e2, h⟩ := h
    exact ⟨n, f, e1, e2, hK _ _ _ _ _ _ h⟩
  · exact h.elim
theorem xm_lald {q : Nat} : XMon (X_lald q) := by
  intro K K' P P' pc L st S u w hK hP h
  unfold X_lald at h ⊢
  split at h
  · obtain ⟨e0, n, f, e1, e2, h⟩ := h
    exact ⟨e0, n, f, e1, e2, hK _ _ _ _ _ _ h⟩
  · exact h.elim
theorem xm_aald {q : Nat} : XMon (X_aald q) := by
  intro K K' P P' pc L st S u w hK hP h
  unfold X_aald at h ⊢
  split at h
  · obtain ⟨e0, n, f, e1, e2, h⟩ := h
    exact ⟨e0, n, f, e1, e2, hK _ _ _ _ _ _ h⟩
  · exact h.elim
theorem xm_alen  : XMon (X_alen) := by
  intro K K' P P' pc L st S u w hK hP h
  unfold X_alen at h ⊢
  split at h
  · obtain ⟨q, n, z, e1, e2, h⟩ := h
    exact ⟨q, n, z, e1, e2, hK _ _ _ _ _ _ h⟩
  · exact h.elim
theorem xm_ast {q : Nat} {g : Int32 → Int32} : XMon (X_ast q g) := by
  intro K K' P P' pc L st S u w hK hP h
  unfold X_ast at h ⊢
  split at h
  · obtain ⟨n, f, e1, e2, e3, h⟩ := h
    exact ⟨n, f, e1, e2, e3, hK _ _ _ _ _ _ h⟩
  · exact h.elim
theorem xm_last {q : Nat} : XMon (X_last q) := by
  intro K K' P P' pc L st S u w hK hP h
  unfold X_last at h ⊢
  split at h
  · obtain ⟨n, f, e1, e2, e3, h⟩ := h
    exact ⟨n, f, e1, e2, e3, hK _ _ _ _ _ _ h⟩
  · exact h.elim
theorem xm_aast {q c : Nat} : XMon (X_aast q c) := by
  intro K K' P P' pc L st S u w hK hP h
  unfold X_aast at h ⊢
  split at h
  · obtain ⟨n, f, fs, e1, e2, e3, e4, e5, h⟩ := h
    exact ⟨n, f, fs, e1, e2, e3, e4, e5, hK _ _ _ _ _ _ h⟩
  · exact h.elim
theorem xm_obj  : XMon (X_obj) := by
  intro K K' P P' pc L st S u w hK hP h
  unfold X_obj at h ⊢
  split at h
  · exact ⟨h.1, hK _ _ _ _ _ _ h.2⟩
  · exact h.elim
theorem xm_ifnull {n : Nat} : XMon (X_ifnull n) := by
  intro K K' P P' pc L st S u w hK hP h
  unfold X_ifnull at h ⊢
  split at h
  · exact hK _ _ _ _ _ _ h
  · exact hK _ _ _ _ _ _ h
  · exact h.elim
theorem xm_ifnonnull {n : Nat} : XMon (X_ifnonnull n) := by
  intro K K' P P' pc L st S u w hK hP h
  unfold X_ifnonnull at h ⊢
  split at h
  · exact hK _ _ _ _ _ _ h
  · exact hK _ _ _ _ _ _ h
  · exact h.elim
theorem xm_dup : XMon X_dup := by
  intro K K' P P' pc L st S u w hK hP h
  unfold X_dup at h ⊢
  split at h
  · split at h
    · next hq =>
            exact hK _ _ _ _ _ _ h
    · exact h.elim
  · exact h.elim
theorem xm_pop : XMon X_pop := by
  intro K K' P P' pc L st S u w hK hP h
  unfold X_pop at h ⊢
  split at h
  · split at h
    · next hq =>
            exact hK _ _ _ _ _ _ h
    · exact h.elim
  · exact h.elim
theorem xm_dup_x1 : XMon X_dup_x1 := by
  intro K K' P P' pc L st S u w hK hP h
  unfold X_dup_x1 at h ⊢
  split at h
  · split at h
    · next hq =>
            exact hK _ _ _ _ _ _ h
    · exact h.elim
  · exact h.elim
theorem xm_dup_x2 : XMon X_dup_x2 := by
  intro K K' P P' pc L st S u w hK hP h
  unfold X_dup_x2 at h ⊢
  split at h
  · split at h
    · next hq =>
            exact hK _ _ _ _ _ _ h
    · exact h.elim
  · exact h.elim
theorem xm_dup2 : XMon X_dup2 := by
  intro K K' P P' pc L st S u w hK hP h
  unfold X_dup2 at h ⊢
  split at h
  · split at h
    · next hq =>
            exact hK _ _ _ _ _ _ h
    · exact h.elim
  · exact h.elim
theorem xm_new {c n : Nat} {d : List XV} : XMon (X_new c n d) := by
  intro K K' P P' pc L st S u w hK hP h
  obtain ⟨a1, a2, k, i, e1, e2, h⟩ := h
  exact ⟨a1, a2, k, i, e1, e2, hK _ _ _ _ _ _ h⟩
def x_Ymn (Y : XMeth) : Prop := ∀ (mc ms : Nat) (vs : List XV) (S : XH) (P P' : XP), (∀ r S, P r S → P' r S) → Y mc ms vs S P → Y mc ms vs S P'
theorem x_ymn_of {nL : Nat} {b : XB} (hb : x_bmn b) : x_Ymn (x_do nL b) := fun _ _ _ _ _ _ hP h => x_go.mono hb hP h
theorem x_aft_mono {K K' : XK} {P P' : XP} {hs : List (Nat × Nat)} {pc : Nat} {L : List (Option XV)} {rest : List XV} {u w : Nat} (hK : ∀ pc L st S u w, K pc L st S u w → K' pc L st S u w) (hP : ∀ r S, P r S → P' r S) : ∀ r S, x_aft K P hs pc L rest u w r S → x_aft K' P' hs pc L rest u w r S := by
  intro r S h
  cases r with
  | inl v => exact hK _ _ _ _ _ _ h
  | inr q => cases hs with
    | nil => exact hP _ _ h
    | cons a b =>
      obtain ⟨ci, fs, h', e1, e2, e3, k⟩ := h
      exact ⟨ci, fs, h', e1, e2, e3, hK _ _ _ _ _ _ k⟩
theorem xm_invS {Y : XMeth} (hY : x_Ymn Y) {n : Nat} {hs : List (Nat × Nat)} : XMon (X_invS Y n hs) := by
  intro K K' P P' pc L st S u w hK hP h
  obtain ⟨a1, a2, a3, mc, ms, e1, e2, h⟩ := h
  exact ⟨a1, a2, a3, mc, ms, e1, e2, hY _ _ _ _ _ _ (x_aft_mono hK hP) h⟩
theorem xm_invI {Y : XMeth} (hY : x_Ymn Y) {n : Nat} {hs : List (Nat × Nat)} : XMon (X_invI Y n hs) := by
  intro K K' P P' pc L st S u w hK hP h
  unfold X_invI at h ⊢
  split at h
  · next q rest heq =>
    try rw [heq]
    obtain ⟨a2, a3, mc, ms, e1, e2, h⟩ := h
    exact ⟨a2, a3, mc, ms, e1, e2, hY _ _ _ _ _ _ (x_aft_mono hK hP) h⟩
  · exact h.elim
theorem xm_invV {ci : Nat} {Y : XMeth} (hY : x_Ymn Y) {n : Nat} {hs : List (Nat × Nat)} : XMon (X_invV ci Y n hs) := by
  intro K K' P P' pc L st S u w hK hP h
  unfold X_invV at h ⊢
  split at h
  · next q rest heq =>
    try rw [heq]
    obtain ⟨a0, a1, a2, a3, mc, ms, e1, e2, h⟩ := h
    exact ⟨a0, a1, a2, a3, mc, ms, e1, e2, hY _ _ _ _ _ _ (x_aft_mono hK hP) h⟩
  · exact h.elim
end
section
/-! switches; statics; Math.min -/
def x_swk (K : Nat → Prop) (d : Nat) (x : Int) (tab : List (Int × Nat)) : Prop := match tab with
  | [] => K d
  | q :: r => (x = q.1 → K q.2) ∧ (¬ x = q.1 → x_swk K d x r)
def X_sw (tab : List (Int × Nat)) (d : Nat) : XI := fun K _ _ L st S u w => match st with
  | .inl x :: r => x_swk (fun tgt => K tgt L r S u w) d x.toInt tab
  | _ => False
theorem x_swk_mono {K K' : Nat → Prop} {d : Nat} {x : Int} (h : ∀ n, K n → K' n) : ∀ {tab : List (Int × Nat)}, x_swk K d x tab → x_swk K' d x tab
  | [], q => h _ q
  | _ :: _, q => ⟨fun z => h _ (q.1 z), fun z => x_swk_mono h (q.2 z)⟩
theorem xm_sw {tab : List (Int × Nat)} {d : Nat} : XMon (X_sw tab d) := by
  intro K K' P P' pc L st S u w hK hP h
  unfold X_sw at h ⊢
  split at h
  · exact x_swk_mono (fun _ q => hK _ _ _ _ _ _ q) h
  · exact h.elim
theorem x_swk_split {K : Nat → Prop} {d : Nat} {x : Int} : ∀ {tab : List (Int × Nat)}, x_swk K d x tab → (∃ q ∈ tab, x = q.1 ∧ K q.2) ∨ ((∀ q ∈ tab, ¬ x = q.1) ∧ K d)
  | [], h => Or.inr ⟨fun _ q => (by cases q), h⟩
  | a :: r, h => by
    by_cases e : x = a.1
    · exact Or.inl ⟨a, List.mem_cons_self, e, h.1 e⟩
    · rcases x_swk_split (h.2 e) with ⟨q, q1, q2⟩ | ⟨q1, q2⟩
      · exact Or.inl ⟨q, List.mem_cons_of_mem _ q1, q2⟩
      · refine Or.inr ⟨fun z hz => ?_, q2⟩
        rcases List.mem_cons.mp hz with rfl | hz
        · exact e
        · exact q1 z hz
section XSW
variable {M : XM} {pc : Nat}
theorem xs_tsw {dflt lo hi : Int} {offs : Array Int} {len d : Nat} {tab : List (Int × Nat)} (hd : decode M.2.1 pc = .ok (.tableswitch dflt lo hi offs, len)) (hdf : (pc : Int) + dflt = (d : Int)) (ht : ∀ q ∈ tab, lo ≤ q.1 ∧ q.1 ≤ hi ∧ (offs[(q.1 - lo).toNat]?).map (fun o => (pc : Int) + o) = some (q.2 : Int)) (hall : ∀ v : Int, lo ≤ v → v ≤ hi → ∃ q ∈ tab, v = q.1) : XSnd M pc (X_sw tab d) := by
  intro G p l e R s m args below meth c P t0 S0 htr0 hC K hK L st S u w h t H locs ls cells slots h1 h2 h3 h4 h5 h6 h7 h8 h9
  unfold X_sw at h
  split at h
  · next x r =>
    rcases x_swk_split h with ⟨q, q1, q2, q3⟩ | ⟨q1, q2⟩
    · obtain ⟨a1, a2, a3⟩ := ht q q1
      cases ho : offs[(q.1 - lo).toNat]? with
      | none => rw [ho] at a3; cases a3
      | some o =>
        rw [ho] at a3
        exact lv_tableIn hC.1 hC.2.1 hd (by omega) (by omega) (off := o) (by rw [q2]; exact ho) (Option.some.inj a3) (hK _ _ _ _ _ _ q3 t H locs ls cells slots h1 h2 h3 h4 h5 h6 h7.tl h8 h9)
    · refine lv_tableOut hC.1 hC.2.1 hd ?_ hdf (hK _ _ _ _ _ _ q2 t H locs ls cells slots h1 h2 h3 h4 h5 h6 h7.tl h8 h9)
      by_cases z1 : x.toInt < lo
      · exact Or.inl z1
      · by_cases z2 : hi < x.toInt
        · exact Or.inr z2
        · obtain ⟨q, hq, e⟩ := hall x.toInt (by omega) (by omega)
          exact absurd e (q1 q hq)
  · exact h.elim
end XSW
end
section
/-! statics, read-only objects, casts, arrays of Object, throwing -/
def X_bad : XI := fun _ _ _ _ _ _ _ _ => False
theorem xm_bad : XMon X_bad := fun _ _ _ _ _ _ _ _ _ _ _ _ h => h.elim
def X_getE (ci j : Nat) : XI := fun K _ pc L st S u w => match st with
  | .inr (.inr (some q)) :: r => ¬ q.1 < 48 ∧ ∃ fs v, S q.1 q.2 = some (.inl (ci, fs)) ∧ fs[j]? = some v ∧ K (pc + 3) L (v :: r) S u w
  | _ => False
theorem xm_getE {ci j : Nat} : XMon (X_getE ci j) := by
  intro K K' P P' pc L st S u w hK hP h
  unfold X_getE at h ⊢
  split at h
  · obtain ⟨e0, fs, v, e1, e2, h⟩ := h
    exact ⟨e0, fs, v, e1, e2, hK _ _ _ _ _ _ h⟩
  · exact h.elim
/-- a cast that succeeds: of null, or of an object of class ci -/
def X_cast (ci : Nat) : XI := fun K _ pc L st S u w => match st with
  | .inr (.inr none) :: r => K (pc + 3) L (.inr (.inr none) :: r) S u w
  | .inr (.inr (some q)) :: r => q.1 < 48 ∧ (∃ fs, S q.1 q.2 = some (.inl (ci, fs))) ∧ K (pc + 3) L (.inr (.inr (some q)) :: r) S u w
  | _ => False
theorem xm_cast {ci : Nat} : XMon (X_cast ci) := by
  intro K K' P P' pc L st S u w hK hP h
  unfold X_cast at h ⊢
  split at h
  · exact hK _ _ _ _ _ _ h
  · exact ⟨h.1, h.2.1, hK _ _ _ _ _ _ h.2.2⟩
  · exact h.elim
def X_tn (ci : Nat) : XI := fun _ P _ _ st S u w => x_cs st ≤ 8 ∧ 1 ≤ u ∧ 6 ≤ w ∧ ∃ k i, k < 48 ∧ S k i = none ∧ P (.inr (k, i)) (x_up S k i (.inl (ci, [])))
theorem xm_tn {ci : Nat} : XMon (X_tn ci) := by
  intro K K' P P' pc L st S u w hK hP h
  obtain ⟨a0, a1, a2, k, i, e1, e2, h⟩ := h
  exact ⟨a0, a1, a2, k, i, e1, e2, hP _ _ h⟩
/-- Math.min, Math.max -/
def X_mm (f : Int32 → Int32 → Int32) : XI := fun K _ pc L st S u w => match st with
  | .inl y :: .inl x :: r => x_cs r ≤ 8 ∧ K (pc + 3) L (.inl (f x y) :: r) S u w
  | _ => False
theorem xm_mm {f : Int32 → Int32 → Int32} : XMon (X_mm f) := by
  intro K K' P P' pc L st S u w hK hP h
  unfold X_mm at h ⊢
  split at h
  · exact ⟨h.1, hK _ _ _ _ _ _ h.2⟩
  · exact h.elim
section XRO
variable {M : XM} {pc : Nat}
theorem xs_bad : XSnd M pc X_bad := fun _ _ _ _ _ _ _ _ _ _ _ _ _ _ _ _ _ _ _ _ _ _ _ h => h.elim
theorem xs_gets {C n d ref : String} {v : XV} {index : Nat} (hd : decode M.2.1 pc = .ok (.getstatic index, 3)) (hq : (C, n, d, v) ∈ x_sts) (hl : Cond.fieldLink M.1 index ref n d ∈ x_Wd) (hs : x_same ref C n d) : XSnd M pc (X_push v 3) := by
  intro G p l e R s m args below meth c P t0 S0 htr0 hC K hK L st S u w h t H locs ls cells slots h1 h2 h3 h4 h5 h6 h7 h8 h9
  have hX := hC.2.2.2.2.2.2.1.2.2
  obtain ⟨q1, q2⟩ := hX.2.2.1 _ hq
  have hnw : x_nw v := by
    rcases v with x | x | r
    · trivial
    · trivial
    · cases r with
      | none => trivial
      | some r => exact (q2 r.1 r.2 rfl).1
  have hok : x_ok S v := by
    rcases v with x | x | r
    · trivial
    · trivial
    · cases r with
      | none => trivial
      | some r =>
        obtain ⟨a1, a2⟩ := q2 r.1 r.2 rfl
        show S r.1 r.2 ≠ none
        rw [(h3.2.2.2.2.2.2 r.1 r.2 a1).1]
        exact a2
  have kk := hK _ _ _ _ _ _ h t H locs ls cells slots h1 h2 h3 h4 h5 h6 (x_oks.cons hok h7) h8 h9
  rw [List.map_cons, x_nw_z h3 hnw hok] at kk
  obtain ⟨cf, kf, fi, f, a, cell, z1, z2, z3, z4, z5, z6, z7, z8⟩ := va_Z.kept q1 (x_hq hX h3)
  exact W.gets hC.1 hC.2.1 hC.2.2.2.2.1 (hC.2.2.2.2.2.1 _ hl) (hs.use hC.2.2.2.2.2.1 _ z1) z2 z3 z4 z5 (fun e => by rw [e] at z6; cases z6) z7 rfl hd kk
theorem xs_getE {ci j index : Nat} {o n d ref : String} (hd : decode M.2.1 pc = .ok (.getfield index, 3)) (hf : x_rof ci j = some (o, n, d)) (hl : Cond.fieldLink M.1 index ref n d ∈ x_Wd) (hs : x_same ref o n d) : XSnd M pc (X_getE ci j) := by
  intro G p l e R s m args below meth c P t0 S0 htr0 hC K hK L st S u w h t H locs ls cells slots h1 h2 h3 h4 h5 h6 h7 h8 h9
  unfold X_getE at h
  split at h
  · next q r =>
    obtain ⟨h48, fs, v, e1, e2, h⟩ := h
    have hX := hC.2.2.2.2.2.2.1.2.2
    obtain ⟨z1, z2⟩ := h3.2.2.2.2.2.2 _ _ h48
    obtain ⟨y1, y2, y3⟩ := hX.2.1 _ _ _ _ h48 (z1.symm.trans e1)
    have hok : x_ok S v := x_okf h3 e1 e2
    have kk := hK _ _ _ _ _ _ h t H locs ls cells slots h1 h2 h3 h4 h5 h6 (x_oks.cons hok h7.tl) h8 h9
    rw [List.map_cons, x_nw_z h3 (y2 v (List.mem_of_getElem? e2)) hok] at kk
    obtain ⟨cf, k, fi, f, cell, c1, c2, c3, c4, c5, c6⟩ := (y3 j o n d v hf e2).kept (x_hq hX h3)
    have ea : t q.1 q.2 = G.2.2.2.2.1 q.1 q.2 := (z2 (x_some e1)).1
    show W p l e R s m args below meth c H locs cells slots _ (F0 m pc ls (.ref (t q.1 q.2) :: r.map (xz t)))
    rw [ea]
    exact W.getf hC.1 hC.2.1 hC.2.2.2.2.1 (hC.2.2.2.2.2.1 _ hl) (hs.use hC.2.2.2.2.2.1 _ c1) c2 c3 c4 c5 rfl rfl hd kk
  · exact h.elim
theorem xs_cast {ci index N : Nat} {C nm : String} {T : u_T} (hd : decode M.2.1 pc = .ok (.checkcast index, 3)) (hc : x_cls[ci]? = some (C, T, N)) (hl : Cond.classLink M.1 index nm ∈ x_Wd) (hca : Cond.castable C nm ∈ x_Wd) : XSnd M pc (X_cast ci) := by
  intro G p l e R s m args below meth c P t0 S0 htr0 hC K hK L st S u w h t H locs ls cells slots h1 h2 h3 h4 h5 h6 h7 h8 h9
  unfold X_cast at h
  split at h
  · exact lv_castN hC.1 hC.2.1 hd (hK _ _ _ _ _ _ h t H locs ls cells slots h1 h2 h3 h4 h5 h6 h7 h8 h9)
  · next q r =>
    obtain ⟨h48, ⟨fs, e1⟩, h⟩ := h
    obtain ⟨r', g1, cellB, c1, cc2, c3, -⟩ := h3.1 _ _ _ h48 e1
    have hcls := (hC.2.2.2.2.2.2.1.1.1 ci _ hc).2.1
    exact va_castY hC.1 hC.2.1 hC.2.2.2.2.1 (hC.2.2.2.2.2.1 _ hl) (C := C) (va_Nw.of rfl (hC.2.2.2.2.2.1 _ hca)) ⟨cellB, c1, by rw [c3]; rfl, by rw [cc2]; exact hcls⟩ hd (hK _ _ _ _ _ _ h t H locs ls cells slots h1 h2 h3 h4 h5 h6 h7 h8 h9)
  · exact h.elim
/-- a reference into an array of Object -/
theorem xs_aastO {q ci N : Nat} {C E : String} {T : u_T} (hd : decode M.2.1 pc = .ok (.aastore, 1)) (hq : x_tys[q]? = some (.object E)) (hc : x_cls[ci]? = some (C, T, N)) (hca : Cond.castable C E ∈ x_Wd) : XSnd M pc (X_aast q ci) := by
  intro G p l e R s m args below meth c P t0 S0 htr0 hC K hK L st S u w h t H locs ls cells slots h1 h2 h3 h4 h5 h6 h7 h8 h9
  unfold X_aast at h
  split at h
  · next v j a r =>
    obtain ⟨n, f, fs, e1, e2, hk, hkv, hj, h⟩ := h
    have hlt : j.toNatClampNeg < n := Nat.not_le.mp fun q => hj (Or.inr q)
    have h0 : ¬ j < 0 := fun q => hj (Or.inl q)
    obtain ⟨r', hr', cellV, c1, c2, c3, -⟩ := h3.1 _ _ _ hkv e2
    have hcls := (hC.2.2.2.2.2.2.1.1.1 ci _ hc).2
    obtain ⟨kA, comp, k1, k2, k3, -⟩ := (hC.2.2.2.2.2.2.1.2.1 q _ hq).2
    obtain ⟨kE, hkE, -⟩ := Vm.findClass_spec k3
    obtain ⟨x0, x1, f1, f2, f3⟩ := Cond.castable_spec (hC.2.2.2.2.2.1 _ hca)
    cases hcls.1.symm.trans f1
    cases k3.symm.trans f2
    obtain ⟨kC, hkC, -⟩ := hcls.2
    refine W.aast hC.1 hC.2.1 (h3.1 _ _ _ hk e1) (fun q h => by cases h) (fun h => by cases h) k1 k2 rfl hkE ⟨h0, by show _ < (arrV _ _ _).slots.size; rw [arrV_size]; exact hlt⟩ c1 (fun q h => by rw [c3] at h; cases h) (by rw [c2]; exact hkC) (by rw [c2]; exact f3) rfl rfl hd fun H1 g1 g2 g3 => ?_
    refine hK _ _ _ _ _ _ h t H1 _ ls cells slots h1 h2.up (h3.set e1 hk ?_ g2 g3 ?_) (x_locs h4 (h3.2.2.2.1 _ _ (x_some e1) hk)) h5 (h6.dm (x_dm.up x_dm.rf)) (h7.tl.tl.tl.dm (x_dm.up x_dm.rf)) h8 h9
    · intro k hk'
      show x_ok S (xv_o (va_up f j.toNatClampNeg (some v) k))
      unfold va_up
      split
      · exact h7.hd
      · exact (h3.2.1 _ _ _ e1 : ∀ j, j < n → x_ok S (xv_o (f j))) k hk'
    · show H1[t a.1 a.2]? = some (vp_cell _ _)
      rw [g1]
      show some ((vp_cell (G.2.1 q) (n, .inr (.inr (.inr (.inr (fun j => xz_o t (f j))))))).setSlot _ _) = some (vp_cell (G.2.1 q) (n, .inr (.inr (.inr (.inr _)))))
      rw [vp_cell_q, vp_cell_q, arrV_store]
      congr 2
      funext k
      by_cases hkk : k = j.toNatClampNeg
      · subst hkk
        simp [updV, va_up, va_rf, xz_o]
      · simp [updV, va_up, hkk]
  · exact h.elim
theorem xs_mmin {index : Nat} (hd : decode M.2.1 pc = .ok (.invokestatic index, 3)) (hw : Cond.methodLink M.1 index Lib.Math.min.name ∈ x_Wd ∧ Cond.static Lib.Math.min.name ∈ x_Wd ∧ Cond.initialized "java/lang/Math" ∈ x_Wd ∧ Cond.code Lib.Math.min.name Lib.Math.min.code 2 (some .int) ∈ x_Wd) (hr : 1 ≤ M.2.2.2.2.2.2.1 ∧ 21 ≤ M.2.2.2.2.2.2.2) : XSnd M pc (X_mm (fun x y => if y < x then y else x)) := by
  intro G p l e R s m args below meth c P t0 S0 htr0 hC K hK L st S u w h t H locs ls cells slots h1 h2 h3 h4 h5 h6 h7 h8 h9
  unfold X_mm at h
  split at h
  · have hts := hC.2.2.2.2.2.1
    have hfr := hC.2.2.2.2.2.2.2.2.2.2.1
    have hlo := hC.2.2.2.2.2.2.2.2.2.2.2
    exact va_mmin hC.1 hC.2.1 (hC.2.2.1.trans h5.1.1.symm) hC.2.2.2.2.1 (hts _ hw.1) (hts _ hw.2.1) (hts _ hw.2.2.1) (hts _ hw.2.2.2) (by omega) (by rw [x_cs_cat]; omega) (by omega) (by omega) hd (hK _ _ _ _ _ _ h.2 t H locs ls cells slots h1 h2 h3 h4 h5 h6 (x_oks.cons trivial h7.tl.tl) h8 h9)
  · exact h.elim
theorem xs_mmax {index : Nat} (hd : decode M.2.1 pc = .ok (.invokestatic index, 3)) (hw : Cond.methodLink M.1 index Lib.Math.max.name ∈ x_Wd ∧ Cond.static Lib.Math.max.name ∈ x_Wd ∧ Cond.initialized "java/lang/Math" ∈ x_Wd ∧ Cond.code Lib.Math.max.name Lib.Math.max.code 2 (some .int) ∈ x_Wd) (hr : 1 ≤ M.2.2.2.2.2.2.1 ∧ 21 ≤ M.2.2.2.2.2.2.2) : XSnd M pc (X_mm (fun x y => if x < y then y else x)) := by
  intro G p l e R s m args below meth c P t0 S0 htr0 hC K hK L st S u w h t H locs ls cells slots h1 h2 h3 h4 h5 h6 h7 h8 h9
  unfold X_mm at h
  split at h
  · have hts := hC.2.2.2.2.2.1
    have hfr := hC.2.2.2.2.2.2.2.2.2.2.1
    have hlo := hC.2.2.2.2.2.2.2.2.2.2.2
    exact va_mmax hC.1 hC.2.1 (hC.2.2.1.trans h5.1.1.symm) hC.2.2.2.2.1 (hts _ hw.1) (hts _ hw.2.1) (hts _ hw.2.2.1) (hts _ hw.2.2.2) (by omega) (by rw [x_cs_cat]; omega) (by omega) (by omega) hd (hK _ _ _ _ _ _ h.2 t H locs ls cells slots h1 h2 h3 h4 h5 h6 (x_oks.cons trivial h7.tl.tl) h8 h9)
  · exact h.elim
/-- 'throw new E("text")' and 'throw new E()' leave the method -/
theorem x_thrown {G : XG} {p : Program} {l : Launch} {e : Env} {R : Room} {s : State} {m : MethodId} {args : Array Value} {below : List Frame} {meth : Method} {c : Code} {P : XP} {t0 t : XT} {S0 S : XH} {H : Heap} {locs : List Loc} {cells slots k i ci N : Nat} {C : String} {Tt : u_T} {T U : State}
    (hC : x_C G M p R s m args meth c) (hc : x_cls[ci]? = some (C, Tt, N)) (hN : N = 0) (X : Stand p l e R s m args below meth c T locs cells slots) (hT : T.heap = H) (h1 : x_ag t0 t S0) (h2 : x_dm S0 S) (h3 : x_R G t S H) (h4 : ∀ q ∈ locs, G.2.2.1 ≤ q.base) (h8 : cells + 1 ≤ R.cells) (h9 : slots + 6 ≤ R.slots) (hk : k < 48) (h0 : S k i = none) (hP : P (.inr (k, i)) (x_up S k i (.inl (ci, []))))
    (hrun : U.status = .running) (hend : Ended U below (.threw T.heap.size)) (hW : s.WarmedH U.vm) (hsame : ((T.setVm s.vm).setFrames (.invoking m args :: below)).sameButNew ({ U with vm := ((T.setVm s.vm).setFrames (.invoking m args :: below)).vm } : State) [] (0 + 1) (0 + 6)) {ce : Cell} (hce : U.heap[T.heap.size]? = some ce) (hcv : ce.vm = .none) (hcl : s.vm.findClass C = some ce.cls) (hsz : U.heap.size ≤ T.heap.size + 1) :
    x_Q G below P t0 S0 s R.cells R.slots U := by
  obtain ⟨f1, f2⟩ := vx_frame hsame
  have hhp : ((T.setVm s.vm).setFrames (.invoking m args :: below)).heap = H := hT
  rw [hhp] at f1 f2
  have hall : s.sameButNew ({ U with vm := s.vm } : State) locs R.cells R.slots := by
    obtain ⟨e1, e2⟩ := hsame
    rw [State.setFrames_setFrames] at e1
    have z2 : (T.setVm s.vm).sameButNew ({ U with vm := s.vm } : State) [] (0 + 1) (0 + 6) := ⟨e1, e2⟩
    have z3 := X.same.trans z2
    rw [List.append_nil] at z3
    exact z3.mono (by omega) (by omega)
  rw [hT] at hce hsz hend
  have hg2 : U.heap.size = H.size + 1 := by
    have := (Array.getElem?_eq_some_iff.mp hce).1
    omega
  have hcls := (hC.2.2.2.2.2.2.1.1.1 ci _ hc).2.1
  obtain ⟨r1, r2⟩ := h3.new (c := .inl (ci, [])) hk h0 hg2 (fun q hq => f2 q hq (fun z hz => nomatch hz)) (fun v hv => by cases hv) ⟨_, hc, ce, hce, Option.some.inj (hcl.symm.trans hcls), hcv, fun j hj => by subst hN; exact absurd hj (Nat.not_lt_zero j)⟩
  refine ⟨.threw H.size, hrun, hend, ⟨x_ut t k i H.size, x_up S k i (.inl (ci, [])), fun a b q => (r2 a b (h2 a b q)).trans (h1 a b q), h2.up, r1, Or.inr ⟨k, i, by rw [x_ut_self], (by rw [x_up_self]; exact fun q => (by cases q)), hP⟩⟩, locs, ⟨hW, hall⟩, h4⟩
end XRO
end
section
section XTH
variable {M : XM} {pc : Nat}
theorem x_atoms {E L : List Cond} (hE : ∀ w ∈ E, w ∈ x_Wd) (h : L.all (fun w => decide (w ∈ E) && vx_ot w) = true) : (∀ w ∈ L, w ∈ x_Wd) ∧ ∀ w ∈ L, vx_ot w = true := by
  refine ⟨fun w hw => ?_, fun w hw => ?_⟩
  · have := List.all_eq_true.mp h w hw
    rw [Bool.and_eq_true, decide_eq_true_eq] at this
    exact hE w this.1
  · have := List.all_eq_true.mp h w hw
    rw [Bool.and_eq_true] at this
    exact this.2
theorem x_outs {c : Code} {hs : List (Nat × Nat × Nat × Nat)} {q : Nat} (h : c.exceptionTable.toList = tableOf hs) (hh : (tableOf hs).all (fun x => !covers x q) = true) : ∀ z ∈ c.exceptionTable.toList, covers z q = false := fun z hz => by
  rw [h] at hz
  have hz2 := List.all_eq_true.mp hh z hz
  cases hcv : covers z q with
  | false => rfl
  | true => rw [hcv] at hz2; cases hz2
theorem xs_tnS {ci ik is ic N : Nat} {C text : String} {Tt : u_T} {names : List String} (d0 : decode M.2.1 pc = .ok (.new ik, 3)) (d3 : decode M.2.1 (pc + 3) = .ok (.dup, 1)) (d4 : decode M.2.1 (pc + 4) = .ok (.ldc is, 2)) (d6 : decode M.2.1 (pc + 6) = .ok (.invokespecial ic, 3)) (d9 : decode M.2.1 (pc + 9) = .ok (.athrow, 1))
    (hc : x_cls[ci]? = some (C, Tt, N)) (hN : N = 0) (hcls : Bundle.fit C = true) (hnames : ∀ n ∈ names, Bundle.fit n = true) (hstr : (M.1, is, text) ∈ x_strs) {E : List Cond} (hE : ∀ w ∈ E, w ∈ x_Wd) (hat : (Cond.classLink M.1 ik C :: Cond.initialized C :: vx_atS M.1 ic C names).all (fun w => decide (w ∈ E) && vx_ot w) = true)
    (hout : (tableOf M.2.2.2.2.2.1).all (fun x => !covers x (pc + 9)) = true) (hr : names.length + 3 < M.2.2.2.2.2.2.1 ∧ 8 + (13 * (names.length + 1) + 43) ≤ M.2.2.2.2.2.2.2) : XSnd M pc (X_tn ci) := by
  intro G p l e R s m args below meth c P t0 S0 htr0 hC K hK L st S u w h t H locs ls cells slots h1 h2 h3 h4 h5 h6 h7 h8 h9
  obtain ⟨hcs, hu, hw, k, i, hk, h0, hP⟩ := h
  obtain ⟨ha1, ha2⟩ := x_atoms hE hat
  have hts := hC.2.2.2.2.2.1
  have hX := hC.2.2.2.2.2.2.1.2.2
  obtain ⟨sa, hsa⟩ := hX.2.2.2.1 _ hstr
  intro T hT X
  have htr : e.platform.stackTraces = false := (show e.platform.stackTraces = l.stackTraces by rw [X.admits.platform]).trans htr0
  have Y := vx_rebase X (R' := { frames := R.frames, locals := R.locals, cells := 1, slots := 6 }) (Nat.le_refl _) (Nat.le_refl _) (by show cells + 1 ≤ _; omega) (by show slots + 6 ≤ _; omega)
  obtain ⟨s', hA⟩ : ∃ z, z = (T.setVm s.vm).setFrames (.invoking m args :: below) := ⟨_, rfl⟩
  rw [← hA] at Y
  have hvm : s'.vm = s.vm := by rw [hA]; rfl
  have hhp : s'.heap = H := by rw [hA]; exact hT
  have hW0 : s.WarmedH s'.vm := by rw [hvm]; exact State.WarmedH.refl s
  have hat' : ∀ w ∈ vx_atS M.1 ic C names, w.before args s' = true := fun w hw => vx_ot_at hW0 hvm.symm (ha2 w (List.mem_cons_of_mem _ (List.mem_cons_of_mem _ hw))) (hts w (ha1 w (List.mem_cons_of_mem _ (List.mem_cons_of_mem _ hw))))
  have hk' : (Cond.classLink M.1 ik C).before args s' = true := vx_ot_at hW0 hvm.symm (ha2 _ List.mem_cons_self) (hts _ (ha1 _ List.mem_cons_self))
  have hini' : (Cond.initialized C).before args s' = true := vx_ot_at hW0 hvm.symm (ha2 _ (List.mem_cons_of_mem _ List.mem_cons_self)) (hts _ (ha1 _ (List.mem_cons_of_mem _ List.mem_cons_self)))
  have hU' : vx_Zq Bundle.tN "UNASSIGNED_STACK" Bundle.steD (x_A G) s' s'.heap := by rw [hhp]; exact vx_Zq.moved hW0.alike (hX.2.2.2.2.1.kept (x_hq hX h3))
  have hN' : vx_Zq Bundle.tN "SUPPRESSED_SENTINEL" Bundle.listD (x_A G) s' s'.heap := by rw [hhp]; exact vx_Zq.moved hW0.alike (hX.2.2.2.2.2.1.kept (x_hq hX h3))
  have hh : ∀ w ∈ Bundle.ownAtoms M.1 ic C names, w.before args s' = true := vx_own hat' (vx_isRefq hU'.1) (vx_isRefq hN'.1) hU'.2.word hN'.2.word
  have hown' : s'.vm.findClass M.1 = some m.cls := by rw [hvm]; exact hC.2.2.2.2.1
  have hins : (Cond.instantiable C 6).before args s' = true := hh _ (by simp [Bundle.ownAtoms])
  have hb := hC.2.1
  obtain ⟨vm₁, cX, kX, hfX, hkX, -, -, X₁, st1⟩ := Y.newCold hC.1 (own := M.1) (C := C) (index := ik) (n := 6) hown' hk' hins hini'
    (g := F0 m pc ls (st.map (xz t))) rfl (by rw [hb]; exact d0) (Nat.le_refl _) (Nat.le_refl _)
  generalize hT1 : (T.setVm vm₁).pushCell { cls := cX, slots := kX.instanceTypes.map defaultValue, vm := .none } = T1 at X₁ st1
  have hcat : (Value.ref T.heap.size).category = 1 := rfl
  have hcellA : T1.heap[T.heap.size]? = some (freshCell cX kX) := by rw [← hT1]; exact State.heap_pushCell_size _ _
  have d3' : decode c.code (pc + 3) = .ok (.dup, 1) := by rw [hb]; exact d3
  have d4' : decode c.code (pc + 4) = .ok (.ldc is, 2) := by rw [hb]; exact d4
  have hstr' : vk_R M.1 is text sa s' := vk_R.warm hW0 hsa
  have hfr := hC.2.2.2.2.2.2.2.2.2.2.1
  have hlo := hC.2.2.2.2.2.2.2.2.2.2.2
  have hcc := x_cs_cat t st
  obtain ⟨U, hsteps, hrun, hend, hW, hsame, ce, hce, hO⟩ := X₁.ctorThrowS hC.1 htr (own := M.1) (cls := C) (names := names) (ic := ic) hown' hcls hnames hh (fun x hx => nomatch hx) hfX hkX hcellA (by rw [hhp, hT]; exact Nat.le_refl _) (msg := .ref sa) rfl
    (g := { method := m, pc := pc + 6, locals := ls, stack := .ref sa :: .ref T.heap.size :: .ref T.heap.size :: st.map (xz t), locked := none }) rfl (by rw [hC.2.2.1]; exact h5.1.1) rfl rfl (rest := st.map (xz t)) rfl
    (by rw [hb]; exact d6) (by rw [hb]; exact d9) (x_outs hC.2.2.2.2.2.2.2.2.2.1 hout) (by show names.length + 3 < R.frames; omega) (by simp only [List.map_cons, List.sum_cons, hcat, hcc]; show 2 * 0 + _ + _ ≤ R.locals; omega) hC.2.2.2.2.2.2.2.1
  have hcl : s.vm.findClass C = some ce.cls := by
    have h9 := hO.cls
    rw [hvm] at h9
    exact h9
  have hsz : U.heap.size ≤ T.heap.size + 1 := by
    have q := hsame.2.2.1
    have q2 : U.heap.size ≤ s'.heap.size + (0 + 1) := q
    rw [hhp, ← hT] at q2
    omega
  subst hA
  refine ⟨U, ?_, x_thrown hC hc hN X hT h1 h2 h3 h4 (by omega) (by omega) hk h0 hP hrun hend (State.WarmedH.trans hW0 hW) hsame hce hO.vm hcl hsz⟩
  refine st1 _ ?_
  show Steps p.tables e below (T1.setTop { method := m, pc := pc + 3, locals := ls, stack := .ref T.heap.size :: st.map (xz t), locked := none }) _
  jvm_step X₁.here [X₁.here.top, hC.1, d3', Value.category]
  exact X₁.ldcString hC.1 (own := M.1) (text := text) (index := is) (a := sa) hown' hstr'.1 hstr'.2
    (g := { method := m, pc := pc + 4, locals := ls, stack := .ref T.heap.size :: .ref T.heap.size :: st.map (xz t), locked := none }) rfl d4' _ hsteps
theorem xs_tn0 {ci ik ic N : Nat} {C : String} {Tt : u_T} {names : List String} (d0 : decode M.2.1 pc = .ok (.new ik, 3)) (d3 : decode M.2.1 (pc + 3) = .ok (.dup, 1)) (d4 : decode M.2.1 (pc + 4) = .ok (.invokespecial ic, 3)) (d7 : decode M.2.1 (pc + 7) = .ok (.athrow, 1))
    (hc : x_cls[ci]? = some (C, Tt, N)) (hN : N = 0) (hcls : Bundle.fit C = true) (hnames : ∀ n ∈ names, Bundle.fit n = true) {E : List Cond} (hE : ∀ w ∈ E, w ∈ x_Wd) (hat : (Cond.classLink M.1 ik C :: Cond.initialized C :: vx_at0 M.1 ic C names).all (fun w => decide (w ∈ E) && vx_ot w) = true)
    (hout : (tableOf M.2.2.2.2.2.1).all (fun x => !covers x (pc + 7)) = true) (hr : names.length + 3 < M.2.2.2.2.2.2.1 ∧ 8 + (13 * (names.length + 1) + 43) ≤ M.2.2.2.2.2.2.2) : XSnd M pc (X_tn ci) := by
  intro G p l e R s m args below meth c P t0 S0 htr0 hC K hK L st S u w h t H locs ls cells slots h1 h2 h3 h4 h5 h6 h7 h8 h9
  obtain ⟨hcs, hu, hw, k, i, hk, h0, hP⟩ := h
  obtain ⟨ha1, ha2⟩ := x_atoms hE hat
  have hts := hC.2.2.2.2.2.1
  have hX := hC.2.2.2.2.2.2.1.2.2
  intro T hT X
  have htr : e.platform.stackTraces = false := (show e.platform.stackTraces = l.stackTraces by rw [X.admits.platform]).trans htr0
  have Y := vx_rebase X (R' := { frames := R.frames, locals := R.locals, cells := 1, slots := 6 }) (Nat.le_refl _) (Nat.le_refl _) (by show cells + 1 ≤ _; omega) (by show slots + 6 ≤ _; omega)
  obtain ⟨s', hA⟩ : ∃ z, z = (T.setVm s.vm).setFrames (.invoking m args :: below) := ⟨_, rfl⟩
  rw [← hA] at Y
  have hvm : s'.vm = s.vm := by rw [hA]; rfl
  have hhp : s'.heap = H := by rw [hA]; exact hT
  have hW0 : s.WarmedH s'.vm := by rw [hvm]; exact State.WarmedH.refl s
  have hat' : ∀ w ∈ vx_at0 M.1 ic C names, w.before args s' = true := fun w hw => vx_ot_at hW0 hvm.symm (ha2 w (List.mem_cons_of_mem _ (List.mem_cons_of_mem _ hw))) (hts w (ha1 w (List.mem_cons_of_mem _ (List.mem_cons_of_mem _ hw))))
  have hk' : (Cond.classLink M.1 ik C).before args s' = true := vx_ot_at hW0 hvm.symm (ha2 _ List.mem_cons_self) (hts _ (ha1 _ List.mem_cons_self))
  have hini' : (Cond.initialized C).before args s' = true := vx_ot_at hW0 hvm.symm (ha2 _ (List.mem_cons_of_mem _ List.mem_cons_self)) (hts _ (ha1 _ (List.mem_cons_of_mem _ List.mem_cons_self)))
  have hU' : vx_Zq Bundle.tN "UNASSIGNED_STACK" Bundle.steD (x_A G) s' s'.heap := by rw [hhp]; exact vx_Zq.moved hW0.alike (hX.2.2.2.2.1.kept (x_hq hX h3))
  have hN' : vx_Zq Bundle.tN "SUPPRESSED_SENTINEL" Bundle.listD (x_A G) s' s'.heap := by rw [hhp]; exact vx_Zq.moved hW0.alike (hX.2.2.2.2.2.1.kept (x_hq hX h3))
  have hh : ∀ w ∈ Bundle.ownAtoms0 M.1 ic C names, w.before args s' = true := vx_own hat' (vx_isRefq hU'.1) (vx_isRefq hN'.1) hU'.2.word hN'.2.word
  have hown' : s'.vm.findClass M.1 = some m.cls := by rw [hvm]; exact hC.2.2.2.2.1
  have hins : (Cond.instantiable C 6).before args s' = true := hh _ (by simp [Bundle.ownAtoms0])
  have hb := hC.2.1
  obtain ⟨vm₁, cX, kX, hfX, hkX, -, -, X₁, st1⟩ := Y.newCold hC.1 (own := M.1) (C := C) (index := ik) (n := 6) hown' hk' hins hini'
    (g := F0 m pc ls (st.map (xz t))) rfl (by rw [hb]; exact d0) (Nat.le_refl _) (Nat.le_refl _)
  generalize hT1 : (T.setVm vm₁).pushCell { cls := cX, slots := kX.instanceTypes.map defaultValue, vm := .none } = T1 at X₁ st1
  have hcat : (Value.ref T.heap.size).category = 1 := rfl
  have hcellA : T1.heap[T.heap.size]? = some (freshCell cX kX) := by rw [← hT1]; exact State.heap_pushCell_size _ _
  have d3' : decode c.code (pc + 3) = .ok (.dup, 1) := by rw [hb]; exact d3
  have hfr := hC.2.2.2.2.2.2.2.2.2.2.1
  have hlo := hC.2.2.2.2.2.2.2.2.2.2.2
  have hcc := x_cs_cat t st
  obtain ⟨U, hsteps, hrun, hend, hW, hsame, ce, hce, hO⟩ := X₁.ctorThrow0 hC.1 htr (own := M.1) (cls := C) (names := names) (ic := ic) hown' hcls hnames hh (fun x hx => nomatch hx) hfX hkX hcellA (by rw [hhp, hT]; exact Nat.le_refl _)
    (g := { method := m, pc := pc + 4, locals := ls, stack := .ref T.heap.size :: .ref T.heap.size :: st.map (xz t), locked := none }) rfl (by rw [hC.2.2.1]; exact h5.1.1) rfl rfl (rest := st.map (xz t)) rfl
    (by rw [hb]; exact d4) (by rw [hb]; exact d7) (x_outs hC.2.2.2.2.2.2.2.2.2.1 hout) (by show names.length + 3 < R.frames; omega) (by simp only [List.map_cons, List.sum_cons, hcat, hcc]; show 2 * 0 + _ + _ ≤ R.locals; omega) hC.2.2.2.2.2.2.2.1
  have hcl : s.vm.findClass C = some ce.cls := by
    have h9 := hO.cls
    rw [hvm] at h9
    exact h9
  have hsz : U.heap.size ≤ T.heap.size + 1 := by
    have q := hsame.2.2.1
    have q2 : U.heap.size ≤ s'.heap.size + (0 + 1) := q
    rw [hhp, ← hT] at q2
    omega
  subst hA
  refine ⟨U, ?_, x_thrown hC hc hN X hT h1 h2 h3 h4 (by omega) (by omega) hk h0 hP hrun hend (State.WarmedH.trans hW0 hW) hsame hce hO.vm hcl hsz⟩
  refine st1 _ ?_
  show Steps p.tables e below (T1.setTop { method := m, pc := pc + 3, locals := ls, stack := .ref T.heap.size :: st.map (xz t), locked := none }) _
  jvm_step X₁.here [X₁.here.top, hC.1, d3', Value.category]
  exact hsteps
end XTH
end
section
/-! defaults of new objects; a store of an Entry or a Message, or null, into an array of Object; ranges of switches -/
def xD0 : List XV := [xv_n, xv_n, xv_n, xv_n]
theorem xd0 : ∀ (t : XT) (j : Nat), j < 4 → defaultValue (xY0 j) = vp_V (xD0.map (xz t)) j := by
  intro t j hj
  match j, hj with
  | 0, _ => rfl
  | 1, _ => rfl
  | 2, _ => rfl
  | 3, _ => rfl
  | j + 4, h => omega
def xD1 : List XV := [xv_n]
theorem xd1 : ∀ (t : XT) (j : Nat), j < 1 → defaultValue (xY1 j) = vp_V (xD1.map (xz t)) j := by
  intro t j hj
  match j, hj with
  | 0, _ => rfl
  | j + 1, h => omega
def xD2 : List XV := [xv_n, xv_n, xv_n, xv_i 0, xv_i 0]
theorem xd2 : ∀ (t : XT) (j : Nat), j < 5 → defaultValue (xY2 j) = vp_V (xD2.map (xz t)) j := by
  intro t j hj
  match j, hj with
  | 0, _ => rfl
  | 1, _ => rfl
  | 2, _ => rfl
  | 3, _ => rfl
  | 4, _ => rfl
  | j + 5, h => omega
def xD3 : List XV := [xv_i 0, xv_n, xv_n, xv_n, xv_n, xv_n, xv_i 0, xv_i 0, xv_i 0, xv_i 0, xv_n]
theorem xd3 : ∀ (t : XT) (j : Nat), j < 11 → defaultValue (xY3 j) = vp_V (xD3.map (xz t)) j := by
  intro t j hj
  match j, hj with
  | 0, _ => rfl
  | 1, _ => rfl
  | 2, _ => rfl
  | 3, _ => rfl
  | 4, _ => rfl
  | 5, _ => rfl
  | 6, _ => rfl
  | 7, _ => rfl
  | 8, _ => rfl
  | 9, _ => rfl
  | 10, _ => rfl
  | j + 11, h => omega
def xD4 : List XV := [xv_n, xv_i 0, xv_i 0, xv_i 0, xv_i 0]
theorem xd4 : ∀ (t : XT) (j : Nat), j < 5 → defaultValue (xY4 j) = vp_V (xD4.map (xz t)) j := by
  intro t j hj
  match j, hj with
  | 0, _ => rfl
  | 1, _ => rfl
  | 2, _ => rfl
  | 3, _ => rfl
  | 4, _ => rfl
  | j + 5, h => omega
def xD5 : List XV := [xv_n, xv_i 0, xv_i 0, xv_i 0, xv_i 0]
theorem xd5 : ∀ (t : XT) (j : Nat), j < 5 → defaultValue (xY5 j) = vp_V (xD5.map (xz t)) j := by
  intro t j hj
  match j, hj with
  | 0, _ => rfl
  | 1, _ => rfl
  | 2, _ => rfl
  | 3, _ => rfl
  | 4, _ => rfl
  | j + 5, h => omega
def xD6 : List XV := [xv_i 0, xv_i 0, xv_i 0, xv_i 0, xv_i 0, xv_i 0]
theorem xd6 : ∀ (t : XT) (j : Nat), j < 6 → defaultValue (xY6 j) = vp_V (xD6.map (xz t)) j := by
  intro t j hj
  match j, hj with
  | 0, _ => rfl
  | 1, _ => rfl
  | 2, _ => rfl
  | 3, _ => rfl
  | 4, _ => rfl
  | 5, _ => rfl
  | j + 6, h => omega
def xD7 : List XV := [xv_n, xv_i 0, xv_i 0, xv_i 0, xv_i 0, xv_i 0]
theorem xd7 : ∀ (t : XT) (j : Nat), j < 6 → defaultValue (xY7 j) = vp_V (xD7.map (xz t)) j := by
  intro t j hj
  match j, hj with
  | 0, _ => rfl
  | 1, _ => rfl
  | 2, _ => rfl
  | 3, _ => rfl
  | 4, _ => rfl
  | 5, _ => rfl
  | j + 6, h => omega
def xD8 : List XV := [xv_n, xv_i 0, xv_i 0]
theorem xd8 : ∀ (t : XT) (j : Nat), j < 3 → defaultValue (xY8 j) = vp_V (xD8.map (xz t)) j := by
  intro t j hj
  match j, hj with
  | 0, _ => rfl
  | 1, _ => rfl
  | 2, _ => rfl
  | j + 3, h => omega
def xD9 : List XV := [xv_n, xv_i 0, xv_i 0, xv_i 0]
theorem xd9 : ∀ (t : XT) (j : Nat), j < 4 → defaultValue (xY9 j) = vp_V (xD9.map (xz t)) j := by
  intro t j hj
  match j, hj with
  | 0, _ => rfl
  | 1, _ => rfl
  | 2, _ => rfl
  | 3, _ => rfl
  | j + 4, h => omega
def xD10 : List XV := [xv_n, xv_n, xv_n, xv_n, xv_n, xv_n, xv_n, xv_n, xv_n, xv_i 0, xv_n, xv_n, xv_n, xv_n, xv_n, xv_n, xv_n, xv_n, xv_n, xv_n, xv_n, xv_n, xv_n, xv_n, xv_n, xv_i 0, xv_i 0, xv_n, xv_n, xv_n, xv_i 0]
theorem xd10 : ∀ (t : XT) (j : Nat), j < 31 → defaultValue (xY10 j) = vp_V (xD10.map (xz t)) j := by
  intro t j hj
  match j, hj with
  | 0, _ => rfl
  | 1, _ => rfl
  | 2, _ => rfl
  | 3, _ => rfl
  | 4, _ => rfl
  | 5, _ => rfl
  | 6, _ => rfl
  | 7, _ => rfl
  | 8, _ => rfl
  | 9, _ => rfl
  | 10, _ => rfl
  | 11, _ => rfl
  | 12, _ => rfl
  | 13, _ => rfl
  | 14, _ => rfl
  | 15, _ => rfl
  | 16, _ => rfl
  | 17, _ => rfl
  | 18, _ => rfl
  | 19, _ => rfl
  | 20, _ => rfl
  | 21, _ => rfl
  | 22, _ => rfl
  | 23, _ => rfl
  | 24, _ => rfl
  | 25, _ => rfl
  | 26, _ => rfl
  | 27, _ => rfl
  | 28, _ => rfl
  | 29, _ => rfl
  | 30, _ => rfl
  | j + 31, h => omega
def X_aastD : XI := fun K P pc L st S u w => X_aast 3 6 K P pc L st S u w ∨ X_aast 3 7 K P pc L st S u w
theorem xm_aastD : XMon X_aastD := fun K K' P P' pc L st S u w hK hP h => h.imp (xm_aast K K' P P' pc L st S u w hK hP) (xm_aast K K' P P' pc L st S u w hK hP)
theorem xs_aastD {M : XM} {pc : Nat} (hd : decode M.2.1 pc = .ok (.aastore, 1)) : XSnd M pc X_aastD := by
  intro G p l e R s m args below meth c P t0 S0 htr0 hC K hK L st S u w h
  rcases h with h | h
  · exact xs_aastO hd rfl xc6 (E := "java/lang/Object") (x_i7 16 rfl rfl) G p l e R s m args below meth c P t0 S0 htr0 hC K hK L st S u w h
  · exact xs_aastO hd rfl xc7 (E := "java/lang/Object") (x_i7 17 rfl rfl) G p l e R s m args below meth c P t0 S0 htr0 hC K hK L st S u w h
theorem x_swall (lo : Int) (n : Nat) (tab : List (Int × Nat)) (h : (List.range n).all (fun j => tab.any (fun q => decide (q.1 = lo + (j : Int)))) = true) {hi : Int} (hh : hi = lo + (n : Int) - 1 := by decide) : ∀ v : Int, lo ≤ v → v ≤ hi → ∃ q ∈ tab, v = q.1 := by
  intro v h1 h2
  have hj : (v - lo).toNat < n := by omega
  have := List.all_eq_true.mp h (v - lo).toNat (List.mem_range.mpr hj)
  obtain ⟨q, hq, e⟩ := List.any_eq_true.mp this
  refine ⟨q, hq, ?_⟩
  have e := of_decide_eq_true e
  omega
theorem x_zint : ∀ f, (Sum.inl (fun _ => 0) : XA) = .inr (.inr f) → ∀ j, f j = none := fun f h => by cases h
theorem x_zbyte : ∀ f, (Sum.inl (fun _ => 0) : XA) = .inr (.inr f) → ∀ j, f j = none := fun f h => by cases h
theorem x_zlong : ∀ f, (Sum.inr (.inl (fun _ => 0)) : XA) = .inr (.inr f) → ∀ j, f j = none := fun f h => by cases h
end
section
theorem q1_0 : (Jvm.Cond.initialized "CashLinkLaw") ∈ x_Wd := x_i1 0 (Eq.refl _) rfl
theorem q1_1 : (Jvm.Cond.initialized "CashLink") ∈ x_Wd := x_i1 1 (Eq.refl _) rfl
theorem q1_2 : (Jvm.Cond.initialized "CashLink$Network") ∈ x_Wd := x_i1 2 (Eq.refl _) rfl
theorem q1_3 : (Jvm.Cond.initialized "java/util/AbstractCollection") ∈ x_Wd := x_i1 3 (Eq.refl _) rfl
theorem q1_4 : (Jvm.Cond.initialized "java/util/AbstractList") ∈ x_Wd := x_i1 4 (Eq.refl _) rfl
theorem q1_5 : (Jvm.Cond.initialized "java/util/ArrayList") ∈ x_Wd := x_i1 5 (Eq.refl _) rfl
theorem q1_6 : (Jvm.Cond.initialized "CashLink$Bank") ∈ x_Wd := x_i1 6 (Eq.refl _) rfl
theorem q1_7 : (Jvm.Cond.initialized "CashLink$Journal") ∈ x_Wd := x_i1 7 (Eq.refl _) rfl
theorem q1_8 : (Jvm.Cond.initialized "CashLink$Machine") ∈ x_Wd := x_i1 8 (Eq.refl _) rfl
theorem q1_9 : (Jvm.Cond.initialized "CashLink$Dispenser") ∈ x_Wd := x_i1 9 (Eq.refl _) rfl
theorem q1_12 : (Jvm.Cond.initialized "CashLinkModel") ∈ x_Wd := x_i1 12 (Eq.refl _) rfl
theorem q1_18 : (Jvm.Cond.initialized "java/lang/Math") ∈ x_Wd := x_i1 18 (Eq.refl _) rfl
theorem q1_20 : (Jvm.Cond.initialized "java/lang/Record") ∈ x_Wd := x_i1 20 (Eq.refl _) rfl
theorem q1_21 : (Jvm.Cond.initialized "CashLink$Entry") ∈ x_Wd := x_i1 21 (Eq.refl _) rfl
theorem q1_22 : (Jvm.Cond.initialized "jdk/internal/util/ArraysSupport") ∈ x_Wd := x_i1 22 (Eq.refl _) rfl
theorem q1_23 : (Jvm.Cond.initialized "java/util/Arrays") ∈ x_Wd := x_i1 23 (Eq.refl _) rfl
theorem q1_27 : (Jvm.Cond.initialized "CashLink$Message") ∈ x_Wd := x_i1 27 (Eq.refl _) rfl
theorem q1_28 : (Jvm.Cond.initialized "java/util/Objects") ∈ x_Wd := x_i1 28 (Eq.refl _) rfl
theorem q1_29 : (Jvm.Cond.initialized "jdk/internal/util/Preconditions") ∈ x_Wd := x_i1 29 (Eq.refl _) rfl
theorem q1_31 : (Jvm.Cond.initialized "java/lang/AbstractStringBuilder") ∈ x_Wd := x_i1 31 (Eq.refl _) rfl
theorem q1_32 : (Jvm.Cond.initialized "java/lang/StringBuilder") ∈ x_Wd := x_i1 32 (Eq.refl _) rfl
theorem q1_34 : (Jvm.Cond.initialized "java/lang/StringUTF16") ∈ x_Wd := x_i1 34 (Eq.refl _) rfl
theorem q1_36 : (Jvm.Cond.classLink "CashLinkLaw" (8 : Nat) "CashLink") ∈ x_Wd := x_i1 36 (Eq.refl _) rfl
theorem q1_37 : (Jvm.Cond.instantiable "CashLink" (4 : Nat)) ∈ x_Wd := x_i1 37 (Eq.refl _) rfl
theorem q1_38 : (Jvm.Cond.methodLink "CashLinkLaw" (77 : Nat) ({ cls := "CashLink", name := "<init>", desc := "()V" } : Jvm.MethodName)) ∈ x_Wd := x_i1 38 (Eq.refl _) rfl
theorem q1_39 : (Jvm.Cond.instanceMethod ({ cls := "CashLink", name := "<init>", desc := "()V" } : Jvm.MethodName)) ∈ x_Wd := x_i1 39 (Eq.refl _) rfl
theorem q1_40 : (Jvm.Cond.code ({ cls := "CashLink", name := "<init>", desc := "()V" } : Jvm.MethodName) prog_1_method_1_code (4 : Nat) (Option.none : Option Jvm.ClassFile.FieldType)) ∈ x_Wd := x_i1 40 (Eq.refl _) rfl
theorem q1_41 : (Jvm.Cond.methodLink "CashLink" (1 : Nat) ({ cls := "java/lang/Object", name := "<init>", desc := "()V" } : Jvm.MethodName)) ∈ x_Wd := x_i1 41 (Eq.refl _) rfl
theorem q1_42 : (Jvm.Cond.instanceMethod ({ cls := "java/lang/Object", name := "<init>", desc := "()V" } : Jvm.MethodName)) ∈ x_Wd := x_i1 42 (Eq.refl _) rfl
theorem q1_43 : (Jvm.Cond.code ({ cls := "java/lang/Object", name := "<init>", desc := "()V" } : Jvm.MethodName) object_method_1_code (1 : Nat) (Option.none : Option Jvm.ClassFile.FieldType)) ∈ x_Wd := x_i1 43 (Eq.refl _) rfl
theorem q1_44 : (Jvm.Cond.classLink "CashLink" (9 : Nat) "CashLink$Machine") ∈ x_Wd := x_i1 44 (Eq.refl _) rfl
theorem q1_45 : (Jvm.Cond.arrayOver (Jvm.ClassFile.FieldType.object "CashLink$Machine")) ∈ x_Wd := x_i1 45 (Eq.refl _) rfl
theorem q1_46 : (Jvm.Cond.classLink "CashLink" (15 : Nat) "CashLink$Network") ∈ x_Wd := x_i1 46 (Eq.refl _) rfl
theorem q1_47 : (Jvm.Cond.instantiable "CashLink$Network" (1 : Nat)) ∈ x_Wd := x_i1 47 (Eq.refl _) rfl
theorem q1_48 : (Jvm.Cond.methodLinkNest "CashLink" (17 : Nat) ({ cls := "CashLink$Network", name := "<init>", desc := "()V" } : Jvm.MethodName) "CashLink") ∈ x_Wd := x_i1 48 (Eq.refl _) rfl
theorem q1_49 : (Jvm.Cond.instanceMethod ({ cls := "CashLink$Network", name := "<init>", desc := "()V" } : Jvm.MethodName)) ∈ x_Wd := x_i1 49 (Eq.refl _) rfl
theorem q1_50 : (Jvm.Cond.code ({ cls := "CashLink$Network", name := "<init>", desc := "()V" } : Jvm.MethodName) prog_8_method_1_code (1 : Nat) (Option.none : Option Jvm.ClassFile.FieldType)) ∈ x_Wd := x_i1 50 (Eq.refl _) rfl
theorem q1_51 : (Jvm.Cond.methodLink "CashLink$Network" (1 : Nat) ({ cls := "java/lang/Object", name := "<init>", desc := "()V" } : Jvm.MethodName)) ∈ x_Wd := x_i1 51 (Eq.refl _) rfl
theorem q1_52 : (Jvm.Cond.classLink "CashLink$Network" (7 : Nat) "java/util/ArrayList") ∈ x_Wd := x_i1 52 (Eq.refl _) rfl
theorem q1_53 : (Jvm.Cond.instantiable "java/util/ArrayList" (3 : Nat)) ∈ x_Wd := x_i1 53 (Eq.refl _) rfl
theorem q1_54 : (Jvm.Cond.methodLink "CashLink$Network" (9 : Nat) ({ cls := "java/util/ArrayList", name := "<init>", desc := "()V" } : Jvm.MethodName)) ∈ x_Wd := x_i1 54 (Eq.refl _) rfl
theorem q1_55 : (Jvm.Cond.instanceMethod ({ cls := "java/util/ArrayList", name := "<init>", desc := "()V" } : Jvm.MethodName)) ∈ x_Wd := x_i1 55 (Eq.refl _) rfl
theorem q1_56 : (Jvm.Cond.code ({ cls := "java/util/ArrayList", name := "<init>", desc := "()V" } : Jvm.MethodName) prog_35_method_2_code (1 : Nat) (Option.none : Option Jvm.ClassFile.FieldType)) ∈ x_Wd := x_i1 56 (Eq.refl _) rfl
theorem q1_57 : (Jvm.Cond.methodLink "java/util/ArrayList" (1 : Nat) ({ cls := "java/util/AbstractList", name := "<init>", desc := "()V" } : Jvm.MethodName)) ∈ x_Wd := x_i1 57 (Eq.refl _) rfl
theorem q1_58 : (Jvm.Cond.instanceMethod ({ cls := "java/util/AbstractList", name := "<init>", desc := "()V" } : Jvm.MethodName)) ∈ x_Wd := x_i1 58 (Eq.refl _) rfl
theorem q1_59 : (Jvm.Cond.code ({ cls := "java/util/AbstractList", name := "<init>", desc := "()V" } : Jvm.MethodName) prog_34_method_1_code (1 : Nat) (Option.none : Option Jvm.ClassFile.FieldType)) ∈ x_Wd := x_i1 59 (Eq.refl _) rfl
theorem q1_60 : (Jvm.Cond.methodLink "java/util/AbstractList" (1 : Nat) ({ cls := "java/util/AbstractCollection", name := "<init>", desc := "()V" } : Jvm.MethodName)) ∈ x_Wd := x_i1 60 (Eq.refl _) rfl
theorem q1_61 : (Jvm.Cond.instanceMethod ({ cls := "java/util/AbstractCollection", name := "<init>", desc := "()V" } : Jvm.MethodName)) ∈ x_Wd := x_i1 61 (Eq.refl _) rfl
theorem q1_62 : (Jvm.Cond.code ({ cls := "java/util/AbstractCollection", name := "<init>", desc := "()V" } : Jvm.MethodName) prog_33_method_1_code (1 : Nat) (Option.none : Option Jvm.ClassFile.FieldType)) ∈ x_Wd := x_i1 62 (Eq.refl _) rfl
theorem q1_63 : (Jvm.Cond.methodLink "java/util/AbstractCollection" (1 : Nat) ({ cls := "java/lang/Object", name := "<init>", desc := "()V" } : Jvm.MethodName)) ∈ x_Wd := x_i1 63 (Eq.refl _) rfl
theorem q1_64 : (Jvm.Cond.fieldLink "java/util/ArrayList" (39 : Nat) "java/util/ArrayList" "DEFAULTCAPACITY_EMPTY_ELEMENTDATA" "[Ljava/lang/Object;") ∈ x_Wd := x_i1 64 (Eq.refl _) rfl
theorem q1_66 : (Jvm.Cond.fieldLink "java/util/ArrayList" (9 : Nat) "java/util/ArrayList" "elementData" "[Ljava/lang/Object;") ∈ x_Wd := x_i1 66 (Eq.refl _) rfl
theorem q1_67 : (Jvm.Cond.fieldLink "java/util/ArrayList" (48 : Nat) "java/util/ArrayList" "size" "I") ∈ x_Wd := x_i1 67 (Eq.refl _) rfl
theorem q1_68 : (Jvm.Cond.fieldLink "java/util/AbstractList" (7 : Nat) "java/util/AbstractList" "modCount" "I") ∈ x_Wd := x_i1 68 (Eq.refl _) rfl
theorem q1_69 : (Jvm.Cond.fieldLink "java/util/ArrayList" (63 : Nat) "java/util/ArrayList" "modCount" "I") ∈ x_Wd := x_i1 69 (Eq.refl _) rfl
theorem q1_70 : (Jvm.Cond.sameField "java/util/ArrayList" "java/util/AbstractList" "modCount" "I") ∈ x_Wd := x_i1 70 (Eq.refl _) rfl
theorem q1_78 : (Jvm.Cond.fieldLink "CashLink$Network" (10 : Nat) "CashLink$Network" "messages" "Ljava/util/ArrayList;") ∈ x_Wd := x_i1 78 (Eq.refl _) rfl
theorem q1_82 : (Jvm.Cond.classLink "CashLink" (26 : Nat) "CashLink$Bank") ∈ x_Wd := x_i1 82 (Eq.refl _) rfl
theorem q1_83 : (Jvm.Cond.instantiable "CashLink$Bank" (5 : Nat)) ∈ x_Wd := x_i1 83 (Eq.refl _) rfl
theorem q1_84 : (Jvm.Cond.methodLink "CashLink" (28 : Nat) ({ cls := "CashLink$Bank", name := "<init>", desc := "(LCashLink$Network;)V" } : Jvm.MethodName)) ∈ x_Wd := x_i1 84 (Eq.refl _) rfl
theorem q1_85 : (Jvm.Cond.instanceMethod ({ cls := "CashLink$Bank", name := "<init>", desc := "(LCashLink$Network;)V" } : Jvm.MethodName)) ∈ x_Wd := x_i1 85 (Eq.refl _) rfl
theorem q1_86 : (Jvm.Cond.code ({ cls := "CashLink$Bank", name := "<init>", desc := "(LCashLink$Network;)V" } : Jvm.MethodName) prog_2_method_1_code (3 : Nat) (Option.none : Option Jvm.ClassFile.FieldType)) ∈ x_Wd := x_i1 86 (Eq.refl _) rfl
theorem q1_87 : (Jvm.Cond.methodLink "CashLink$Bank" (3 : Nat) ({ cls := "java/lang/Object", name := "<init>", desc := "()V" } : Jvm.MethodName)) ∈ x_Wd := x_i1 87 (Eq.refl _) rfl
theorem q1_88 : (Jvm.Cond.classLink "CashLink$Bank" (9 : Nat) "CashLink$Journal") ∈ x_Wd := x_i1 88 (Eq.refl _) rfl
theorem q1_89 : (Jvm.Cond.instantiable "CashLink$Journal" (5 : Nat)) ∈ x_Wd := x_i1 89 (Eq.refl _) rfl
theorem q1_90 : (Jvm.Cond.methodLink "CashLink$Bank" (13 : Nat) ({ cls := "CashLink$Journal", name := "<init>", desc := "(I)V" } : Jvm.MethodName)) ∈ x_Wd := x_i1 90 (Eq.refl _) rfl
theorem q1_91 : (Jvm.Cond.instanceMethod ({ cls := "CashLink$Journal", name := "<init>", desc := "(I)V" } : Jvm.MethodName)) ∈ x_Wd := x_i1 91 (Eq.refl _) rfl
theorem q1_92 : (Jvm.Cond.code ({ cls := "CashLink$Journal", name := "<init>", desc := "(I)V" } : Jvm.MethodName) prog_5_method_1_code (2 : Nat) (Option.none : Option Jvm.ClassFile.FieldType)) ∈ x_Wd := x_i1 92 (Eq.refl _) rfl
theorem q1_93 : (Jvm.Cond.methodLink "CashLink$Journal" (1 : Nat) ({ cls := "java/lang/Object", name := "<init>", desc := "()V" } : Jvm.MethodName)) ∈ x_Wd := x_i1 93 (Eq.refl _) rfl
theorem q1_94 : (Jvm.Cond.classLink "CashLink$Journal" (7 : Nat) "java/util/ArrayList") ∈ x_Wd := x_i1 94 (Eq.refl _) rfl
theorem q1_95 : (Jvm.Cond.methodLink "CashLink$Journal" (9 : Nat) ({ cls := "java/util/ArrayList", name := "<init>", desc := "()V" } : Jvm.MethodName)) ∈ x_Wd := x_i1 95 (Eq.refl _) rfl
theorem q1_96 : (Jvm.Cond.fieldLink "CashLink$Journal" (10 : Nat) "CashLink$Journal" "entries" "Ljava/util/ArrayList;") ∈ x_Wd := x_i1 96 (Eq.refl _) rfl
theorem q1_97 : (Jvm.Cond.fieldLink "CashLink$Journal" (24 : Nat) "CashLink$Journal" "limit" "I") ∈ x_Wd := x_i1 97 (Eq.refl _) rfl
theorem q1_98 : (Jvm.Cond.fieldLink "CashLink$Journal" (16 : Nat) "CashLink$Journal" "powered" "Z") ∈ x_Wd := x_i1 98 (Eq.refl _) rfl
theorem q1_99 : (Jvm.Cond.fieldLink "CashLink$Journal" (37 : Nat) "CashLink$Journal" "recordsBeforeFailure" "I") ∈ x_Wd := x_i1 99 (Eq.refl _) rfl
theorem q1_100 : (Jvm.Cond.fieldLink "CashLink$Journal" (20 : Nat) "CashLink$Journal" "bytesAtFailure" "I") ∈ x_Wd := x_i1 100 (Eq.refl _) rfl
theorem q1_112 : (Jvm.Cond.arrayClass Jvm.ClassFile.FieldType.int) ∈ x_Wd := x_i1 112 (Eq.refl _) rfl
theorem q1_113 : (Jvm.Cond.fieldLink "CashLink$Bank" (24 : Nat) "CashLink$Bank" "network" "LCashLink$Network;") ∈ x_Wd := x_i1 113 (Eq.refl _) rfl
theorem q1_114 : (Jvm.Cond.fieldLink "CashLink$Bank" (16 : Nat) "CashLink$Bank" "journal" "LCashLink$Journal;") ∈ x_Wd := x_i1 114 (Eq.refl _) rfl
theorem q1_115 : (Jvm.Cond.fieldLink "CashLink" (117 : Nat) "CashLink$Bank" "journal" "LCashLink$Journal;") ∈ x_Wd := x_i1 115 (Eq.refl _) rfl
theorem q1_116 : (Jvm.Cond.fieldLink "CashLink$Bank" (20 : Nat) "CashLink$Bank" "balances" "[I") ∈ x_Wd := x_i1 116 (Eq.refl _) rfl
theorem q1_117 : (Jvm.Cond.fieldLink "CashLink$Bank" (35 : Nat) "CashLink$Bank" "booked" "I") ∈ x_Wd := x_i1 117 (Eq.refl _) rfl
theorem q1_118 : (Jvm.Cond.fieldLink "CashLink$Bank" (144 : Nat) "CashLink$Bank" "wrongTotals" "I") ∈ x_Wd := x_i1 118 (Eq.refl _) rfl
theorem q1_119 : (Jvm.Cond.fieldLink "CashLink" (178 : Nat) "CashLink$Bank" "wrongTotals" "I") ∈ x_Wd := x_i1 119 (Eq.refl _) rfl
theorem q1_131 : (Jvm.Cond.instantiable "CashLink$Machine" (11 : Nat)) ∈ x_Wd := x_i1 131 (Eq.refl _) rfl
theorem q1_132 : (Jvm.Cond.methodLink "CashLink" (35 : Nat) ({ cls := "CashLink$Machine", name := "<init>", desc := "(ILCashLink$Network;[I)V" } : Jvm.MethodName)) ∈ x_Wd := x_i1 132 (Eq.refl _) rfl
theorem q1_133 : (Jvm.Cond.instanceMethod ({ cls := "CashLink$Machine", name := "<init>", desc := "(ILCashLink$Network;[I)V" } : Jvm.MethodName)) ∈ x_Wd := x_i1 133 (Eq.refl _) rfl
theorem q1_134 : (Jvm.Cond.code ({ cls := "CashLink$Machine", name := "<init>", desc := "(ILCashLink$Network;[I)V" } : Jvm.MethodName) prog_6_method_1_code (4 : Nat) (Option.none : Option Jvm.ClassFile.FieldType)) ∈ x_Wd := x_i1 134 (Eq.refl _) rfl
theorem q1_135 : (Jvm.Cond.methodLink "CashLink$Machine" (1 : Nat) ({ cls := "java/lang/Object", name := "<init>", desc := "()V" } : Jvm.MethodName)) ∈ x_Wd := x_i1 135 (Eq.refl _) rfl
theorem q1_136 : (Jvm.Cond.classLink "CashLink$Machine" (7 : Nat) "CashLink$Journal") ∈ x_Wd := x_i1 136 (Eq.refl _) rfl
theorem q1_137 : (Jvm.Cond.methodLink "CashLink$Machine" (11 : Nat) ({ cls := "CashLink$Journal", name := "<init>", desc := "(I)V" } : Jvm.MethodName)) ∈ x_Wd := x_i1 137 (Eq.refl _) rfl
theorem q1_138 : (Jvm.Cond.classLink "CashLink$Machine" (18 : Nat) "CashLink$Dispenser") ∈ x_Wd := x_i1 138 (Eq.refl _) rfl
theorem q1_139 : (Jvm.Cond.instantiable "CashLink$Dispenser" (5 : Nat)) ∈ x_Wd := x_i1 139 (Eq.refl _) rfl
theorem q1_140 : (Jvm.Cond.methodLinkNest "CashLink$Machine" (20 : Nat) ({ cls := "CashLink$Dispenser", name := "<init>", desc := "()V" } : Jvm.MethodName) "CashLink") ∈ x_Wd := x_i1 140 (Eq.refl _) rfl
theorem q1_141 : (Jvm.Cond.instanceMethod ({ cls := "CashLink$Dispenser", name := "<init>", desc := "()V" } : Jvm.MethodName)) ∈ x_Wd := x_i1 141 (Eq.refl _) rfl
theorem q1_142 : (Jvm.Cond.code ({ cls := "CashLink$Dispenser", name := "<init>", desc := "()V" } : Jvm.MethodName) prog_3_method_1_code (1 : Nat) (Option.none : Option Jvm.ClassFile.FieldType)) ∈ x_Wd := x_i1 142 (Eq.refl _) rfl
theorem q1_143 : (Jvm.Cond.methodLink "CashLink$Dispenser" (3 : Nat) ({ cls := "java/lang/Object", name := "<init>", desc := "()V" } : Jvm.MethodName)) ∈ x_Wd := x_i1 143 (Eq.refl _) rfl
theorem q1_144 : (Jvm.Cond.fieldLink "CashLink$Dispenser" (9 : Nat) "CashLink$Dispenser" "notes" "[I") ∈ x_Wd := x_i1 144 (Eq.refl _) rfl
theorem q1_145 : (Jvm.Cond.fieldLink "CashLink$Dispenser" (15 : Nat) "CashLink$Dispenser" "jamAfter" "I") ∈ x_Wd := x_i1 145 (Eq.refl _) rfl
theorem q1_146 : (Jvm.Cond.fieldLink "CashLink" (104 : Nat) "CashLink$Dispenser" "jamAfter" "I") ∈ x_Wd := x_i1 146 (Eq.refl _) rfl
theorem q1_147 : (Jvm.Cond.fieldLink "CashLink$Dispenser" (29 : Nat) "CashLink$Dispenser" "lastTrace" "I") ∈ x_Wd := x_i1 147 (Eq.refl _) rfl
theorem q1_148 : (Jvm.Cond.fieldLink "CashLink$Dispenser" (38 : Nat) "CashLink$Dispenser" "lastValue" "I") ∈ x_Wd := x_i1 148 (Eq.refl _) rfl
theorem q1_149 : (Jvm.Cond.fieldLink "CashLink$Dispenser" (41 : Nat) "CashLink$Dispenser" "allValue" "I") ∈ x_Wd := x_i1 149 (Eq.refl _) rfl
theorem q1_161 : (Jvm.Cond.fieldLink "CashLink$Machine" (25 : Nat) "CashLink$State" "EMPTY" "LCashLink$State;") ∈ x_Wd := x_i1 161 (Eq.refl _) rfl
theorem q1_163 : (Jvm.Cond.classLink "CashLink$Machine" (34 : Nat) "java/util/ArrayList") ∈ x_Wd := x_i1 163 (Eq.refl _) rfl
theorem q1_164 : (Jvm.Cond.methodLink "CashLink$Machine" (36 : Nat) ({ cls := "java/util/ArrayList", name := "<init>", desc := "()V" } : Jvm.MethodName)) ∈ x_Wd := x_i1 164 (Eq.refl _) rfl
theorem q1_165 : (Jvm.Cond.fieldLink "CashLink$Machine" (41 : Nat) "CashLink$Machine" "id" "I") ∈ x_Wd := x_i1 165 (Eq.refl _) rfl
theorem q1_166 : (Jvm.Cond.fieldLink "CashLink$Machine" (45 : Nat) "CashLink$Machine" "network" "LCashLink$Network;") ∈ x_Wd := x_i1 166 (Eq.refl _) rfl
theorem q1_167 : (Jvm.Cond.fieldLink "CashLink$Machine" (49 : Nat) "CashLink$Machine" "takenBy" "[I") ∈ x_Wd := x_i1 167 (Eq.refl _) rfl
theorem q1_168 : (Jvm.Cond.fieldLink "CashLink$Machine" (14 : Nat) "CashLink$Machine" "journal" "LCashLink$Journal;") ∈ x_Wd := x_i1 168 (Eq.refl _) rfl
theorem q1_169 : (Jvm.Cond.fieldLink "CashLink" (121 : Nat) "CashLink$Machine" "journal" "LCashLink$Journal;") ∈ x_Wd := x_i1 169 (Eq.refl _) rfl
theorem q1_170 : (Jvm.Cond.fieldLink "CashLink$Machine" (21 : Nat) "CashLink$Machine" "dispenser" "LCashLink$Dispenser;") ∈ x_Wd := x_i1 170 (Eq.refl _) rfl
theorem q1_171 : (Jvm.Cond.fieldLink "CashLink" (100 : Nat) "CashLink$Machine" "dispenser" "LCashLink$Dispenser;") ∈ x_Wd := x_i1 171 (Eq.refl _) rfl
theorem q1_172 : (Jvm.Cond.fieldLink "CashLink$Machine" (31 : Nat) "CashLink$Machine" "state" "LCashLink$State;") ∈ x_Wd := x_i1 172 (Eq.refl _) rfl
theorem q1_173 : (Jvm.Cond.fieldLink "CashLink$Machine" (63 : Nat) "CashLink$Machine" "account" "I") ∈ x_Wd := x_i1 173 (Eq.refl _) rfl
theorem q1_174 : (Jvm.Cond.fieldLink "CashLink$Machine" (66 : Nat) "CashLink$Machine" "wrongPins" "I") ∈ x_Wd := x_i1 174 (Eq.refl _) rfl
theorem q1_175 : (Jvm.Cond.fieldLink "CashLink$Machine" (96 : Nat) "CashLink$Machine" "trace" "I") ∈ x_Wd := x_i1 175 (Eq.refl _) rfl
theorem q1_176 : (Jvm.Cond.fieldLink "CashLink$Machine" (106 : Nat) "CashLink$Machine" "amount" "I") ∈ x_Wd := x_i1 176 (Eq.refl _) rfl
theorem q1_177 : (Jvm.Cond.fieldLink "CashLink$Machine" (37 : Nat) "CashLink$Machine" "voids" "Ljava/util/ArrayList;") ∈ x_Wd := x_i1 177 (Eq.refl _) rfl
theorem q1_201 : (Jvm.Cond.fieldLink "CashLink" (18 : Nat) "CashLink" "network" "LCashLink$Network;") ∈ x_Wd := x_i1 201 (Eq.refl _) rfl
theorem q1_202 : (Jvm.Cond.fieldLink "CashLink" (31 : Nat) "CashLink" "bank" "LCashLink$Bank;") ∈ x_Wd := x_i1 202 (Eq.refl _) rfl
theorem q1_203 : (Jvm.Cond.fieldLink "CashLink" (11 : Nat) "CashLink" "machines" "[LCashLink$Machine;") ∈ x_Wd := x_i1 203 (Eq.refl _) rfl
theorem q1_204 : (Jvm.Cond.fieldLink "CashLink" (22 : Nat) "CashLink" "takenBy" "[I") ∈ x_Wd := x_i1 204 (Eq.refl _) rfl
theorem q1_214 : (Jvm.Cond.methodLink "CashLinkLaw" (81 : Nat) ({ cls := "CashLinkLaw", name := "card", desc := "(LCashLink;II)I" } : Jvm.MethodName)) ∈ x_Wd := x_i1 214 (Eq.refl _) rfl
theorem q1_215 : (Jvm.Cond.static ({ cls := "CashLinkLaw", name := "card", desc := "(LCashLink;II)I" } : Jvm.MethodName)) ∈ x_Wd := x_i1 215 (Eq.refl _) rfl
theorem q1_216 : (Jvm.Cond.codeWith ({ cls := "CashLinkLaw", name := "card", desc := "(LCashLink;II)I" } : Jvm.MethodName) method_3_code (4 : Nat) (Option.some Jvm.ClassFile.FieldType.int) [((0 : Nat), (6 : Nat), (9 : Nat), (13 : Nat)), ((0 : Nat), (6 : Nat), (12 : Nat), (15 : Nat))]) ∈ x_Wd := x_i1 216 (Eq.refl _) rfl
theorem q1_217 : (Jvm.Cond.classLink "CashLinkLaw" (13 : Nat) "java/lang/IllegalArgumentException") ∈ x_Wd := x_i1 217 (Eq.refl _) rfl
theorem q1_218 : (Jvm.Cond.classLink "CashLinkLaw" (15 : Nat) "java/lang/IllegalStateException") ∈ x_Wd := x_i1 218 (Eq.refl _) rfl
theorem q1_219 : (Jvm.Cond.methodLink "CashLinkLaw" (7 : Nat) ({ cls := "CashLink", name := "card", desc := "(II)V" } : Jvm.MethodName)) ∈ x_Wd := x_i1 219 (Eq.refl _) rfl
theorem q1_220 : (Jvm.Cond.instanceMethod ({ cls := "CashLink", name := "card", desc := "(II)V" } : Jvm.MethodName)) ∈ x_Wd := x_i1 220 (Eq.refl _) rfl
theorem q1_221 : (Jvm.Cond.selects "CashLink" ({ cls := "CashLink", name := "card", desc := "(II)V" } : Jvm.MethodName) ({ cls := "CashLink", name := "card", desc := "(II)V" } : Jvm.MethodName)) ∈ x_Wd := x_i1 221 (Eq.refl _) rfl
theorem q1_222 : (Jvm.Cond.code ({ cls := "CashLink", name := "card", desc := "(II)V" } : Jvm.MethodName) prog_1_method_2_code (4 : Nat) (Option.none : Option Jvm.ClassFile.FieldType)) ∈ x_Wd := x_i1 222 (Eq.refl _) rfl
theorem q1_223 : (Jvm.Cond.methodLink "CashLink" (38 : Nat) ({ cls := "CashLink", name := "machineAt", desc := "(I)LCashLink$Machine;" } : Jvm.MethodName)) ∈ x_Wd := x_i1 223 (Eq.refl _) rfl
theorem q1_225 : (Jvm.Cond.instanceMethod ({ cls := "CashLink", name := "machineAt", desc := "(I)LCashLink$Machine;" } : Jvm.MethodName)) ∈ x_Wd := x_i1 225 (Eq.refl _) rfl
theorem q1_226 : (Jvm.Cond.code ({ cls := "CashLink", name := "machineAt", desc := "(I)LCashLink$Machine;" } : Jvm.MethodName) prog_1_method_19_code (2 : Nat) (Option.some (Jvm.ClassFile.FieldType.object "CashLink$Machine"))) ∈ x_Wd := x_i1 226 (Eq.refl _) rfl
theorem q1_227 : (Jvm.Cond.methodLink "CashLink" (46 : Nat) ({ cls := "CashLink", name := "allow", desc := "(Z)V" } : Jvm.MethodName)) ∈ x_Wd := x_i1 227 (Eq.refl _) rfl
theorem q1_228 : (Jvm.Cond.static ({ cls := "CashLink", name := "allow", desc := "(Z)V" } : Jvm.MethodName)) ∈ x_Wd := x_i1 228 (Eq.refl _) rfl
theorem q1_229 : (Jvm.Cond.code ({ cls := "CashLink", name := "allow", desc := "(Z)V" } : Jvm.MethodName) prog_1_method_26_code (1 : Nat) (Option.none : Option Jvm.ClassFile.FieldType)) ∈ x_Wd := x_i1 229 (Eq.refl _) rfl
theorem q2_59 : (Jvm.Cond.arrayClass Jvm.ClassFile.FieldType.byte) ∈ x_Wd := x_i2 59 (Eq.refl _) rfl
theorem q2_60 : (Jvm.Cond.methodLink "CashLink" (42 : Nat) ({ cls := "CashLink", name := "isAccount", desc := "(I)Z" } : Jvm.MethodName)) ∈ x_Wd := x_i2 60 (Eq.refl _) rfl
theorem q2_61 : (Jvm.Cond.static ({ cls := "CashLink", name := "isAccount", desc := "(I)Z" } : Jvm.MethodName)) ∈ x_Wd := x_i2 61 (Eq.refl _) rfl
theorem q2_62 : (Jvm.Cond.code ({ cls := "CashLink", name := "isAccount", desc := "(I)Z" } : Jvm.MethodName) prog_1_method_24_code (1 : Nat) (Option.some Jvm.ClassFile.FieldType.boolean)) ∈ x_Wd := x_i2 62 (Eq.refl _) rfl
theorem q2_63 : (Jvm.Cond.methodLink "CashLink" (50 : Nat) ({ cls := "CashLink$Machine", name := "insert", desc := "(I)V" } : Jvm.MethodName)) ∈ x_Wd := x_i2 63 (Eq.refl _) rfl
theorem q2_64 : (Jvm.Cond.instanceMethod ({ cls := "CashLink$Machine", name := "insert", desc := "(I)V" } : Jvm.MethodName)) ∈ x_Wd := x_i2 64 (Eq.refl _) rfl
theorem q2_65 : (Jvm.Cond.selects "CashLink$Machine" ({ cls := "CashLink$Machine", name := "insert", desc := "(I)V" } : Jvm.MethodName) ({ cls := "CashLink$Machine", name := "insert", desc := "(I)V" } : Jvm.MethodName)) ∈ x_Wd := x_i2 65 (Eq.refl _) rfl
theorem q2_66 : (Jvm.Cond.code ({ cls := "CashLink$Machine", name := "insert", desc := "(I)V" } : Jvm.MethodName) prog_6_method_2_code (2 : Nat) (Option.none : Option Jvm.ClassFile.FieldType)) ∈ x_Wd := x_i2 66 (Eq.refl _) rfl
theorem q2_67 : (Jvm.Cond.methodLink "CashLink$Machine" (53 : Nat) ({ cls := "CashLink$Journal", name := "isOn", desc := "()Z" } : Jvm.MethodName)) ∈ x_Wd := x_i2 67 (Eq.refl _) rfl
theorem q2_68 : (Jvm.Cond.instanceMethod ({ cls := "CashLink$Journal", name := "isOn", desc := "()Z" } : Jvm.MethodName)) ∈ x_Wd := x_i2 68 (Eq.refl _) rfl
theorem q2_69 : (Jvm.Cond.selects "CashLink$Journal" ({ cls := "CashLink$Journal", name := "isOn", desc := "()Z" } : Jvm.MethodName) ({ cls := "CashLink$Journal", name := "isOn", desc := "()Z" } : Jvm.MethodName)) ∈ x_Wd := x_i2 69 (Eq.refl _) rfl
theorem q2_70 : (Jvm.Cond.code ({ cls := "CashLink$Journal", name := "isOn", desc := "()Z" } : Jvm.MethodName) prog_5_method_5_code (1 : Nat) (Option.some Jvm.ClassFile.FieldType.boolean)) ∈ x_Wd := x_i2 70 (Eq.refl _) rfl
theorem q2_71 : (Jvm.Cond.methodLinkNest "CashLink$Machine" (57 : Nat) ({ cls := "CashLink", name := "demand", desc := "(Z)V" } : Jvm.MethodName) "CashLink") ∈ x_Wd := x_i2 71 (Eq.refl _) rfl
theorem q2_72 : (Jvm.Cond.static ({ cls := "CashLink", name := "demand", desc := "(Z)V" } : Jvm.MethodName)) ∈ x_Wd := x_i2 72 (Eq.refl _) rfl
theorem q2_73 : (Jvm.Cond.code ({ cls := "CashLink", name := "demand", desc := "(Z)V" } : Jvm.MethodName) prog_1_method_27_code (1 : Nat) (Option.none : Option Jvm.ClassFile.FieldType)) ∈ x_Wd := x_i2 73 (Eq.refl _) rfl
theorem q2_90 : (Jvm.Cond.fieldLink "CashLink$Machine" (69 : Nat) "CashLink$State" "CARD" "LCashLink$State;") ∈ x_Wd := x_i2 90 (Eq.refl _) rfl
theorem q2_92 : (Jvm.Cond.methodLink "CashLinkLaw" (91 : Nat) ({ cls := "CashLinkLaw", name := "pin", desc := "(LCashLink;II[J)I" } : Jvm.MethodName)) ∈ x_Wd := x_i2 92 (Eq.refl _) rfl
theorem q2_93 : (Jvm.Cond.static ({ cls := "CashLinkLaw", name := "pin", desc := "(LCashLink;II[J)I" } : Jvm.MethodName)) ∈ x_Wd := x_i2 93 (Eq.refl _) rfl
theorem q2_94 : (Jvm.Cond.codeWith ({ cls := "CashLinkLaw", name := "pin", desc := "(LCashLink;II[J)I" } : Jvm.MethodName) method_4_code (5 : Nat) (Option.some Jvm.ClassFile.FieldType.int) [((0 : Nat), (17 : Nat), (20 : Nat), (13 : Nat)), ((0 : Nat), (17 : Nat), (24 : Nat), (15 : Nat))]) ∈ x_Wd := x_i2 94 (Eq.refl _) rfl
theorem q2_95 : (Jvm.Cond.methodLink "CashLinkLaw" (17 : Nat) ({ cls := "CashLink", name := "pin", desc := "(II)Z" } : Jvm.MethodName)) ∈ x_Wd := x_i2 95 (Eq.refl _) rfl
theorem q2_96 : (Jvm.Cond.instanceMethod ({ cls := "CashLink", name := "pin", desc := "(II)Z" } : Jvm.MethodName)) ∈ x_Wd := x_i2 96 (Eq.refl _) rfl
theorem q2_97 : (Jvm.Cond.selects "CashLink" ({ cls := "CashLink", name := "pin", desc := "(II)Z" } : Jvm.MethodName) ({ cls := "CashLink", name := "pin", desc := "(II)Z" } : Jvm.MethodName)) ∈ x_Wd := x_i2 97 (Eq.refl _) rfl
theorem q2_98 : (Jvm.Cond.code ({ cls := "CashLink", name := "pin", desc := "(II)Z" } : Jvm.MethodName) prog_1_method_3_code (3 : Nat) (Option.some Jvm.ClassFile.FieldType.boolean)) ∈ x_Wd := x_i2 98 (Eq.refl _) rfl
theorem q2_99 : (Jvm.Cond.methodLink "CashLink" (54 : Nat) ({ cls := "CashLink$Machine", name := "enter", desc := "(I)Z" } : Jvm.MethodName)) ∈ x_Wd := x_i2 99 (Eq.refl _) rfl
theorem q2_100 : (Jvm.Cond.instanceMethod ({ cls := "CashLink$Machine", name := "enter", desc := "(I)Z" } : Jvm.MethodName)) ∈ x_Wd := x_i2 100 (Eq.refl _) rfl
theorem q2_101 : (Jvm.Cond.selects "CashLink$Machine" ({ cls := "CashLink$Machine", name := "enter", desc := "(I)Z" } : Jvm.MethodName) ({ cls := "CashLink$Machine", name := "enter", desc := "(I)Z" } : Jvm.MethodName)) ∈ x_Wd := x_i2 101 (Eq.refl _) rfl
theorem q2_102 : (Jvm.Cond.code ({ cls := "CashLink$Machine", name := "enter", desc := "(I)Z" } : Jvm.MethodName) prog_6_method_3_code (2 : Nat) (Option.some Jvm.ClassFile.FieldType.boolean)) ∈ x_Wd := x_i2 102 (Eq.refl _) rfl
theorem q2_103 : (Jvm.Cond.fieldLink "CashLink$Machine" (72 : Nat) "CashLink$State" "READY" "LCashLink$State;") ∈ x_Wd := x_i2 103 (Eq.refl _) rfl
theorem q2_105 : (Jvm.Cond.methodLink "CashLinkLaw" (95 : Nat) ({ cls := "CashLinkLaw", name := "ask", desc := "(LCashLink;II[J)I" } : Jvm.MethodName)) ∈ x_Wd := x_i2 105 (Eq.refl _) rfl
theorem q2_106 : (Jvm.Cond.static ({ cls := "CashLinkLaw", name := "ask", desc := "(LCashLink;II[J)I" } : Jvm.MethodName)) ∈ x_Wd := x_i2 106 (Eq.refl _) rfl
theorem q2_107 : (Jvm.Cond.codeWith ({ cls := "CashLinkLaw", name := "ask", desc := "(LCashLink;II[J)I" } : Jvm.MethodName) method_5_code (5 : Nat) (Option.some Jvm.ClassFile.FieldType.int) [((0 : Nat), (10 : Nat), (13 : Nat), (13 : Nat)), ((0 : Nat), (10 : Nat), (17 : Nat), (15 : Nat)), ((0 : Nat), (10 : Nat), (21 : Nat), (25 : Nat)), ((0 : Nat), (10 : Nat), (25 : Nat), (27 : Nat))]) ∈ x_Wd := x_i2 107 (Eq.refl _) rfl
theorem q2_108 : (Jvm.Cond.classLink "CashLinkLaw" (25 : Nat) "java/lang/UnsupportedOperationException") ∈ x_Wd := x_i2 108 (Eq.refl _) rfl
theorem q2_109 : (Jvm.Cond.classLink "CashLinkLaw" (27 : Nat) "java/lang/ArithmeticException") ∈ x_Wd := x_i2 109 (Eq.refl _) rfl
theorem q2_110 : (Jvm.Cond.methodLink "CashLinkLaw" (21 : Nat) ({ cls := "CashLink", name := "ask", desc := "(II)I" } : Jvm.MethodName)) ∈ x_Wd := x_i2 110 (Eq.refl _) rfl
theorem q2_111 : (Jvm.Cond.instanceMethod ({ cls := "CashLink", name := "ask", desc := "(II)I" } : Jvm.MethodName)) ∈ x_Wd := x_i2 111 (Eq.refl _) rfl
theorem q2_112 : (Jvm.Cond.selects "CashLink" ({ cls := "CashLink", name := "ask", desc := "(II)I" } : Jvm.MethodName) ({ cls := "CashLink", name := "ask", desc := "(II)I" } : Jvm.MethodName)) ∈ x_Wd := x_i2 112 (Eq.refl _) rfl
theorem q2_113 : (Jvm.Cond.code ({ cls := "CashLink", name := "ask", desc := "(II)I" } : Jvm.MethodName) prog_1_method_4_code (4 : Nat) (Option.some Jvm.ClassFile.FieldType.int)) ∈ x_Wd := x_i2 113 (Eq.refl _) rfl
theorem q2_114 : (Jvm.Cond.methodLink "CashLink" (57 : Nat) ({ cls := "CashLink$Machine", name := "request", desc := "(I)I" } : Jvm.MethodName)) ∈ x_Wd := x_i2 114 (Eq.refl _) rfl
theorem q2_115 : (Jvm.Cond.instanceMethod ({ cls := "CashLink$Machine", name := "request", desc := "(I)I" } : Jvm.MethodName)) ∈ x_Wd := x_i2 115 (Eq.refl _) rfl
theorem q2_116 : (Jvm.Cond.selects "CashLink$Machine" ({ cls := "CashLink$Machine", name := "request", desc := "(I)I" } : Jvm.MethodName) ({ cls := "CashLink$Machine", name := "request", desc := "(I)I" } : Jvm.MethodName)) ∈ x_Wd := x_i2 116 (Eq.refl _) rfl
theorem q2_117 : (Jvm.Cond.code ({ cls := "CashLink$Machine", name := "request", desc := "(I)I" } : Jvm.MethodName) prog_6_method_4_code (3 : Nat) (Option.some Jvm.ClassFile.FieldType.int)) ∈ x_Wd := x_i2 117 (Eq.refl _) rfl
theorem q2_118 : (Jvm.Cond.methodLink "CashLink$Machine" (75 : Nat) ({ cls := "CashLink$Dispenser", name := "mixOf", desc := "(I)I" } : Jvm.MethodName)) ∈ x_Wd := x_i2 118 (Eq.refl _) rfl
theorem q2_119 : (Jvm.Cond.instanceMethod ({ cls := "CashLink$Dispenser", name := "mixOf", desc := "(I)I" } : Jvm.MethodName)) ∈ x_Wd := x_i2 119 (Eq.refl _) rfl
theorem q2_120 : (Jvm.Cond.selects "CashLink$Dispenser" ({ cls := "CashLink$Dispenser", name := "mixOf", desc := "(I)I" } : Jvm.MethodName) ({ cls := "CashLink$Dispenser", name := "mixOf", desc := "(I)I" } : Jvm.MethodName)) ∈ x_Wd := x_i2 120 (Eq.refl _) rfl
theorem q2_121 : (Jvm.Cond.code ({ cls := "CashLink$Dispenser", name := "mixOf", desc := "(I)I" } : Jvm.MethodName) prog_3_method_3_code (10 : Nat) (Option.some Jvm.ClassFile.FieldType.int)) ∈ x_Wd := x_i2 121 (Eq.refl _) rfl
theorem q2_122 : (Jvm.Cond.methodLink "CashLink$Dispenser" (23 : Nat) ({ cls := "java/lang/Math", name := "min", desc := "(II)I" } : Jvm.MethodName)) ∈ x_Wd := x_i2 122 (Eq.refl _) rfl
theorem q2_123 : (Jvm.Cond.static ({ cls := "java/lang/Math", name := "min", desc := "(II)I" } : Jvm.MethodName)) ∈ x_Wd := x_i2 123 (Eq.refl _) rfl
theorem q2_124 : (Jvm.Cond.code ({ cls := "java/lang/Math", name := "min", desc := "(II)I" } : Jvm.MethodName) prog_23_method_69_code (2 : Nat) (Option.some Jvm.ClassFile.FieldType.int)) ∈ x_Wd := x_i2 124 (Eq.refl _) rfl
theorem q2_125 : (Jvm.Cond.methodLink "CashLink$Machine" (79 : Nat) ({ cls := "java/util/ArrayList", name := "size", desc := "()I" } : Jvm.MethodName)) ∈ x_Wd := x_i2 125 (Eq.refl _) rfl
theorem q2_126 : (Jvm.Cond.instanceMethod ({ cls := "java/util/ArrayList", name := "size", desc := "()I" } : Jvm.MethodName)) ∈ x_Wd := x_i2 126 (Eq.refl _) rfl
theorem q2_127 : (Jvm.Cond.selects "java/util/ArrayList" ({ cls := "java/util/ArrayList", name := "size", desc := "()I" } : Jvm.MethodName) ({ cls := "java/util/ArrayList", name := "size", desc := "()I" } : Jvm.MethodName)) ∈ x_Wd := x_i2 127 (Eq.refl _) rfl
theorem q2_128 : (Jvm.Cond.code ({ cls := "java/util/ArrayList", name := "size", desc := "()I" } : Jvm.MethodName) prog_35_method_8_code (1 : Nat) (Option.some Jvm.ClassFile.FieldType.int)) ∈ x_Wd := x_i2 128 (Eq.refl _) rfl
theorem q2_129 : (Jvm.Cond.methodLink "CashLink$Machine" (83 : Nat) ({ cls := "CashLink$Journal", name := "hasRoomFor", desc := "(I)Z" } : Jvm.MethodName)) ∈ x_Wd := x_i2 129 (Eq.refl _) rfl
theorem q2_130 : (Jvm.Cond.instanceMethod ({ cls := "CashLink$Journal", name := "hasRoomFor", desc := "(I)Z" } : Jvm.MethodName)) ∈ x_Wd := x_i2 130 (Eq.refl _) rfl
theorem q2_131 : (Jvm.Cond.selects "CashLink$Journal" ({ cls := "CashLink$Journal", name := "hasRoomFor", desc := "(I)Z" } : Jvm.MethodName) ({ cls := "CashLink$Journal", name := "hasRoomFor", desc := "(I)Z" } : Jvm.MethodName)) ∈ x_Wd := x_i2 131 (Eq.refl _) rfl
theorem q2_132 : (Jvm.Cond.code ({ cls := "CashLink$Journal", name := "hasRoomFor", desc := "(I)Z" } : Jvm.MethodName) prog_5_method_4_code (2 : Nat) (Option.some Jvm.ClassFile.FieldType.boolean)) ∈ x_Wd := x_i2 132 (Eq.refl _) rfl
theorem q2_133 : (Jvm.Cond.methodLink "CashLink$Journal" (27 : Nat) ({ cls := "java/util/ArrayList", name := "size", desc := "()I" } : Jvm.MethodName)) ∈ x_Wd := x_i2 133 (Eq.refl _) rfl
theorem q2_150 : (Jvm.Cond.classLink "CashLink$Machine" (94 : Nat) "CashLink$Entry") ∈ x_Wd := x_i2 150 (Eq.refl _) rfl
theorem q2_151 : (Jvm.Cond.instantiable "CashLink$Entry" (6 : Nat)) ∈ x_Wd := x_i2 151 (Eq.refl _) rfl
theorem q2_152 : (Jvm.Cond.methodLinkNest "CashLink$Machine" (99 : Nat) ({ cls := "CashLink$Entry", name := "<init>", desc := "(IIIIII)V" } : Jvm.MethodName) "CashLink") ∈ x_Wd := x_i2 152 (Eq.refl _) rfl
theorem q2_153 : (Jvm.Cond.instanceMethod ({ cls := "CashLink$Entry", name := "<init>", desc := "(IIIIII)V" } : Jvm.MethodName)) ∈ x_Wd := x_i2 153 (Eq.refl _) rfl
theorem q2_154 : (Jvm.Cond.code ({ cls := "CashLink$Entry", name := "<init>", desc := "(IIIIII)V" } : Jvm.MethodName) prog_4_method_2_code (7 : Nat) (Option.none : Option Jvm.ClassFile.FieldType)) ∈ x_Wd := x_i2 154 (Eq.refl _) rfl
theorem q2_155 : (Jvm.Cond.methodLink "CashLink$Entry" (1 : Nat) ({ cls := "java/lang/Record", name := "<init>", desc := "()V" } : Jvm.MethodName)) ∈ x_Wd := x_i2 155 (Eq.refl _) rfl
theorem q2_156 : (Jvm.Cond.instanceMethod ({ cls := "java/lang/Record", name := "<init>", desc := "()V" } : Jvm.MethodName)) ∈ x_Wd := x_i2 156 (Eq.refl _) rfl
theorem q2_157 : (Jvm.Cond.code ({ cls := "java/lang/Record", name := "<init>", desc := "()V" } : Jvm.MethodName) prog_24_method_1_code (1 : Nat) (Option.none : Option Jvm.ClassFile.FieldType)) ∈ x_Wd := x_i2 157 (Eq.refl _) rfl
theorem q2_158 : (Jvm.Cond.methodLink "java/lang/Record" (1 : Nat) ({ cls := "java/lang/Object", name := "<init>", desc := "()V" } : Jvm.MethodName)) ∈ x_Wd := x_i2 158 (Eq.refl _) rfl
theorem q2_159 : (Jvm.Cond.fieldLink "CashLink$Entry" (7 : Nat) "CashLink$Entry" "kind" "I") ∈ x_Wd := x_i2 159 (Eq.refl _) rfl
theorem q2_160 : (Jvm.Cond.fieldLink "CashLink$Entry" (13 : Nat) "CashLink$Entry" "machine" "I") ∈ x_Wd := x_i2 160 (Eq.refl _) rfl
theorem q2_161 : (Jvm.Cond.fieldLink "CashLink$Entry" (16 : Nat) "CashLink$Entry" "trace" "I") ∈ x_Wd := x_i2 161 (Eq.refl _) rfl
theorem q2_162 : (Jvm.Cond.fieldLink "CashLink$Entry" (19 : Nat) "CashLink$Entry" "account" "I") ∈ x_Wd := x_i2 162 (Eq.refl _) rfl
theorem q2_163 : (Jvm.Cond.fieldLink "CashLink$Entry" (22 : Nat) "CashLink$Entry" "value" "I") ∈ x_Wd := x_i2 163 (Eq.refl _) rfl
theorem q2_164 : (Jvm.Cond.fieldLink "CashLink$Entry" (25 : Nat) "CashLink$Entry" "answer" "I") ∈ x_Wd := x_i2 164 (Eq.refl _) rfl
theorem q2_178 : (Jvm.Cond.methodLink "CashLink$Machine" (102 : Nat) ({ cls := "CashLink$Journal", name := "write", desc := "(LCashLink$Entry;)V" } : Jvm.MethodName)) ∈ x_Wd := x_i2 178 (Eq.refl _) rfl
theorem q2_179 : (Jvm.Cond.instanceMethod ({ cls := "CashLink$Journal", name := "write", desc := "(LCashLink$Entry;)V" } : Jvm.MethodName)) ∈ x_Wd := x_i2 179 (Eq.refl _) rfl
theorem q2_180 : (Jvm.Cond.selects "CashLink$Journal" ({ cls := "CashLink$Journal", name := "write", desc := "(LCashLink$Entry;)V" } : Jvm.MethodName) ({ cls := "CashLink$Journal", name := "write", desc := "(LCashLink$Entry;)V" } : Jvm.MethodName)) ∈ x_Wd := x_i2 180 (Eq.refl _) rfl
theorem q2_181 : (Jvm.Cond.code ({ cls := "CashLink$Journal", name := "write", desc := "(LCashLink$Entry;)V" } : Jvm.MethodName) prog_5_method_8_code (3 : Nat) (Option.none : Option Jvm.ClassFile.FieldType)) ∈ x_Wd := x_i2 181 (Eq.refl _) rfl
theorem q2_182 : (Jvm.Cond.methodLink "CashLink$Journal" (40 : Nat) ({ cls := "java/util/ArrayList", name := "add", desc := "(Ljava/lang/Object;)Z" } : Jvm.MethodName)) ∈ x_Wd := x_i2 182 (Eq.refl _) rfl
theorem q2_183 : (Jvm.Cond.instanceMethod ({ cls := "java/util/ArrayList", name := "add", desc := "(Ljava/lang/Object;)Z" } : Jvm.MethodName)) ∈ x_Wd := x_i2 183 (Eq.refl _) rfl
theorem q2_184 : (Jvm.Cond.selects "java/util/ArrayList" ({ cls := "java/util/ArrayList", name := "add", desc := "(Ljava/lang/Object;)Z" } : Jvm.MethodName) ({ cls := "java/util/ArrayList", name := "add", desc := "(Ljava/lang/Object;)Z" } : Jvm.MethodName)) ∈ x_Wd := x_i2 184 (Eq.refl _) rfl
theorem q2_185 : (Jvm.Cond.code ({ cls := "java/util/ArrayList", name := "add", desc := "(Ljava/lang/Object;)Z" } : Jvm.MethodName) prog_35_method_25_code (2 : Nat) (Option.some Jvm.ClassFile.FieldType.boolean)) ∈ x_Wd := x_i2 185 (Eq.refl _) rfl
theorem q2_186 : (Jvm.Cond.methodLink "java/util/ArrayList" (131 : Nat) ({ cls := "java/util/ArrayList", name := "add", desc := "(Ljava/lang/Object;[Ljava/lang/Object;I)V" } : Jvm.MethodName)) ∈ x_Wd := x_i2 186 (Eq.refl _) rfl
theorem q2_188 : (Jvm.Cond.instanceMethod ({ cls := "java/util/ArrayList", name := "add", desc := "(Ljava/lang/Object;[Ljava/lang/Object;I)V" } : Jvm.MethodName)) ∈ x_Wd := x_i2 188 (Eq.refl _) rfl
theorem q2_189 : (Jvm.Cond.code ({ cls := "java/util/ArrayList", name := "add", desc := "(Ljava/lang/Object;[Ljava/lang/Object;I)V" } : Jvm.MethodName) prog_35_method_24_code (4 : Nat) (Option.none : Option Jvm.ClassFile.FieldType)) ∈ x_Wd := x_i2 189 (Eq.refl _) rfl
theorem q2_190 : (Jvm.Cond.methodLink "java/util/ArrayList" (129 : Nat) ({ cls := "java/util/ArrayList", name := "grow", desc := "()[Ljava/lang/Object;" } : Jvm.MethodName)) ∈ x_Wd := x_i2 190 (Eq.refl _) rfl
theorem q2_192 : (Jvm.Cond.instanceMethod ({ cls := "java/util/ArrayList", name := "grow", desc := "()[Ljava/lang/Object;" } : Jvm.MethodName)) ∈ x_Wd := x_i2 192 (Eq.refl _) rfl
theorem q2_193 : (Jvm.Cond.code ({ cls := "java/util/ArrayList", name := "grow", desc := "()[Ljava/lang/Object;" } : Jvm.MethodName) prog_35_method_7_code (1 : Nat) (Option.some (Jvm.ClassFile.FieldType.array (Jvm.ClassFile.FieldType.object "java/lang/Object")))) ∈ x_Wd := x_i2 193 (Eq.refl _) rfl
theorem q2_194 : (Jvm.Cond.methodLink "java/util/ArrayList" (69 : Nat) ({ cls := "java/util/ArrayList", name := "grow", desc := "(I)[Ljava/lang/Object;" } : Jvm.MethodName)) ∈ x_Wd := x_i2 194 (Eq.refl _) rfl
theorem q2_196 : (Jvm.Cond.instanceMethod ({ cls := "java/util/ArrayList", name := "grow", desc := "(I)[Ljava/lang/Object;" } : Jvm.MethodName)) ∈ x_Wd := x_i2 196 (Eq.refl _) rfl
theorem q2_197 : (Jvm.Cond.code ({ cls := "java/util/ArrayList", name := "grow", desc := "(I)[Ljava/lang/Object;" } : Jvm.MethodName) prog_35_method_6_code (4 : Nat) (Option.some (Jvm.ClassFile.FieldType.array (Jvm.ClassFile.FieldType.object "java/lang/Object")))) ∈ x_Wd := x_i2 197 (Eq.refl _) rfl
theorem q2_198 : (Jvm.Cond.methodLink "java/util/ArrayList" (73 : Nat) ({ cls := "jdk/internal/util/ArraysSupport", name := "newLength", desc := "(III)I" } : Jvm.MethodName)) ∈ x_Wd := x_i2 198 (Eq.refl _) rfl
theorem q2_199 : (Jvm.Cond.static ({ cls := "jdk/internal/util/ArraysSupport", name := "newLength", desc := "(III)I" } : Jvm.MethodName)) ∈ x_Wd := x_i2 199 (Eq.refl _) rfl
theorem q2_200 : (Jvm.Cond.code ({ cls := "jdk/internal/util/ArraysSupport", name := "newLength", desc := "(III)I" } : Jvm.MethodName) prog_42_method_27_code (4 : Nat) (Option.some Jvm.ClassFile.FieldType.int)) ∈ x_Wd := x_i2 200 (Eq.refl _) rfl
theorem q2_201 : (Jvm.Cond.methodLink "jdk/internal/util/ArraysSupport" (194 : Nat) ({ cls := "java/lang/Math", name := "max", desc := "(II)I" } : Jvm.MethodName)) ∈ x_Wd := x_i2 201 (Eq.refl _) rfl
theorem q2_202 : (Jvm.Cond.static ({ cls := "java/lang/Math", name := "max", desc := "(II)I" } : Jvm.MethodName)) ∈ x_Wd := x_i2 202 (Eq.refl _) rfl
theorem q2_203 : (Jvm.Cond.code ({ cls := "java/lang/Math", name := "max", desc := "(II)I" } : Jvm.MethodName) prog_23_method_65_code (2 : Nat) (Option.some Jvm.ClassFile.FieldType.int)) ∈ x_Wd := x_i2 203 (Eq.refl _) rfl
theorem q2_204 : (Jvm.Cond.constant "jdk/internal/util/ArraysSupport" (200 : Nat) (2147483639 : Int32)) ∈ x_Wd := x_i2 204 (Eq.refl _) rfl
theorem q2_205 : (Jvm.Cond.methodLink "jdk/internal/util/ArraysSupport" (201 : Nat) ({ cls := "jdk/internal/util/ArraysSupport", name := "hugeLength", desc := "(II)I" } : Jvm.MethodName)) ∈ x_Wd := x_i2 205 (Eq.refl _) rfl
theorem q2_206 : (Jvm.Cond.static ({ cls := "jdk/internal/util/ArraysSupport", name := "hugeLength", desc := "(II)I" } : Jvm.MethodName)) ∈ x_Wd := x_i2 206 (Eq.refl _) rfl
theorem q2_207 : (Jvm.Cond.code ({ cls := "jdk/internal/util/ArraysSupport", name := "hugeLength", desc := "(II)I" } : Jvm.MethodName) prog_42_method_28_code (3 : Nat) (Option.some Jvm.ClassFile.FieldType.int)) ∈ x_Wd := x_i2 207 (Eq.refl _) rfl
theorem q2_208 : (Jvm.Cond.methodLink "java/util/ArrayList" (66 : Nat) ({ cls := "java/util/Arrays", name := "copyOf", desc := "([Ljava/lang/Object;I)[Ljava/lang/Object;" } : Jvm.MethodName)) ∈ x_Wd := x_i2 208 (Eq.refl _) rfl
theorem q2_209 : (Jvm.Cond.static ({ cls := "java/util/Arrays", name := "copyOf", desc := "([Ljava/lang/Object;I)[Ljava/lang/Object;" } : Jvm.MethodName)) ∈ x_Wd := x_i2 209 (Eq.refl _) rfl
theorem q2_210 : (Jvm.Cond.code ({ cls := "java/util/Arrays", name := "copyOf", desc := "([Ljava/lang/Object;I)[Ljava/lang/Object;" } : Jvm.MethodName) prog_36_method_119_code (2 : Nat) (Option.some (Jvm.ClassFile.FieldType.array (Jvm.ClassFile.FieldType.object "java/lang/Object")))) ∈ x_Wd := x_i2 210 (Eq.refl _) rfl
theorem q2_233 : (Jvm.Cond.methodLink "java/util/Arrays" (300 : Nat) ({ cls := "java/util/Arrays", name := "copyOf", desc := "([Ljava/lang/Object;ILjava/lang/Class;)[Ljava/lang/Object;" } : Jvm.MethodName)) ∈ x_Wd := x_i2 233 (Eq.refl _) rfl
theorem q2_234 : (Jvm.Cond.static ({ cls := "java/util/Arrays", name := "copyOf", desc := "([Ljava/lang/Object;ILjava/lang/Class;)[Ljava/lang/Object;" } : Jvm.MethodName)) ∈ x_Wd := x_i2 234 (Eq.refl _) rfl
theorem q2_235 : (Jvm.Cond.code ({ cls := "java/util/Arrays", name := "copyOf", desc := "([Ljava/lang/Object;ILjava/lang/Class;)[Ljava/lang/Object;" } : Jvm.MethodName) prog_36_method_120_code (4 : Nat) (Option.some (Jvm.ClassFile.FieldType.array (Jvm.ClassFile.FieldType.object "java/lang/Object")))) ∈ x_Wd := x_i2 235 (Eq.refl _) rfl
theorem q2_237 : (Jvm.Cond.arrayOver (Jvm.ClassFile.FieldType.object "java/lang/Object")) ∈ x_Wd := x_i2 237 (Eq.refl _) rfl
theorem q2_238 : (Jvm.Cond.classLink "java/util/Arrays" (2 : Nat) "java/lang/Object") ∈ x_Wd := x_i2 238 (Eq.refl _) rfl
theorem q2_239 : (Jvm.Cond.methodLink "java/util/Arrays" (304 : Nat) ({ cls := "java/lang/Math", name := "min", desc := "(II)I" } : Jvm.MethodName)) ∈ x_Wd := x_i2 239 (Eq.refl _) rfl
theorem q3_3 : (Jvm.Cond.methodLink "java/util/ArrayList" (79 : Nat) ({ cls := "java/lang/Math", name := "max", desc := "(II)I" } : Jvm.MethodName)) ∈ x_Wd := x_i3 3 (Eq.refl _) rfl
theorem q3_4 : (Jvm.Cond.classLink "java/util/ArrayList" (7 : Nat) "java/lang/Object") ∈ x_Wd := x_i3 4 (Eq.refl _) rfl
theorem q3_21 : (Jvm.Cond.fieldLink "CashLink$Machine" (109 : Nat) "CashLink$Type" "REQUEST" "LCashLink$Type;") ∈ x_Wd := x_i3 21 (Eq.refl _) rfl
theorem q3_23 : (Jvm.Cond.methodLink "CashLink$Machine" (115 : Nat) ({ cls := "CashLink$Network", name := "send", desc := "(LCashLink$Type;IIIII)Z" } : Jvm.MethodName)) ∈ x_Wd := x_i3 23 (Eq.refl _) rfl
theorem q3_24 : (Jvm.Cond.instanceMethod ({ cls := "CashLink$Network", name := "send", desc := "(LCashLink$Type;IIIII)Z" } : Jvm.MethodName)) ∈ x_Wd := x_i3 24 (Eq.refl _) rfl
theorem q3_25 : (Jvm.Cond.selects "CashLink$Network" ({ cls := "CashLink$Network", name := "send", desc := "(LCashLink$Type;IIIII)Z" } : Jvm.MethodName) ({ cls := "CashLink$Network", name := "send", desc := "(LCashLink$Type;IIIII)Z" } : Jvm.MethodName)) ∈ x_Wd := x_i3 25 (Eq.refl _) rfl
theorem q3_26 : (Jvm.Cond.code ({ cls := "CashLink$Network", name := "send", desc := "(LCashLink$Type;IIIII)Z" } : Jvm.MethodName) prog_8_method_4_code (7 : Nat) (Option.some Jvm.ClassFile.FieldType.boolean)) ∈ x_Wd := x_i3 26 (Eq.refl _) rfl
theorem q3_27 : (Jvm.Cond.methodLink "CashLink$Network" (16 : Nat) ({ cls := "java/util/ArrayList", name := "size", desc := "()I" } : Jvm.MethodName)) ∈ x_Wd := x_i3 27 (Eq.refl _) rfl
theorem q3_28 : (Jvm.Cond.classLink "CashLink$Network" (24 : Nat) "CashLink$Message") ∈ x_Wd := x_i3 28 (Eq.refl _) rfl
theorem q3_29 : (Jvm.Cond.instantiable "CashLink$Message" (6 : Nat)) ∈ x_Wd := x_i3 29 (Eq.refl _) rfl
theorem q3_30 : (Jvm.Cond.methodLinkNest "CashLink$Network" (26 : Nat) ({ cls := "CashLink$Message", name := "<init>", desc := "(LCashLink$Type;IIIII)V" } : Jvm.MethodName) "CashLink") ∈ x_Wd := x_i3 30 (Eq.refl _) rfl
theorem q3_31 : (Jvm.Cond.instanceMethod ({ cls := "CashLink$Message", name := "<init>", desc := "(LCashLink$Type;IIIII)V" } : Jvm.MethodName)) ∈ x_Wd := x_i3 31 (Eq.refl _) rfl
theorem q3_32 : (Jvm.Cond.code ({ cls := "CashLink$Message", name := "<init>", desc := "(LCashLink$Type;IIIII)V" } : Jvm.MethodName) prog_7_method_1_code (7 : Nat) (Option.none : Option Jvm.ClassFile.FieldType)) ∈ x_Wd := x_i3 32 (Eq.refl _) rfl
theorem q3_33 : (Jvm.Cond.methodLink "CashLink$Message" (1 : Nat) ({ cls := "java/lang/Record", name := "<init>", desc := "()V" } : Jvm.MethodName)) ∈ x_Wd := x_i3 33 (Eq.refl _) rfl
theorem q3_34 : (Jvm.Cond.fieldLink "CashLink$Message" (7 : Nat) "CashLink$Message" "type" "LCashLink$Type;") ∈ x_Wd := x_i3 34 (Eq.refl _) rfl
theorem q3_35 : (Jvm.Cond.fieldLink "CashLink$Message" (13 : Nat) "CashLink$Message" "machine" "I") ∈ x_Wd := x_i3 35 (Eq.refl _) rfl
theorem q3_36 : (Jvm.Cond.fieldLink "CashLink$Message" (17 : Nat) "CashLink$Message" "trace" "I") ∈ x_Wd := x_i3 36 (Eq.refl _) rfl
theorem q3_37 : (Jvm.Cond.fieldLink "CashLink$Message" (20 : Nat) "CashLink$Message" "account" "I") ∈ x_Wd := x_i3 37 (Eq.refl _) rfl
theorem q3_38 : (Jvm.Cond.fieldLink "CashLink$Message" (23 : Nat) "CashLink$Message" "amount" "I") ∈ x_Wd := x_i3 38 (Eq.refl _) rfl
theorem q3_39 : (Jvm.Cond.fieldLink "CashLink$Message" (26 : Nat) "CashLink$Message" "answer" "I") ∈ x_Wd := x_i3 39 (Eq.refl _) rfl
theorem q3_53 : (Jvm.Cond.methodLink "CashLink$Network" (29 : Nat) ({ cls := "java/util/ArrayList", name := "add", desc := "(Ljava/lang/Object;)Z" } : Jvm.MethodName)) ∈ x_Wd := x_i3 53 (Eq.refl _) rfl
theorem q3_54 : (Jvm.Cond.fieldLink "CashLink$Machine" (121 : Nat) "CashLink$State" "WAITS" "LCashLink$State;") ∈ x_Wd := x_i3 54 (Eq.refl _) rfl
theorem q3_56 : (Jvm.Cond.methodLink "CashLinkLaw" (98 : Nat) ({ cls := "CashLinkLaw", name := "cancel", desc := "(LCashLink;I)I" } : Jvm.MethodName)) ∈ x_Wd := x_i3 56 (Eq.refl _) rfl
theorem q3_57 : (Jvm.Cond.static ({ cls := "CashLinkLaw", name := "cancel", desc := "(LCashLink;I)I" } : Jvm.MethodName)) ∈ x_Wd := x_i3 57 (Eq.refl _) rfl
theorem q3_58 : (Jvm.Cond.codeWith ({ cls := "CashLinkLaw", name := "cancel", desc := "(LCashLink;I)I" } : Jvm.MethodName) method_6_code (3 : Nat) (Option.some Jvm.ClassFile.FieldType.int) [((0 : Nat), (5 : Nat), (8 : Nat), (13 : Nat)), ((0 : Nat), (5 : Nat), (11 : Nat), (15 : Nat)), ((0 : Nat), (5 : Nat), (14 : Nat), (27 : Nat))]) ∈ x_Wd := x_i3 58 (Eq.refl _) rfl
theorem q3_59 : (Jvm.Cond.methodLink "CashLinkLaw" (29 : Nat) ({ cls := "CashLink", name := "cancel", desc := "(I)V" } : Jvm.MethodName)) ∈ x_Wd := x_i3 59 (Eq.refl _) rfl
theorem q3_60 : (Jvm.Cond.instanceMethod ({ cls := "CashLink", name := "cancel", desc := "(I)V" } : Jvm.MethodName)) ∈ x_Wd := x_i3 60 (Eq.refl _) rfl
theorem q3_61 : (Jvm.Cond.selects "CashLink" ({ cls := "CashLink", name := "cancel", desc := "(I)V" } : Jvm.MethodName) ({ cls := "CashLink", name := "cancel", desc := "(I)V" } : Jvm.MethodName)) ∈ x_Wd := x_i3 61 (Eq.refl _) rfl
theorem q3_62 : (Jvm.Cond.code ({ cls := "CashLink", name := "cancel", desc := "(I)V" } : Jvm.MethodName) prog_1_method_5_code (2 : Nat) (Option.none : Option Jvm.ClassFile.FieldType)) ∈ x_Wd := x_i3 62 (Eq.refl _) rfl
theorem q3_63 : (Jvm.Cond.methodLink "CashLink" (61 : Nat) ({ cls := "CashLink$Machine", name := "giveUp", desc := "()V" } : Jvm.MethodName)) ∈ x_Wd := x_i3 63 (Eq.refl _) rfl
theorem q3_64 : (Jvm.Cond.instanceMethod ({ cls := "CashLink$Machine", name := "giveUp", desc := "()V" } : Jvm.MethodName)) ∈ x_Wd := x_i3 64 (Eq.refl _) rfl
theorem q3_65 : (Jvm.Cond.selects "CashLink$Machine" ({ cls := "CashLink$Machine", name := "giveUp", desc := "()V" } : Jvm.MethodName) ({ cls := "CashLink$Machine", name := "giveUp", desc := "()V" } : Jvm.MethodName)) ∈ x_Wd := x_i3 65 (Eq.refl _) rfl
theorem q3_66 : (Jvm.Cond.code ({ cls := "CashLink$Machine", name := "giveUp", desc := "()V" } : Jvm.MethodName) prog_6_method_5_code (1 : Nat) (Option.none : Option Jvm.ClassFile.FieldType)) ∈ x_Wd := x_i3 66 (Eq.refl _) rfl
theorem q3_67 : (Jvm.Cond.methodLink "CashLink$Machine" (124 : Nat) ({ cls := "CashLink$Machine", name := "voidRest", desc := "(I)V" } : Jvm.MethodName)) ∈ x_Wd := x_i3 67 (Eq.refl _) rfl
theorem q3_69 : (Jvm.Cond.instanceMethod ({ cls := "CashLink$Machine", name := "voidRest", desc := "(I)V" } : Jvm.MethodName)) ∈ x_Wd := x_i3 69 (Eq.refl _) rfl
theorem q3_70 : (Jvm.Cond.code ({ cls := "CashLink$Machine", name := "voidRest", desc := "(I)V" } : Jvm.MethodName) prog_6_method_12_code (4 : Nat) (Option.none : Option Jvm.ClassFile.FieldType)) ∈ x_Wd := x_i3 70 (Eq.refl _) rfl
theorem q3_71 : (Jvm.Cond.methodLink "CashLink$Machine" (178 : Nat) ({ cls := "CashLink$Entry", name := "<init>", desc := "(IIII)V" } : Jvm.MethodName)) ∈ x_Wd := x_i3 71 (Eq.refl _) rfl
theorem q3_72 : (Jvm.Cond.instanceMethod ({ cls := "CashLink$Entry", name := "<init>", desc := "(IIII)V" } : Jvm.MethodName)) ∈ x_Wd := x_i3 72 (Eq.refl _) rfl
theorem q3_73 : (Jvm.Cond.code ({ cls := "CashLink$Entry", name := "<init>", desc := "(IIII)V" } : Jvm.MethodName) prog_4_method_1_code (5 : Nat) (Option.none : Option Jvm.ClassFile.FieldType)) ∈ x_Wd := x_i3 73 (Eq.refl _) rfl
theorem q3_74 : (Jvm.Cond.methodLink "CashLink$Entry" (28 : Nat) ({ cls := "CashLink$Entry", name := "<init>", desc := "(IIIIII)V" } : Jvm.MethodName)) ∈ x_Wd := x_i3 74 (Eq.refl _) rfl
theorem q3_75 : (Jvm.Cond.methodLink "CashLink$Machine" (191 : Nat) ({ cls := "java/util/ArrayList", name := "add", desc := "(Ljava/lang/Object;)Z" } : Jvm.MethodName)) ∈ x_Wd := x_i3 75 (Eq.refl _) rfl
theorem q3_76 : (Jvm.Cond.fieldLink "CashLink$Machine" (131 : Nat) "CashLink$Type" "REVERSAL" "LCashLink$Type;") ∈ x_Wd := x_i3 76 (Eq.refl _) rfl
theorem q3_78 : (Jvm.Cond.methodLink "CashLinkLaw" (102 : Nat) ({ cls := "CashLinkLaw", name := "again", desc := "(LCashLink;I[J)I" } : Jvm.MethodName)) ∈ x_Wd := x_i3 78 (Eq.refl _) rfl
theorem q3_79 : (Jvm.Cond.static ({ cls := "CashLinkLaw", name := "again", desc := "(LCashLink;I[J)I" } : Jvm.MethodName)) ∈ x_Wd := x_i3 79 (Eq.refl _) rfl
theorem q3_80 : (Jvm.Cond.codeWith ({ cls := "CashLinkLaw", name := "again", desc := "(LCashLink;I[J)I" } : Jvm.MethodName) method_7_code (4 : Nat) (Option.some Jvm.ClassFile.FieldType.int) [((0 : Nat), (9 : Nat), (12 : Nat), (13 : Nat)), ((0 : Nat), (9 : Nat), (15 : Nat), (15 : Nat))]) ∈ x_Wd := x_i3 80 (Eq.refl _) rfl
theorem q3_81 : (Jvm.Cond.methodLink "CashLinkLaw" (33 : Nat) ({ cls := "CashLink", name := "again", desc := "(I)I" } : Jvm.MethodName)) ∈ x_Wd := x_i3 81 (Eq.refl _) rfl
theorem q3_82 : (Jvm.Cond.instanceMethod ({ cls := "CashLink", name := "again", desc := "(I)I" } : Jvm.MethodName)) ∈ x_Wd := x_i3 82 (Eq.refl _) rfl
theorem q3_83 : (Jvm.Cond.selects "CashLink" ({ cls := "CashLink", name := "again", desc := "(I)I" } : Jvm.MethodName) ({ cls := "CashLink", name := "again", desc := "(I)I" } : Jvm.MethodName)) ∈ x_Wd := x_i3 83 (Eq.refl _) rfl
theorem q3_84 : (Jvm.Cond.code ({ cls := "CashLink", name := "again", desc := "(I)I" } : Jvm.MethodName) prog_1_method_6_code (2 : Nat) (Option.some Jvm.ClassFile.FieldType.int)) ∈ x_Wd := x_i3 84 (Eq.refl _) rfl
theorem q3_85 : (Jvm.Cond.methodLink "CashLink" (64 : Nat) ({ cls := "CashLink$Machine", name := "repeatReversals", desc := "()I" } : Jvm.MethodName)) ∈ x_Wd := x_i3 85 (Eq.refl _) rfl
theorem q3_86 : (Jvm.Cond.instanceMethod ({ cls := "CashLink$Machine", name := "repeatReversals", desc := "()I" } : Jvm.MethodName)) ∈ x_Wd := x_i3 86 (Eq.refl _) rfl
theorem q3_87 : (Jvm.Cond.selects "CashLink$Machine" ({ cls := "CashLink$Machine", name := "repeatReversals", desc := "()I" } : Jvm.MethodName) ({ cls := "CashLink$Machine", name := "repeatReversals", desc := "()I" } : Jvm.MethodName)) ∈ x_Wd := x_i3 87 (Eq.refl _) rfl
theorem q3_88 : (Jvm.Cond.code ({ cls := "CashLink$Machine", name := "repeatReversals", desc := "()I" } : Jvm.MethodName) prog_6_method_6_code (3 : Nat) (Option.some Jvm.ClassFile.FieldType.int)) ∈ x_Wd := x_i3 88 (Eq.refl _) rfl
theorem q3_89 : (Jvm.Cond.methodLink "CashLink$Machine" (127 : Nat) ({ cls := "java/util/ArrayList", name := "get", desc := "(I)Ljava/lang/Object;" } : Jvm.MethodName)) ∈ x_Wd := x_i3 89 (Eq.refl _) rfl
theorem q3_90 : (Jvm.Cond.instanceMethod ({ cls := "java/util/ArrayList", name := "get", desc := "(I)Ljava/lang/Object;" } : Jvm.MethodName)) ∈ x_Wd := x_i3 90 (Eq.refl _) rfl
theorem q3_91 : (Jvm.Cond.selects "java/util/ArrayList" ({ cls := "java/util/ArrayList", name := "get", desc := "(I)Ljava/lang/Object;" } : Jvm.MethodName) ({ cls := "java/util/ArrayList", name := "get", desc := "(I)Ljava/lang/Object;" } : Jvm.MethodName)) ∈ x_Wd := x_i3 91 (Eq.refl _) rfl
theorem q3_92 : (Jvm.Cond.code ({ cls := "java/util/ArrayList", name := "get", desc := "(I)Ljava/lang/Object;" } : Jvm.MethodName) prog_35_method_20_code (2 : Nat) (Option.some (Jvm.ClassFile.FieldType.object "java/lang/Object"))) ∈ x_Wd := x_i3 92 (Eq.refl _) rfl
theorem q3_93 : (Jvm.Cond.methodLink "java/util/ArrayList" (118 : Nat) ({ cls := "java/util/Objects", name := "checkIndex", desc := "(II)I" } : Jvm.MethodName)) ∈ x_Wd := x_i3 93 (Eq.refl _) rfl
theorem q3_94 : (Jvm.Cond.static ({ cls := "java/util/Objects", name := "checkIndex", desc := "(II)I" } : Jvm.MethodName)) ∈ x_Wd := x_i3 94 (Eq.refl _) rfl
theorem q3_95 : (Jvm.Cond.code ({ cls := "java/util/Objects", name := "checkIndex", desc := "(II)I" } : Jvm.MethodName) prog_39_method_17_code (2 : Nat) (Option.some Jvm.ClassFile.FieldType.int)) ∈ x_Wd := x_i3 95 (Eq.refl _) rfl
theorem q3_96 : (Jvm.Cond.methodLink "java/util/Objects" (105 : Nat) ({ cls := "jdk/internal/util/Preconditions", name := "checkIndex", desc := "(IILjava/util/function/BiFunction;)I" } : Jvm.MethodName)) ∈ x_Wd := x_i3 96 (Eq.refl _) rfl
theorem q3_97 : (Jvm.Cond.static ({ cls := "jdk/internal/util/Preconditions", name := "checkIndex", desc := "(IILjava/util/function/BiFunction;)I" } : Jvm.MethodName)) ∈ x_Wd := x_i3 97 (Eq.refl _) rfl
theorem q3_98 : (Jvm.Cond.code ({ cls := "jdk/internal/util/Preconditions", name := "checkIndex", desc := "(IILjava/util/function/BiFunction;)I" } : Jvm.MethodName) prog_43_method_11_code (3 : Nat) (Option.some Jvm.ClassFile.FieldType.int)) ∈ x_Wd := x_i3 98 (Eq.refl _) rfl
theorem q3_99 : (Jvm.Cond.methodLink "java/util/ArrayList" (123 : Nat) ({ cls := "java/util/ArrayList", name := "elementData", desc := "(I)Ljava/lang/Object;" } : Jvm.MethodName)) ∈ x_Wd := x_i3 99 (Eq.refl _) rfl
theorem q3_100 : (Jvm.Cond.instanceMethod ({ cls := "java/util/ArrayList", name := "elementData", desc := "(I)Ljava/lang/Object;" } : Jvm.MethodName)) ∈ x_Wd := x_i3 100 (Eq.refl _) rfl
theorem q3_101 : (Jvm.Cond.selects "java/util/ArrayList" ({ cls := "java/util/ArrayList", name := "elementData", desc := "(I)Ljava/lang/Object;" } : Jvm.MethodName) ({ cls := "java/util/ArrayList", name := "elementData", desc := "(I)Ljava/lang/Object;" } : Jvm.MethodName)) ∈ x_Wd := x_i3 101 (Eq.refl _) rfl
theorem q3_102 : (Jvm.Cond.code ({ cls := "java/util/ArrayList", name := "elementData", desc := "(I)Ljava/lang/Object;" } : Jvm.MethodName) prog_35_method_18_code (2 : Nat) (Option.some (Jvm.ClassFile.FieldType.object "java/lang/Object"))) ∈ x_Wd := x_i3 102 (Eq.refl _) rfl
theorem q3_103 : (Jvm.Cond.methodLink "CashLink$Machine" (134 : Nat) ({ cls := "CashLink$Entry", name := "trace", desc := "()I" } : Jvm.MethodName)) ∈ x_Wd := x_i3 103 (Eq.refl _) rfl
theorem q3_104 : (Jvm.Cond.instanceMethod ({ cls := "CashLink$Entry", name := "trace", desc := "()I" } : Jvm.MethodName)) ∈ x_Wd := x_i3 104 (Eq.refl _) rfl
theorem q3_105 : (Jvm.Cond.selects "CashLink$Entry" ({ cls := "CashLink$Entry", name := "trace", desc := "()I" } : Jvm.MethodName) ({ cls := "CashLink$Entry", name := "trace", desc := "()I" } : Jvm.MethodName)) ∈ x_Wd := x_i3 105 (Eq.refl _) rfl
theorem q3_106 : (Jvm.Cond.code ({ cls := "CashLink$Entry", name := "trace", desc := "()I" } : Jvm.MethodName) prog_4_method_9_code (1 : Nat) (Option.some Jvm.ClassFile.FieldType.int)) ∈ x_Wd := x_i3 106 (Eq.refl _) rfl
theorem q3_107 : (Jvm.Cond.methodLink "CashLink$Machine" (136 : Nat) ({ cls := "CashLink$Entry", name := "value", desc := "()I" } : Jvm.MethodName)) ∈ x_Wd := x_i3 107 (Eq.refl _) rfl
theorem q3_108 : (Jvm.Cond.instanceMethod ({ cls := "CashLink$Entry", name := "value", desc := "()I" } : Jvm.MethodName)) ∈ x_Wd := x_i3 108 (Eq.refl _) rfl
theorem q3_109 : (Jvm.Cond.selects "CashLink$Entry" ({ cls := "CashLink$Entry", name := "value", desc := "()I" } : Jvm.MethodName) ({ cls := "CashLink$Entry", name := "value", desc := "()I" } : Jvm.MethodName)) ∈ x_Wd := x_i3 109 (Eq.refl _) rfl
theorem q3_110 : (Jvm.Cond.code ({ cls := "CashLink$Entry", name := "value", desc := "()I" } : Jvm.MethodName) prog_4_method_11_code (1 : Nat) (Option.some Jvm.ClassFile.FieldType.int)) ∈ x_Wd := x_i3 110 (Eq.refl _) rfl
theorem q3_111 : (Jvm.Cond.methodLink "CashLinkLaw" (106 : Nat) ({ cls := "CashLinkLaw", name := "settle", desc := "(LCashLink;I[J)I" } : Jvm.MethodName)) ∈ x_Wd := x_i3 111 (Eq.refl _) rfl
theorem q3_112 : (Jvm.Cond.static ({ cls := "CashLinkLaw", name := "settle", desc := "(LCashLink;I[J)I" } : Jvm.MethodName)) ∈ x_Wd := x_i3 112 (Eq.refl _) rfl
theorem q3_113 : (Jvm.Cond.codeWith ({ cls := "CashLinkLaw", name := "settle", desc := "(LCashLink;I[J)I" } : Jvm.MethodName) method_8_code (4 : Nat) (Option.some Jvm.ClassFile.FieldType.int) [((0 : Nat), (9 : Nat), (12 : Nat), (13 : Nat)), ((0 : Nat), (9 : Nat), (15 : Nat), (15 : Nat))]) ∈ x_Wd := x_i3 113 (Eq.refl _) rfl
theorem q3_114 : (Jvm.Cond.methodLink "CashLinkLaw" (37 : Nat) ({ cls := "CashLink", name := "settle", desc := "(I)I" } : Jvm.MethodName)) ∈ x_Wd := x_i3 114 (Eq.refl _) rfl
theorem q3_115 : (Jvm.Cond.instanceMethod ({ cls := "CashLink", name := "settle", desc := "(I)I" } : Jvm.MethodName)) ∈ x_Wd := x_i3 115 (Eq.refl _) rfl
theorem q3_116 : (Jvm.Cond.selects "CashLink" ({ cls := "CashLink", name := "settle", desc := "(I)I" } : Jvm.MethodName) ({ cls := "CashLink", name := "settle", desc := "(I)I" } : Jvm.MethodName)) ∈ x_Wd := x_i3 116 (Eq.refl _) rfl
theorem q3_117 : (Jvm.Cond.code ({ cls := "CashLink", name := "settle", desc := "(I)I" } : Jvm.MethodName) prog_1_method_7_code (2 : Nat) (Option.some Jvm.ClassFile.FieldType.int)) ∈ x_Wd := x_i3 117 (Eq.refl _) rfl
theorem q3_118 : (Jvm.Cond.methodLink "CashLink" (68 : Nat) ({ cls := "CashLink$Machine", name := "sendTotals", desc := "()I" } : Jvm.MethodName)) ∈ x_Wd := x_i3 118 (Eq.refl _) rfl
theorem q3_119 : (Jvm.Cond.instanceMethod ({ cls := "CashLink$Machine", name := "sendTotals", desc := "()I" } : Jvm.MethodName)) ∈ x_Wd := x_i3 119 (Eq.refl _) rfl
theorem q3_120 : (Jvm.Cond.selects "CashLink$Machine" ({ cls := "CashLink$Machine", name := "sendTotals", desc := "()I" } : Jvm.MethodName) ({ cls := "CashLink$Machine", name := "sendTotals", desc := "()I" } : Jvm.MethodName)) ∈ x_Wd := x_i3 120 (Eq.refl _) rfl
theorem q3_121 : (Jvm.Cond.code ({ cls := "CashLink$Machine", name := "sendTotals", desc := "()I" } : Jvm.MethodName) prog_6_method_7_code (4 : Nat) (Option.some Jvm.ClassFile.FieldType.int)) ∈ x_Wd := x_i3 121 (Eq.refl _) rfl
theorem q3_122 : (Jvm.Cond.methodLink "CashLink$Machine" (139 : Nat) ({ cls := "CashLink$Machine", name := "isQuiet", desc := "()Z" } : Jvm.MethodName)) ∈ x_Wd := x_i3 122 (Eq.refl _) rfl
theorem q3_123 : (Jvm.Cond.instanceMethod ({ cls := "CashLink$Machine", name := "isQuiet", desc := "()Z" } : Jvm.MethodName)) ∈ x_Wd := x_i3 123 (Eq.refl _) rfl
theorem q3_124 : (Jvm.Cond.selects "CashLink$Machine" ({ cls := "CashLink$Machine", name := "isQuiet", desc := "()Z" } : Jvm.MethodName) ({ cls := "CashLink$Machine", name := "isQuiet", desc := "()Z" } : Jvm.MethodName)) ∈ x_Wd := x_i3 124 (Eq.refl _) rfl
theorem q3_125 : (Jvm.Cond.code ({ cls := "CashLink$Machine", name := "isQuiet", desc := "()Z" } : Jvm.MethodName) prog_6_method_20_code (1 : Nat) (Option.some Jvm.ClassFile.FieldType.boolean)) ∈ x_Wd := x_i3 125 (Eq.refl _) rfl
theorem q3_126 : (Jvm.Cond.methodLink "CashLink$Machine" (223 : Nat) ({ cls := "java/util/ArrayList", name := "isEmpty", desc := "()Z" } : Jvm.MethodName)) ∈ x_Wd := x_i3 126 (Eq.refl _) rfl
theorem q3_127 : (Jvm.Cond.instanceMethod ({ cls := "java/util/ArrayList", name := "isEmpty", desc := "()Z" } : Jvm.MethodName)) ∈ x_Wd := x_i3 127 (Eq.refl _) rfl
theorem q3_128 : (Jvm.Cond.selects "java/util/ArrayList" ({ cls := "java/util/ArrayList", name := "isEmpty", desc := "()Z" } : Jvm.MethodName) ({ cls := "java/util/ArrayList", name := "isEmpty", desc := "()Z" } : Jvm.MethodName)) ∈ x_Wd := x_i3 128 (Eq.refl _) rfl
theorem q3_129 : (Jvm.Cond.code ({ cls := "java/util/ArrayList", name := "isEmpty", desc := "()Z" } : Jvm.MethodName) prog_35_method_9_code (1 : Nat) (Option.some Jvm.ClassFile.FieldType.boolean)) ∈ x_Wd := x_i3 129 (Eq.refl _) rfl
theorem q3_130 : (Jvm.Cond.methodLink "CashLink$Machine" (142 : Nat) ({ cls := "CashLink$Journal", name := "size", desc := "()I" } : Jvm.MethodName)) ∈ x_Wd := x_i3 130 (Eq.refl _) rfl
theorem q3_131 : (Jvm.Cond.instanceMethod ({ cls := "CashLink$Journal", name := "size", desc := "()I" } : Jvm.MethodName)) ∈ x_Wd := x_i3 131 (Eq.refl _) rfl
theorem q3_132 : (Jvm.Cond.selects "CashLink$Journal" ({ cls := "CashLink$Journal", name := "size", desc := "()I" } : Jvm.MethodName) ({ cls := "CashLink$Journal", name := "size", desc := "()I" } : Jvm.MethodName)) ∈ x_Wd := x_i3 132 (Eq.refl _) rfl
theorem q3_133 : (Jvm.Cond.code ({ cls := "CashLink$Journal", name := "size", desc := "()I" } : Jvm.MethodName) prog_5_method_2_code (1 : Nat) (Option.some Jvm.ClassFile.FieldType.int)) ∈ x_Wd := x_i3 133 (Eq.refl _) rfl
theorem q3_134 : (Jvm.Cond.methodLink "CashLink$Machine" (143 : Nat) ({ cls := "CashLink$Journal", name := "entry", desc := "(I)LCashLink$Entry;" } : Jvm.MethodName)) ∈ x_Wd := x_i3 134 (Eq.refl _) rfl
theorem q3_135 : (Jvm.Cond.instanceMethod ({ cls := "CashLink$Journal", name := "entry", desc := "(I)LCashLink$Entry;" } : Jvm.MethodName)) ∈ x_Wd := x_i3 135 (Eq.refl _) rfl
theorem q3_136 : (Jvm.Cond.selects "CashLink$Journal" ({ cls := "CashLink$Journal", name := "entry", desc := "(I)LCashLink$Entry;" } : Jvm.MethodName) ({ cls := "CashLink$Journal", name := "entry", desc := "(I)LCashLink$Entry;" } : Jvm.MethodName)) ∈ x_Wd := x_i3 136 (Eq.refl _) rfl
theorem q3_137 : (Jvm.Cond.code ({ cls := "CashLink$Journal", name := "entry", desc := "(I)LCashLink$Entry;" } : Jvm.MethodName) prog_5_method_3_code (2 : Nat) (Option.some (Jvm.ClassFile.FieldType.object "CashLink$Entry"))) ∈ x_Wd := x_i3 137 (Eq.refl _) rfl
theorem q3_138 : (Jvm.Cond.methodLink "CashLink$Journal" (31 : Nat) ({ cls := "java/util/ArrayList", name := "get", desc := "(I)Ljava/lang/Object;" } : Jvm.MethodName)) ∈ x_Wd := x_i3 138 (Eq.refl _) rfl
theorem q3_139 : (Jvm.Cond.classLink "CashLink$Journal" (35 : Nat) "CashLink$Entry") ∈ x_Wd := x_i3 139 (Eq.refl _) rfl
theorem q3_140 : (Jvm.Cond.methodLink "CashLink$Machine" (147 : Nat) ({ cls := "CashLink$Entry", name := "kind", desc := "()I" } : Jvm.MethodName)) ∈ x_Wd := x_i3 140 (Eq.refl _) rfl
theorem q3_141 : (Jvm.Cond.instanceMethod ({ cls := "CashLink$Entry", name := "kind", desc := "()I" } : Jvm.MethodName)) ∈ x_Wd := x_i3 141 (Eq.refl _) rfl
theorem q3_142 : (Jvm.Cond.selects "CashLink$Entry" ({ cls := "CashLink$Entry", name := "kind", desc := "()I" } : Jvm.MethodName) ({ cls := "CashLink$Entry", name := "kind", desc := "()I" } : Jvm.MethodName)) ∈ x_Wd := x_i3 142 (Eq.refl _) rfl
theorem q3_143 : (Jvm.Cond.code ({ cls := "CashLink$Entry", name := "kind", desc := "()I" } : Jvm.MethodName) prog_4_method_7_code (1 : Nat) (Option.some Jvm.ClassFile.FieldType.int)) ∈ x_Wd := x_i3 143 (Eq.refl _) rfl
theorem q3_144 : (Jvm.Cond.fieldLink "CashLink$Machine" (150 : Nat) "CashLink$Type" "TOTALS" "LCashLink$Type;") ∈ x_Wd := x_i3 144 (Eq.refl _) rfl
theorem q3_146 : (Jvm.Cond.methodLink "CashLinkLaw" (109 : Nat) ({ cls := "CashLinkLaw", name := "deliver", desc := "(LCashLink;I[J)I" } : Jvm.MethodName)) ∈ x_Wd := x_i3 146 (Eq.refl _) rfl
theorem q3_147 : (Jvm.Cond.static ({ cls := "CashLinkLaw", name := "deliver", desc := "(LCashLink;I[J)I" } : Jvm.MethodName)) ∈ x_Wd := x_i3 147 (Eq.refl _) rfl
theorem q3_148 : (Jvm.Cond.codeWith ({ cls := "CashLinkLaw", name := "deliver", desc := "(LCashLink;I[J)I" } : Jvm.MethodName) method_9_code (4 : Nat) (Option.some Jvm.ClassFile.FieldType.int) [((0 : Nat), (9 : Nat), (12 : Nat), (43 : Nat)), ((0 : Nat), (9 : Nat), (15 : Nat), (27 : Nat))]) ∈ x_Wd := x_i3 148 (Eq.refl _) rfl
theorem q3_149 : (Jvm.Cond.classLink "CashLinkLaw" (43 : Nat) "java/lang/IndexOutOfBoundsException") ∈ x_Wd := x_i3 149 (Eq.refl _) rfl
theorem q3_150 : (Jvm.Cond.methodLink "CashLinkLaw" (40 : Nat) ({ cls := "CashLink", name := "deliver", desc := "(I)I" } : Jvm.MethodName)) ∈ x_Wd := x_i3 150 (Eq.refl _) rfl
theorem q3_151 : (Jvm.Cond.instanceMethod ({ cls := "CashLink", name := "deliver", desc := "(I)I" } : Jvm.MethodName)) ∈ x_Wd := x_i3 151 (Eq.refl _) rfl
theorem q3_152 : (Jvm.Cond.selects "CashLink" ({ cls := "CashLink", name := "deliver", desc := "(I)I" } : Jvm.MethodName) ({ cls := "CashLink", name := "deliver", desc := "(I)I" } : Jvm.MethodName)) ∈ x_Wd := x_i3 152 (Eq.refl _) rfl
theorem q3_153 : (Jvm.Cond.code ({ cls := "CashLink", name := "deliver", desc := "(I)I" } : Jvm.MethodName) prog_1_method_8_code (4 : Nat) (Option.some Jvm.ClassFile.FieldType.int)) ∈ x_Wd := x_i3 153 (Eq.refl _) rfl
theorem q3_154 : (Jvm.Cond.methodLink "CashLink" (71 : Nat) ({ cls := "CashLink", name := "messageAt", desc := "(I)LCashLink$Message;" } : Jvm.MethodName)) ∈ x_Wd := x_i3 154 (Eq.refl _) rfl
theorem q3_156 : (Jvm.Cond.instanceMethod ({ cls := "CashLink", name := "messageAt", desc := "(I)LCashLink$Message;" } : Jvm.MethodName)) ∈ x_Wd := x_i3 156 (Eq.refl _) rfl
theorem q3_157 : (Jvm.Cond.code ({ cls := "CashLink", name := "messageAt", desc := "(I)LCashLink$Message;" } : Jvm.MethodName) prog_1_method_20_code (2 : Nat) (Option.some (Jvm.ClassFile.FieldType.object "CashLink$Message"))) ∈ x_Wd := x_i3 157 (Eq.refl _) rfl
theorem q3_158 : (Jvm.Cond.methodLink "CashLink" (75 : Nat) ({ cls := "CashLink$Network", name := "size", desc := "()I" } : Jvm.MethodName)) ∈ x_Wd := x_i3 158 (Eq.refl _) rfl
theorem q3_159 : (Jvm.Cond.instanceMethod ({ cls := "CashLink$Network", name := "size", desc := "()I" } : Jvm.MethodName)) ∈ x_Wd := x_i3 159 (Eq.refl _) rfl
theorem q3_160 : (Jvm.Cond.selects "CashLink$Network" ({ cls := "CashLink$Network", name := "size", desc := "()I" } : Jvm.MethodName) ({ cls := "CashLink$Network", name := "size", desc := "()I" } : Jvm.MethodName)) ∈ x_Wd := x_i3 160 (Eq.refl _) rfl
theorem q3_161 : (Jvm.Cond.code ({ cls := "CashLink$Network", name := "size", desc := "()I" } : Jvm.MethodName) prog_8_method_2_code (1 : Nat) (Option.some Jvm.ClassFile.FieldType.int)) ∈ x_Wd := x_i3 161 (Eq.refl _) rfl
theorem q3_178 : (Jvm.Cond.methodLink "CashLink" (188 : Nat) ({ cls := "CashLink$Network", name := "sent", desc := "(I)LCashLink$Message;" } : Jvm.MethodName)) ∈ x_Wd := x_i3 178 (Eq.refl _) rfl
theorem q3_179 : (Jvm.Cond.instanceMethod ({ cls := "CashLink$Network", name := "sent", desc := "(I)LCashLink$Message;" } : Jvm.MethodName)) ∈ x_Wd := x_i3 179 (Eq.refl _) rfl
theorem q3_180 : (Jvm.Cond.selects "CashLink$Network" ({ cls := "CashLink$Network", name := "sent", desc := "(I)LCashLink$Message;" } : Jvm.MethodName) ({ cls := "CashLink$Network", name := "sent", desc := "(I)LCashLink$Message;" } : Jvm.MethodName)) ∈ x_Wd := x_i3 180 (Eq.refl _) rfl
theorem q3_181 : (Jvm.Cond.code ({ cls := "CashLink$Network", name := "sent", desc := "(I)LCashLink$Message;" } : Jvm.MethodName) prog_8_method_3_code (2 : Nat) (Option.some (Jvm.ClassFile.FieldType.object "CashLink$Message"))) ∈ x_Wd := x_i3 181 (Eq.refl _) rfl
theorem q3_182 : (Jvm.Cond.methodLink "CashLink$Network" (20 : Nat) ({ cls := "java/util/ArrayList", name := "get", desc := "(I)Ljava/lang/Object;" } : Jvm.MethodName)) ∈ x_Wd := x_i3 182 (Eq.refl _) rfl
theorem q3_183 : (Jvm.Cond.methodLink "CashLink" (78 : Nat) ({ cls := "CashLink$Message", name := "type", desc := "()LCashLink$Type;" } : Jvm.MethodName)) ∈ x_Wd := x_i3 183 (Eq.refl _) rfl
theorem q3_184 : (Jvm.Cond.instanceMethod ({ cls := "CashLink$Message", name := "type", desc := "()LCashLink$Type;" } : Jvm.MethodName)) ∈ x_Wd := x_i3 184 (Eq.refl _) rfl
theorem q3_185 : (Jvm.Cond.selects "CashLink$Message" ({ cls := "CashLink$Message", name := "type", desc := "()LCashLink$Type;" } : Jvm.MethodName) ({ cls := "CashLink$Message", name := "type", desc := "()LCashLink$Type;" } : Jvm.MethodName)) ∈ x_Wd := x_i3 185 (Eq.refl _) rfl
theorem q3_186 : (Jvm.Cond.code ({ cls := "CashLink$Message", name := "type", desc := "()LCashLink$Type;" } : Jvm.MethodName) prog_7_method_8_code (1 : Nat) (Option.some (Jvm.ClassFile.FieldType.object "CashLink$Type"))) ∈ x_Wd := x_i3 186 (Eq.refl _) rfl
theorem q3_187 : (Jvm.Cond.methodLink "CashLink" (90 : Nat) ({ cls := "CashLink$Bank", name := "receive", desc := "(LCashLink$Message;)V" } : Jvm.MethodName)) ∈ x_Wd := x_i3 187 (Eq.refl _) rfl
theorem q3_188 : (Jvm.Cond.instanceMethod ({ cls := "CashLink$Bank", name := "receive", desc := "(LCashLink$Message;)V" } : Jvm.MethodName)) ∈ x_Wd := x_i3 188 (Eq.refl _) rfl
theorem q3_189 : (Jvm.Cond.selects "CashLink$Bank" ({ cls := "CashLink$Bank", name := "receive", desc := "(LCashLink$Message;)V" } : Jvm.MethodName) ({ cls := "CashLink$Bank", name := "receive", desc := "(LCashLink$Message;)V" } : Jvm.MethodName)) ∈ x_Wd := x_i3 189 (Eq.refl _) rfl
theorem q3_190 : (Jvm.Cond.code ({ cls := "CashLink$Bank", name := "receive", desc := "(LCashLink$Message;)V" } : Jvm.MethodName) prog_2_method_5_code (2 : Nat) (Option.none : Option Jvm.ClassFile.FieldType)) ∈ x_Wd := x_i3 190 (Eq.refl _) rfl
theorem q3_191 : (Jvm.Cond.methodLink "CashLink$Bank" (61 : Nat) ({ cls := "CashLink$Journal", name := "isOn", desc := "()Z" } : Jvm.MethodName)) ∈ x_Wd := x_i3 191 (Eq.refl _) rfl
theorem q3_192 : (Jvm.Cond.methodLink "CashLink$Bank" (65 : Nat) ({ cls := "CashLink$Message", name := "type", desc := "()LCashLink$Type;" } : Jvm.MethodName)) ∈ x_Wd := x_i3 192 (Eq.refl _) rfl
theorem q3_193 : (Jvm.Cond.fieldLink "CashLink$Bank" (71 : Nat) "CashLink$Type" "REQUEST" "LCashLink$Type;") ∈ x_Wd := x_i3 193 (Eq.refl _) rfl
theorem q3_194 : (Jvm.Cond.methodLink "CashLink$Bank" (77 : Nat) ({ cls := "CashLink$Bank", name := "answerRequest", desc := "(LCashLink$Message;)V" } : Jvm.MethodName)) ∈ x_Wd := x_i3 194 (Eq.refl _) rfl
theorem q3_196 : (Jvm.Cond.instanceMethod ({ cls := "CashLink$Bank", name := "answerRequest", desc := "(LCashLink$Message;)V" } : Jvm.MethodName)) ∈ x_Wd := x_i3 196 (Eq.refl _) rfl
theorem q3_197 : (Jvm.Cond.code ({ cls := "CashLink$Bank", name := "answerRequest", desc := "(LCashLink$Message;)V" } : Jvm.MethodName) prog_2_method_6_code (3 : Nat) (Option.none : Option Jvm.ClassFile.FieldType)) ∈ x_Wd := x_i3 197 (Eq.refl _) rfl
theorem q3_198 : (Jvm.Cond.methodLink "CashLink$Bank" (90 : Nat) ({ cls := "CashLink$Bank", name := "find", desc := "(ILCashLink$Message;)LCashLink$Entry;" } : Jvm.MethodName)) ∈ x_Wd := x_i3 198 (Eq.refl _) rfl
theorem q3_200 : (Jvm.Cond.instanceMethod ({ cls := "CashLink$Bank", name := "find", desc := "(ILCashLink$Message;)LCashLink$Entry;" } : Jvm.MethodName)) ∈ x_Wd := x_i3 200 (Eq.refl _) rfl
theorem q3_201 : (Jvm.Cond.code ({ cls := "CashLink$Bank", name := "find", desc := "(ILCashLink$Message;)LCashLink$Entry;" } : Jvm.MethodName) prog_2_method_12_code (3 : Nat) (Option.some (Jvm.ClassFile.FieldType.object "CashLink$Entry"))) ∈ x_Wd := x_i3 201 (Eq.refl _) rfl
theorem q3_202 : (Jvm.Cond.methodLink "CashLink$Bank" (98 : Nat) ({ cls := "CashLink$Message", name := "machine", desc := "()I" } : Jvm.MethodName)) ∈ x_Wd := x_i3 202 (Eq.refl _) rfl
theorem q3_203 : (Jvm.Cond.instanceMethod ({ cls := "CashLink$Message", name := "machine", desc := "()I" } : Jvm.MethodName)) ∈ x_Wd := x_i3 203 (Eq.refl _) rfl
theorem q3_204 : (Jvm.Cond.selects "CashLink$Message" ({ cls := "CashLink$Message", name := "machine", desc := "()I" } : Jvm.MethodName) ({ cls := "CashLink$Message", name := "machine", desc := "()I" } : Jvm.MethodName)) ∈ x_Wd := x_i3 204 (Eq.refl _) rfl
theorem q3_205 : (Jvm.Cond.code ({ cls := "CashLink$Message", name := "machine", desc := "()I" } : Jvm.MethodName) prog_7_method_9_code (1 : Nat) (Option.some Jvm.ClassFile.FieldType.int)) ∈ x_Wd := x_i3 205 (Eq.refl _) rfl
theorem q3_206 : (Jvm.Cond.methodLink "CashLink$Bank" (101 : Nat) ({ cls := "CashLink$Message", name := "trace", desc := "()I" } : Jvm.MethodName)) ∈ x_Wd := x_i3 206 (Eq.refl _) rfl
theorem q3_207 : (Jvm.Cond.instanceMethod ({ cls := "CashLink$Message", name := "trace", desc := "()I" } : Jvm.MethodName)) ∈ x_Wd := x_i3 207 (Eq.refl _) rfl
theorem q3_208 : (Jvm.Cond.selects "CashLink$Message" ({ cls := "CashLink$Message", name := "trace", desc := "()I" } : Jvm.MethodName) ({ cls := "CashLink$Message", name := "trace", desc := "()I" } : Jvm.MethodName)) ∈ x_Wd := x_i3 208 (Eq.refl _) rfl
theorem q3_209 : (Jvm.Cond.code ({ cls := "CashLink$Message", name := "trace", desc := "()I" } : Jvm.MethodName) prog_7_method_10_code (1 : Nat) (Option.some Jvm.ClassFile.FieldType.int)) ∈ x_Wd := x_i3 209 (Eq.refl _) rfl
theorem q3_210 : (Jvm.Cond.methodLink "CashLink$Bank" (149 : Nat) ({ cls := "CashLink$Journal", name := "find", desc := "(III)LCashLink$Entry;" } : Jvm.MethodName)) ∈ x_Wd := x_i3 210 (Eq.refl _) rfl
theorem q3_211 : (Jvm.Cond.instanceMethod ({ cls := "CashLink$Journal", name := "find", desc := "(III)LCashLink$Entry;" } : Jvm.MethodName)) ∈ x_Wd := x_i3 211 (Eq.refl _) rfl
theorem q3_212 : (Jvm.Cond.selects "CashLink$Journal" ({ cls := "CashLink$Journal", name := "find", desc := "(III)LCashLink$Entry;" } : Jvm.MethodName) ({ cls := "CashLink$Journal", name := "find", desc := "(III)LCashLink$Entry;" } : Jvm.MethodName)) ∈ x_Wd := x_i3 212 (Eq.refl _) rfl
theorem q3_213 : (Jvm.Cond.code ({ cls := "CashLink$Journal", name := "find", desc := "(III)LCashLink$Entry;" } : Jvm.MethodName) prog_5_method_9_code (6 : Nat) (Option.some (Jvm.ClassFile.FieldType.object "CashLink$Entry"))) ∈ x_Wd := x_i3 213 (Eq.refl _) rfl
theorem q3_214 : (Jvm.Cond.methodLink "CashLink$Journal" (51 : Nat) ({ cls := "CashLink$Entry", name := "is", desc := "(III)Z" } : Jvm.MethodName)) ∈ x_Wd := x_i3 214 (Eq.refl _) rfl
theorem q3_215 : (Jvm.Cond.instanceMethod ({ cls := "CashLink$Entry", name := "is", desc := "(III)Z" } : Jvm.MethodName)) ∈ x_Wd := x_i3 215 (Eq.refl _) rfl
theorem q3_216 : (Jvm.Cond.selects "CashLink$Entry" ({ cls := "CashLink$Entry", name := "is", desc := "(III)Z" } : Jvm.MethodName) ({ cls := "CashLink$Entry", name := "is", desc := "(III)Z" } : Jvm.MethodName)) ∈ x_Wd := x_i3 216 (Eq.refl _) rfl
theorem q3_217 : (Jvm.Cond.code ({ cls := "CashLink$Entry", name := "is", desc := "(III)Z" } : Jvm.MethodName) prog_4_method_3_code (4 : Nat) (Option.some Jvm.ClassFile.FieldType.boolean)) ∈ x_Wd := x_i3 217 (Eq.refl _) rfl
theorem q3_218 : (Jvm.Cond.methodLink "CashLink$Bank" (94 : Nat) ({ cls := "CashLink$Journal", name := "hasRoomFor", desc := "(I)Z" } : Jvm.MethodName)) ∈ x_Wd := x_i3 218 (Eq.refl _) rfl
theorem q3_219 : (Jvm.Cond.classLink "CashLink$Bank" (44 : Nat) "CashLink$Entry") ∈ x_Wd := x_i3 219 (Eq.refl _) rfl
theorem q3_220 : (Jvm.Cond.methodLink "CashLink$Bank" (104 : Nat) ({ cls := "CashLink$Message", name := "account", desc := "()I" } : Jvm.MethodName)) ∈ x_Wd := x_i3 220 (Eq.refl _) rfl
theorem q3_221 : (Jvm.Cond.instanceMethod ({ cls := "CashLink$Message", name := "account", desc := "()I" } : Jvm.MethodName)) ∈ x_Wd := x_i3 221 (Eq.refl _) rfl
theorem q3_222 : (Jvm.Cond.selects "CashLink$Message" ({ cls := "CashLink$Message", name := "account", desc := "()I" } : Jvm.MethodName) ({ cls := "CashLink$Message", name := "account", desc := "()I" } : Jvm.MethodName)) ∈ x_Wd := x_i3 222 (Eq.refl _) rfl
theorem q3_223 : (Jvm.Cond.code ({ cls := "CashLink$Message", name := "account", desc := "()I" } : Jvm.MethodName) prog_7_method_11_code (1 : Nat) (Option.some Jvm.ClassFile.FieldType.int)) ∈ x_Wd := x_i3 223 (Eq.refl _) rfl
theorem q3_224 : (Jvm.Cond.methodLink "CashLink$Bank" (105 : Nat) ({ cls := "CashLink$Message", name := "amount", desc := "()I" } : Jvm.MethodName)) ∈ x_Wd := x_i3 224 (Eq.refl _) rfl
theorem q3_225 : (Jvm.Cond.instanceMethod ({ cls := "CashLink$Message", name := "amount", desc := "()I" } : Jvm.MethodName)) ∈ x_Wd := x_i3 225 (Eq.refl _) rfl
theorem q3_226 : (Jvm.Cond.selects "CashLink$Message" ({ cls := "CashLink$Message", name := "amount", desc := "()I" } : Jvm.MethodName) ({ cls := "CashLink$Message", name := "amount", desc := "()I" } : Jvm.MethodName)) ∈ x_Wd := x_i3 226 (Eq.refl _) rfl
theorem q3_227 : (Jvm.Cond.code ({ cls := "CashLink$Message", name := "amount", desc := "()I" } : Jvm.MethodName) prog_7_method_12_code (1 : Nat) (Option.some Jvm.ClassFile.FieldType.int)) ∈ x_Wd := x_i3 227 (Eq.refl _) rfl
theorem q3_228 : (Jvm.Cond.methodLink "CashLink$Bank" (108 : Nat) ({ cls := "CashLink$Bank", name := "decide", desc := "(LCashLink$Message;)I" } : Jvm.MethodName)) ∈ x_Wd := x_i3 228 (Eq.refl _) rfl
theorem q3_230 : (Jvm.Cond.instanceMethod ({ cls := "CashLink$Bank", name := "decide", desc := "(LCashLink$Message;)I" } : Jvm.MethodName)) ∈ x_Wd := x_i3 230 (Eq.refl _) rfl
theorem q3_231 : (Jvm.Cond.code ({ cls := "CashLink$Bank", name := "decide", desc := "(LCashLink$Message;)I" } : Jvm.MethodName) prog_2_method_7_code (2 : Nat) (Option.some Jvm.ClassFile.FieldType.int)) ∈ x_Wd := x_i3 231 (Eq.refl _) rfl
theorem q3_232 : (Jvm.Cond.methodLink "CashLink$Bank" (126 : Nat) ({ cls := "CashLink$Bank", name := "balanceOf", desc := "(I)I" } : Jvm.MethodName)) ∈ x_Wd := x_i3 232 (Eq.refl _) rfl
theorem q3_233 : (Jvm.Cond.instanceMethod ({ cls := "CashLink$Bank", name := "balanceOf", desc := "(I)I" } : Jvm.MethodName)) ∈ x_Wd := x_i3 233 (Eq.refl _) rfl
theorem q3_234 : (Jvm.Cond.selects "CashLink$Bank" ({ cls := "CashLink$Bank", name := "balanceOf", desc := "(I)I" } : Jvm.MethodName) ({ cls := "CashLink$Bank", name := "balanceOf", desc := "(I)I" } : Jvm.MethodName)) ∈ x_Wd := x_i3 234 (Eq.refl _) rfl
theorem q3_235 : (Jvm.Cond.code ({ cls := "CashLink$Bank", name := "balanceOf", desc := "(I)I" } : Jvm.MethodName) prog_2_method_3_code (3 : Nat) (Option.some Jvm.ClassFile.FieldType.int)) ∈ x_Wd := x_i3 235 (Eq.refl _) rfl
theorem q3_236 : (Jvm.Cond.methodLink "CashLink$Bank" (31 : Nat) ({ cls := "CashLink$Journal", name := "size", desc := "()I" } : Jvm.MethodName)) ∈ x_Wd := x_i3 236 (Eq.refl _) rfl
theorem q3_237 : (Jvm.Cond.methodLink "CashLink$Bank" (39 : Nat) ({ cls := "CashLink$Journal", name := "entry", desc := "(I)LCashLink$Entry;" } : Jvm.MethodName)) ∈ x_Wd := x_i3 237 (Eq.refl _) rfl
theorem q3_238 : (Jvm.Cond.methodLink "CashLink$Bank" (43 : Nat) ({ cls := "CashLink$Entry", name := "account", desc := "()I" } : Jvm.MethodName)) ∈ x_Wd := x_i3 238 (Eq.refl _) rfl
theorem q3_239 : (Jvm.Cond.instanceMethod ({ cls := "CashLink$Entry", name := "account", desc := "()I" } : Jvm.MethodName)) ∈ x_Wd := x_i3 239 (Eq.refl _) rfl
theorem q4_0 : (Jvm.Cond.selects "CashLink$Entry" ({ cls := "CashLink$Entry", name := "account", desc := "()I" } : Jvm.MethodName) ({ cls := "CashLink$Entry", name := "account", desc := "()I" } : Jvm.MethodName)) ∈ x_Wd := x_i4 0 (Eq.refl _) rfl
theorem q4_1 : (Jvm.Cond.code ({ cls := "CashLink$Entry", name := "account", desc := "()I" } : Jvm.MethodName) prog_4_method_10_code (1 : Nat) (Option.some Jvm.ClassFile.FieldType.int)) ∈ x_Wd := x_i4 1 (Eq.refl _) rfl
theorem q4_2 : (Jvm.Cond.methodLink "CashLink$Bank" (48 : Nat) ({ cls := "CashLink$Bank", name := "changeBy", desc := "(LCashLink$Entry;)I" } : Jvm.MethodName)) ∈ x_Wd := x_i4 2 (Eq.refl _) rfl
theorem q4_3 : (Jvm.Cond.static ({ cls := "CashLink$Bank", name := "changeBy", desc := "(LCashLink$Entry;)I" } : Jvm.MethodName)) ∈ x_Wd := x_i4 3 (Eq.refl _) rfl
theorem q4_4 : (Jvm.Cond.code ({ cls := "CashLink$Bank", name := "changeBy", desc := "(LCashLink$Entry;)I" } : Jvm.MethodName) prog_2_method_4_code (1 : Nat) (Option.some Jvm.ClassFile.FieldType.int)) ∈ x_Wd := x_i4 4 (Eq.refl _) rfl
theorem q4_5 : (Jvm.Cond.methodLink "CashLink$Bank" (52 : Nat) ({ cls := "CashLink$Entry", name := "kind", desc := "()I" } : Jvm.MethodName)) ∈ x_Wd := x_i4 5 (Eq.refl _) rfl
theorem q4_6 : (Jvm.Cond.methodLink "CashLink$Bank" (55 : Nat) ({ cls := "CashLink$Entry", name := "value", desc := "()I" } : Jvm.MethodName)) ∈ x_Wd := x_i4 6 (Eq.refl _) rfl
theorem q4_7 : (Jvm.Cond.methodLink "CashLink$Bank" (58 : Nat) ({ cls := "CashLink$Entry", name := "answer", desc := "()I" } : Jvm.MethodName)) ∈ x_Wd := x_i4 7 (Eq.refl _) rfl
theorem q4_8 : (Jvm.Cond.instanceMethod ({ cls := "CashLink$Entry", name := "answer", desc := "()I" } : Jvm.MethodName)) ∈ x_Wd := x_i4 8 (Eq.refl _) rfl
theorem q4_9 : (Jvm.Cond.selects "CashLink$Entry" ({ cls := "CashLink$Entry", name := "answer", desc := "()I" } : Jvm.MethodName) ({ cls := "CashLink$Entry", name := "answer", desc := "()I" } : Jvm.MethodName)) ∈ x_Wd := x_i4 9 (Eq.refl _) rfl
theorem q4_10 : (Jvm.Cond.code ({ cls := "CashLink$Entry", name := "answer", desc := "()I" } : Jvm.MethodName) prog_4_method_12_code (1 : Nat) (Option.some Jvm.ClassFile.FieldType.int)) ∈ x_Wd := x_i4 10 (Eq.refl _) rfl
theorem q4_11 : (Jvm.Cond.methodLinkNest "CashLink$Bank" (112 : Nat) ({ cls := "CashLink$Entry", name := "<init>", desc := "(IIIIII)V" } : Jvm.MethodName) "CashLink") ∈ x_Wd := x_i4 11 (Eq.refl _) rfl
theorem q4_12 : (Jvm.Cond.methodLink "CashLink$Bank" (115 : Nat) ({ cls := "CashLink$Journal", name := "write", desc := "(LCashLink$Entry;)V" } : Jvm.MethodName)) ∈ x_Wd := x_i4 12 (Eq.refl _) rfl
theorem q4_13 : (Jvm.Cond.fieldLink "CashLink$Bank" (119 : Nat) "CashLink$Type" "REQUEST_ANSWER" "LCashLink$Type;") ∈ x_Wd := x_i4 13 (Eq.refl _) rfl
theorem q4_15 : (Jvm.Cond.methodLink "CashLink$Bank" (122 : Nat) ({ cls := "CashLink$Bank", name := "reply", desc := "(LCashLink$Type;LCashLink$Message;I)Z" } : Jvm.MethodName)) ∈ x_Wd := x_i4 15 (Eq.refl _) rfl
theorem q4_17 : (Jvm.Cond.instanceMethod ({ cls := "CashLink$Bank", name := "reply", desc := "(LCashLink$Type;LCashLink$Message;I)Z" } : Jvm.MethodName)) ∈ x_Wd := x_i4 17 (Eq.refl _) rfl
theorem q4_18 : (Jvm.Cond.code ({ cls := "CashLink$Bank", name := "reply", desc := "(LCashLink$Type;LCashLink$Message;I)Z" } : Jvm.MethodName) prog_2_method_13_code (4 : Nat) (Option.some Jvm.ClassFile.FieldType.boolean)) ∈ x_Wd := x_i4 18 (Eq.refl _) rfl
theorem q4_19 : (Jvm.Cond.methodLink "CashLink$Bank" (152 : Nat) ({ cls := "CashLink$Network", name := "send", desc := "(LCashLink$Type;IIIII)Z" } : Jvm.MethodName)) ∈ x_Wd := x_i4 19 (Eq.refl _) rfl
theorem q4_20 : (Jvm.Cond.fieldLink "CashLink$Bank" (81 : Nat) "CashLink$Type" "REVERSAL" "LCashLink$Type;") ∈ x_Wd := x_i4 20 (Eq.refl _) rfl
theorem q4_21 : (Jvm.Cond.methodLink "CashLink$Bank" (84 : Nat) ({ cls := "CashLink$Bank", name := "answerReversal", desc := "(LCashLink$Message;)V" } : Jvm.MethodName)) ∈ x_Wd := x_i4 21 (Eq.refl _) rfl
theorem q4_23 : (Jvm.Cond.instanceMethod ({ cls := "CashLink$Bank", name := "answerReversal", desc := "(LCashLink$Message;)V" } : Jvm.MethodName)) ∈ x_Wd := x_i4 23 (Eq.refl _) rfl
theorem q4_24 : (Jvm.Cond.code ({ cls := "CashLink$Bank", name := "answerReversal", desc := "(LCashLink$Message;)V" } : Jvm.MethodName) prog_2_method_8_code (2 : Nat) (Option.none : Option Jvm.ClassFile.FieldType)) ∈ x_Wd := x_i4 24 (Eq.refl _) rfl
theorem q4_25 : (Jvm.Cond.methodLink "CashLink$Bank" (130 : Nat) ({ cls := "CashLink$Bank", name := "givenBack", desc := "(LCashLink$Message;)LCashLink$Entry;" } : Jvm.MethodName)) ∈ x_Wd := x_i4 25 (Eq.refl _) rfl
theorem q4_27 : (Jvm.Cond.instanceMethod ({ cls := "CashLink$Bank", name := "givenBack", desc := "(LCashLink$Message;)LCashLink$Entry;" } : Jvm.MethodName)) ∈ x_Wd := x_i4 27 (Eq.refl _) rfl
theorem q4_28 : (Jvm.Cond.code ({ cls := "CashLink$Bank", name := "givenBack", desc := "(LCashLink$Message;)LCashLink$Entry;" } : Jvm.MethodName) prog_2_method_9_code (6 : Nat) (Option.some (Jvm.ClassFile.FieldType.object "CashLink$Entry"))) ∈ x_Wd := x_i4 28 (Eq.refl _) rfl
theorem q4_29 : (Jvm.Cond.fieldLink "CashLink$Bank" (134 : Nat) "CashLink$Type" "REVERSAL_ANSWER" "LCashLink$Type;") ∈ x_Wd := x_i4 29 (Eq.refl _) rfl
theorem q4_31 : (Jvm.Cond.methodLink "CashLink$Bank" (87 : Nat) ({ cls := "CashLink$Bank", name := "answerTotals", desc := "(LCashLink$Message;)V" } : Jvm.MethodName)) ∈ x_Wd := x_i4 31 (Eq.refl _) rfl
theorem q4_33 : (Jvm.Cond.instanceMethod ({ cls := "CashLink$Bank", name := "answerTotals", desc := "(LCashLink$Message;)V" } : Jvm.MethodName)) ∈ x_Wd := x_i4 33 (Eq.refl _) rfl
theorem q4_34 : (Jvm.Cond.code ({ cls := "CashLink$Bank", name := "answerTotals", desc := "(LCashLink$Message;)V" } : Jvm.MethodName) prog_2_method_10_code (4 : Nat) (Option.none : Option Jvm.ClassFile.FieldType)) ∈ x_Wd := x_i4 34 (Eq.refl _) rfl
theorem q4_35 : (Jvm.Cond.methodLink "CashLink$Bank" (137 : Nat) ({ cls := "CashLink$Bank", name := "totalOf", desc := "(II)I" } : Jvm.MethodName)) ∈ x_Wd := x_i4 35 (Eq.refl _) rfl
theorem q4_37 : (Jvm.Cond.instanceMethod ({ cls := "CashLink$Bank", name := "totalOf", desc := "(II)I" } : Jvm.MethodName)) ∈ x_Wd := x_i4 37 (Eq.refl _) rfl
theorem q4_38 : (Jvm.Cond.code ({ cls := "CashLink$Bank", name := "totalOf", desc := "(II)I" } : Jvm.MethodName) prog_2_method_11_code (6 : Nat) (Option.some Jvm.ClassFile.FieldType.int)) ∈ x_Wd := x_i4 38 (Eq.refl _) rfl
theorem q4_39 : (Jvm.Cond.methodLink "CashLink$Bank" (147 : Nat) ({ cls := "CashLink$Entry", name := "machine", desc := "()I" } : Jvm.MethodName)) ∈ x_Wd := x_i4 39 (Eq.refl _) rfl
theorem q4_40 : (Jvm.Cond.instanceMethod ({ cls := "CashLink$Entry", name := "machine", desc := "()I" } : Jvm.MethodName)) ∈ x_Wd := x_i4 40 (Eq.refl _) rfl
theorem q4_41 : (Jvm.Cond.selects "CashLink$Entry" ({ cls := "CashLink$Entry", name := "machine", desc := "()I" } : Jvm.MethodName) ({ cls := "CashLink$Entry", name := "machine", desc := "()I" } : Jvm.MethodName)) ∈ x_Wd := x_i4 41 (Eq.refl _) rfl
theorem q4_42 : (Jvm.Cond.code ({ cls := "CashLink$Entry", name := "machine", desc := "()I" } : Jvm.MethodName) prog_4_method_8_code (1 : Nat) (Option.some Jvm.ClassFile.FieldType.int)) ∈ x_Wd := x_i4 42 (Eq.refl _) rfl
theorem q4_43 : (Jvm.Cond.methodLink "CashLink$Bank" (148 : Nat) ({ cls := "CashLink$Entry", name := "trace", desc := "()I" } : Jvm.MethodName)) ∈ x_Wd := x_i4 43 (Eq.refl _) rfl
theorem q4_44 : (Jvm.Cond.fieldLink "CashLink$Bank" (141 : Nat) "CashLink$Type" "TOTALS_ANSWER" "LCashLink$Type;") ∈ x_Wd := x_i4 44 (Eq.refl _) rfl
theorem q4_46 : (Jvm.Cond.methodLink "CashLink" (94 : Nat) ({ cls := "CashLink$Message", name := "machine", desc := "()I" } : Jvm.MethodName)) ∈ x_Wd := x_i4 46 (Eq.refl _) rfl
theorem q4_47 : (Jvm.Cond.methodLink "CashLink" (97 : Nat) ({ cls := "CashLink$Machine", name := "receive", desc := "(LCashLink$Message;)V" } : Jvm.MethodName)) ∈ x_Wd := x_i4 47 (Eq.refl _) rfl
theorem q4_48 : (Jvm.Cond.instanceMethod ({ cls := "CashLink$Machine", name := "receive", desc := "(LCashLink$Message;)V" } : Jvm.MethodName)) ∈ x_Wd := x_i4 48 (Eq.refl _) rfl
theorem q4_49 : (Jvm.Cond.selects "CashLink$Machine" ({ cls := "CashLink$Machine", name := "receive", desc := "(LCashLink$Message;)V" } : Jvm.MethodName) ({ cls := "CashLink$Machine", name := "receive", desc := "(LCashLink$Message;)V" } : Jvm.MethodName)) ∈ x_Wd := x_i4 49 (Eq.refl _) rfl
theorem q4_50 : (Jvm.Cond.code ({ cls := "CashLink$Machine", name := "receive", desc := "(LCashLink$Message;)V" } : Jvm.MethodName) prog_6_method_8_code (2 : Nat) (Option.none : Option Jvm.ClassFile.FieldType)) ∈ x_Wd := x_i4 50 (Eq.refl _) rfl
theorem q4_51 : (Jvm.Cond.methodLink "CashLink$Machine" (153 : Nat) ({ cls := "CashLink$Message", name := "type", desc := "()LCashLink$Type;" } : Jvm.MethodName)) ∈ x_Wd := x_i4 51 (Eq.refl _) rfl
theorem q4_52 : (Jvm.Cond.fieldLink "CashLink$Machine" (159 : Nat) "CashLink$Type" "REVERSAL_ANSWER" "LCashLink$Type;") ∈ x_Wd := x_i4 52 (Eq.refl _) rfl
theorem q4_53 : (Jvm.Cond.methodLink "CashLink$Machine" (162 : Nat) ({ cls := "CashLink$Message", name := "trace", desc := "()I" } : Jvm.MethodName)) ∈ x_Wd := x_i4 53 (Eq.refl _) rfl
theorem q4_54 : (Jvm.Cond.methodLink "CashLink$Machine" (163 : Nat) ({ cls := "CashLink$Machine", name := "endVoid", desc := "(I)V" } : Jvm.MethodName)) ∈ x_Wd := x_i4 54 (Eq.refl _) rfl
theorem q4_56 : (Jvm.Cond.instanceMethod ({ cls := "CashLink$Machine", name := "endVoid", desc := "(I)V" } : Jvm.MethodName)) ∈ x_Wd := x_i4 56 (Eq.refl _) rfl
theorem q4_57 : (Jvm.Cond.code ({ cls := "CashLink$Machine", name := "endVoid", desc := "(I)V" } : Jvm.MethodName) prog_6_method_13_code (2 : Nat) (Option.none : Option Jvm.ClassFile.FieldType)) ∈ x_Wd := x_i4 57 (Eq.refl _) rfl
theorem q4_58 : (Jvm.Cond.methodLink "CashLink$Machine" (195 : Nat) ({ cls := "CashLink$Machine", name := "isVoid", desc := "(I)Z" } : Jvm.MethodName)) ∈ x_Wd := x_i4 58 (Eq.refl _) rfl
theorem q4_60 : (Jvm.Cond.instanceMethod ({ cls := "CashLink$Machine", name := "isVoid", desc := "(I)Z" } : Jvm.MethodName)) ∈ x_Wd := x_i4 60 (Eq.refl _) rfl
theorem q4_61 : (Jvm.Cond.code ({ cls := "CashLink$Machine", name := "isVoid", desc := "(I)Z" } : Jvm.MethodName) prog_6_method_14_code (3 : Nat) (Option.some Jvm.ClassFile.FieldType.boolean)) ∈ x_Wd := x_i4 61 (Eq.refl _) rfl
theorem q4_62 : (Jvm.Cond.methodLink "CashLink$Machine" (198 : Nat) ({ cls := "CashLink$Machine", name := "forgetVoid", desc := "(I)V" } : Jvm.MethodName)) ∈ x_Wd := x_i4 62 (Eq.refl _) rfl
theorem q4_64 : (Jvm.Cond.instanceMethod ({ cls := "CashLink$Machine", name := "forgetVoid", desc := "(I)V" } : Jvm.MethodName)) ∈ x_Wd := x_i4 64 (Eq.refl _) rfl
theorem q4_65 : (Jvm.Cond.code ({ cls := "CashLink$Machine", name := "forgetVoid", desc := "(I)V" } : Jvm.MethodName) prog_6_method_15_code (3 : Nat) (Option.none : Option Jvm.ClassFile.FieldType)) ∈ x_Wd := x_i4 65 (Eq.refl _) rfl
theorem q4_66 : (Jvm.Cond.methodLink "CashLink$Machine" (201 : Nat) ({ cls := "java/util/ArrayList", name := "remove", desc := "(I)Ljava/lang/Object;" } : Jvm.MethodName)) ∈ x_Wd := x_i4 66 (Eq.refl _) rfl
theorem q4_67 : (Jvm.Cond.instanceMethod ({ cls := "java/util/ArrayList", name := "remove", desc := "(I)Ljava/lang/Object;" } : Jvm.MethodName)) ∈ x_Wd := x_i4 67 (Eq.refl _) rfl
theorem q4_68 : (Jvm.Cond.selects "java/util/ArrayList" ({ cls := "java/util/ArrayList", name := "remove", desc := "(I)Ljava/lang/Object;" } : Jvm.MethodName) ({ cls := "java/util/ArrayList", name := "remove", desc := "(I)Ljava/lang/Object;" } : Jvm.MethodName)) ∈ x_Wd := x_i4 68 (Eq.refl _) rfl
theorem q4_69 : (Jvm.Cond.code ({ cls := "java/util/ArrayList", name := "remove", desc := "(I)Ljava/lang/Object;" } : Jvm.MethodName) prog_35_method_29_code (4 : Nat) (Option.some (Jvm.ClassFile.FieldType.object "java/lang/Object"))) ∈ x_Wd := x_i4 69 (Eq.refl _) rfl
theorem q4_70 : (Jvm.Cond.methodLink "java/util/ArrayList" (144 : Nat) ({ cls := "java/util/ArrayList", name := "fastRemove", desc := "([Ljava/lang/Object;I)V" } : Jvm.MethodName)) ∈ x_Wd := x_i4 70 (Eq.refl _) rfl
theorem q4_72 : (Jvm.Cond.instanceMethod ({ cls := "java/util/ArrayList", name := "fastRemove", desc := "([Ljava/lang/Object;I)V" } : Jvm.MethodName)) ∈ x_Wd := x_i4 72 (Eq.refl _) rfl
theorem q4_73 : (Jvm.Cond.code ({ cls := "java/util/ArrayList", name := "fastRemove", desc := "([Ljava/lang/Object;I)V" } : Jvm.MethodName) prog_35_method_39_code (4 : Nat) (Option.none : Option Jvm.ClassFile.FieldType)) ∈ x_Wd := x_i4 73 (Eq.refl _) rfl
theorem q4_75 : (Jvm.Cond.fieldLink "CashLink$Machine" (166 : Nat) "CashLink$Type" "REQUEST_ANSWER" "LCashLink$Type;") ∈ x_Wd := x_i4 75 (Eq.refl _) rfl
theorem q4_76 : (Jvm.Cond.methodLink "CashLink$Machine" (169 : Nat) ({ cls := "CashLink$Machine", name := "isAwaited", desc := "(I)Z" } : Jvm.MethodName)) ∈ x_Wd := x_i4 76 (Eq.refl _) rfl
theorem q4_78 : (Jvm.Cond.instanceMethod ({ cls := "CashLink$Machine", name := "isAwaited", desc := "(I)Z" } : Jvm.MethodName)) ∈ x_Wd := x_i4 78 (Eq.refl _) rfl
theorem q4_79 : (Jvm.Cond.code ({ cls := "CashLink$Machine", name := "isAwaited", desc := "(I)Z" } : Jvm.MethodName) prog_6_method_9_code (2 : Nat) (Option.some Jvm.ClassFile.FieldType.boolean)) ∈ x_Wd := x_i4 79 (Eq.refl _) rfl
theorem q4_80 : (Jvm.Cond.methodLink "CashLink$Machine" (172 : Nat) ({ cls := "CashLink$Message", name := "answer", desc := "()I" } : Jvm.MethodName)) ∈ x_Wd := x_i4 80 (Eq.refl _) rfl
theorem q4_81 : (Jvm.Cond.instanceMethod ({ cls := "CashLink$Message", name := "answer", desc := "()I" } : Jvm.MethodName)) ∈ x_Wd := x_i4 81 (Eq.refl _) rfl
theorem q4_82 : (Jvm.Cond.selects "CashLink$Message" ({ cls := "CashLink$Message", name := "answer", desc := "()I" } : Jvm.MethodName) ({ cls := "CashLink$Message", name := "answer", desc := "()I" } : Jvm.MethodName)) ∈ x_Wd := x_i4 82 (Eq.refl _) rfl
theorem q4_83 : (Jvm.Cond.code ({ cls := "CashLink$Message", name := "answer", desc := "()I" } : Jvm.MethodName) prog_7_method_13_code (1 : Nat) (Option.some Jvm.ClassFile.FieldType.int)) ∈ x_Wd := x_i4 83 (Eq.refl _) rfl
theorem q4_84 : (Jvm.Cond.methodLink "CashLink$Machine" (175 : Nat) ({ cls := "CashLink$Machine", name := "payOut", desc := "()V" } : Jvm.MethodName)) ∈ x_Wd := x_i4 84 (Eq.refl _) rfl
theorem q4_86 : (Jvm.Cond.instanceMethod ({ cls := "CashLink$Machine", name := "payOut", desc := "()V" } : Jvm.MethodName)) ∈ x_Wd := x_i4 86 (Eq.refl _) rfl
theorem q4_87 : (Jvm.Cond.code ({ cls := "CashLink$Machine", name := "payOut", desc := "()V" } : Jvm.MethodName) prog_6_method_10_code (2 : Nat) (Option.none : Option Jvm.ClassFile.FieldType)) ∈ x_Wd := x_i4 87 (Eq.refl _) rfl
theorem q4_88 : (Jvm.Cond.methodLink "CashLink$Machine" (181 : Nat) ({ cls := "CashLink$Dispenser", name := "dispense", desc := "(II)I" } : Jvm.MethodName)) ∈ x_Wd := x_i4 88 (Eq.refl _) rfl
theorem q4_89 : (Jvm.Cond.instanceMethod ({ cls := "CashLink$Dispenser", name := "dispense", desc := "(II)I" } : Jvm.MethodName)) ∈ x_Wd := x_i4 89 (Eq.refl _) rfl
theorem q4_90 : (Jvm.Cond.selects "CashLink$Dispenser" ({ cls := "CashLink$Dispenser", name := "dispense", desc := "(II)I" } : Jvm.MethodName) ({ cls := "CashLink$Dispenser", name := "dispense", desc := "(II)I" } : Jvm.MethodName)) ∈ x_Wd := x_i4 90 (Eq.refl _) rfl
theorem q4_91 : (Jvm.Cond.code ({ cls := "CashLink$Dispenser", name := "dispense", desc := "(II)I" } : Jvm.MethodName) prog_3_method_5_code (7 : Nat) (Option.some Jvm.ClassFile.FieldType.int)) ∈ x_Wd := x_i4 91 (Eq.refl _) rfl
theorem q4_92 : (Jvm.Cond.methodLink "CashLink$Dispenser" (32 : Nat) ({ cls := "CashLink$Dispenser", name := "notesIn", desc := "(II)I" } : Jvm.MethodName)) ∈ x_Wd := x_i4 92 (Eq.refl _) rfl
theorem q4_93 : (Jvm.Cond.static ({ cls := "CashLink$Dispenser", name := "notesIn", desc := "(II)I" } : Jvm.MethodName)) ∈ x_Wd := x_i4 93 (Eq.refl _) rfl
theorem q4_94 : (Jvm.Cond.code ({ cls := "CashLink$Dispenser", name := "notesIn", desc := "(II)I" } : Jvm.MethodName) prog_3_method_4_code (2 : Nat) (Option.some Jvm.ClassFile.FieldType.int)) ∈ x_Wd := x_i4 94 (Eq.refl _) rfl
theorem q4_95 : (Jvm.Cond.fieldLink "CashLink$Dispenser" (35 : Nat) "CashLink$Dispenser" "WORTH" "[I") ∈ x_Wd := x_i4 95 (Eq.refl _) rfl
theorem q4_97 : (Jvm.Cond.methodLink "CashLink$Machine" (185 : Nat) ({ cls := "CashLink$Machine", name := "endPayment", desc := "()V" } : Jvm.MethodName)) ∈ x_Wd := x_i4 97 (Eq.refl _) rfl
theorem q4_99 : (Jvm.Cond.instanceMethod ({ cls := "CashLink$Machine", name := "endPayment", desc := "()V" } : Jvm.MethodName)) ∈ x_Wd := x_i4 99 (Eq.refl _) rfl
theorem q4_100 : (Jvm.Cond.code ({ cls := "CashLink$Machine", name := "endPayment", desc := "()V" } : Jvm.MethodName) prog_6_method_11_code (2 : Nat) (Option.none : Option Jvm.ClassFile.FieldType)) ∈ x_Wd := x_i4 100 (Eq.refl _) rfl
theorem q4_101 : (Jvm.Cond.methodLink "CashLink$Machine" (188 : Nat) ({ cls := "CashLink$Dispenser", name := "cameOutFor", desc := "(I)I" } : Jvm.MethodName)) ∈ x_Wd := x_i4 101 (Eq.refl _) rfl
theorem q4_102 : (Jvm.Cond.instanceMethod ({ cls := "CashLink$Dispenser", name := "cameOutFor", desc := "(I)I" } : Jvm.MethodName)) ∈ x_Wd := x_i4 102 (Eq.refl _) rfl
theorem q4_103 : (Jvm.Cond.selects "CashLink$Dispenser" ({ cls := "CashLink$Dispenser", name := "cameOutFor", desc := "(I)I" } : Jvm.MethodName) ({ cls := "CashLink$Dispenser", name := "cameOutFor", desc := "(I)I" } : Jvm.MethodName)) ∈ x_Wd := x_i4 103 (Eq.refl _) rfl
theorem q4_104 : (Jvm.Cond.code ({ cls := "CashLink$Dispenser", name := "cameOutFor", desc := "(I)I" } : Jvm.MethodName) prog_3_method_6_code (2 : Nat) (Option.some Jvm.ClassFile.FieldType.int)) ∈ x_Wd := x_i4 104 (Eq.refl _) rfl
theorem q4_105 : (Jvm.Cond.methodLink "CashLinkLaw" (112 : Nat) ({ cls := "CashLinkLaw", name := "jam", desc := "(LCashLink;II)I" } : Jvm.MethodName)) ∈ x_Wd := x_i4 105 (Eq.refl _) rfl
theorem q4_106 : (Jvm.Cond.static ({ cls := "CashLinkLaw", name := "jam", desc := "(LCashLink;II)I" } : Jvm.MethodName)) ∈ x_Wd := x_i4 106 (Eq.refl _) rfl
theorem q4_107 : (Jvm.Cond.codeWith ({ cls := "CashLinkLaw", name := "jam", desc := "(LCashLink;II)I" } : Jvm.MethodName) method_10_code (4 : Nat) (Option.some Jvm.ClassFile.FieldType.int) [((0 : Nat), (6 : Nat), (9 : Nat), (13 : Nat))]) ∈ x_Wd := x_i4 107 (Eq.refl _) rfl
theorem q4_108 : (Jvm.Cond.methodLink "CashLinkLaw" (45 : Nat) ({ cls := "CashLink", name := "jam", desc := "(II)V" } : Jvm.MethodName)) ∈ x_Wd := x_i4 108 (Eq.refl _) rfl
theorem q4_109 : (Jvm.Cond.instanceMethod ({ cls := "CashLink", name := "jam", desc := "(II)V" } : Jvm.MethodName)) ∈ x_Wd := x_i4 109 (Eq.refl _) rfl
theorem q4_110 : (Jvm.Cond.selects "CashLink" ({ cls := "CashLink", name := "jam", desc := "(II)V" } : Jvm.MethodName) ({ cls := "CashLink", name := "jam", desc := "(II)V" } : Jvm.MethodName)) ∈ x_Wd := x_i4 110 (Eq.refl _) rfl
theorem q4_111 : (Jvm.Cond.code ({ cls := "CashLink", name := "jam", desc := "(II)V" } : Jvm.MethodName) prog_1_method_9_code (4 : Nat) (Option.none : Option Jvm.ClassFile.FieldType)) ∈ x_Wd := x_i4 111 (Eq.refl _) rfl
theorem q4_112 : (Jvm.Cond.methodLink "CashLinkLaw" (115 : Nat) ({ cls := "CashLinkLaw", name := "load", desc := "(LCashLink;III[J)I" } : Jvm.MethodName)) ∈ x_Wd := x_i4 112 (Eq.refl _) rfl
theorem q4_113 : (Jvm.Cond.static ({ cls := "CashLinkLaw", name := "load", desc := "(LCashLink;III[J)I" } : Jvm.MethodName)) ∈ x_Wd := x_i4 113 (Eq.refl _) rfl
theorem q4_114 : (Jvm.Cond.codeWith ({ cls := "CashLinkLaw", name := "load", desc := "(LCashLink;III[J)I" } : Jvm.MethodName) method_11_code (6 : Nat) (Option.some Jvm.ClassFile.FieldType.int) [((0 : Nat), (12 : Nat), (15 : Nat), (13 : Nat)), ((0 : Nat), (12 : Nat), (19 : Nat), (15 : Nat))]) ∈ x_Wd := x_i4 114 (Eq.refl _) rfl
theorem q4_115 : (Jvm.Cond.methodLink "CashLinkLaw" (48 : Nat) ({ cls := "CashLink", name := "load", desc := "(III)I" } : Jvm.MethodName)) ∈ x_Wd := x_i4 115 (Eq.refl _) rfl
theorem q4_116 : (Jvm.Cond.instanceMethod ({ cls := "CashLink", name := "load", desc := "(III)I" } : Jvm.MethodName)) ∈ x_Wd := x_i4 116 (Eq.refl _) rfl
theorem q4_117 : (Jvm.Cond.selects "CashLink" ({ cls := "CashLink", name := "load", desc := "(III)I" } : Jvm.MethodName) ({ cls := "CashLink", name := "load", desc := "(III)I" } : Jvm.MethodName)) ∈ x_Wd := x_i4 117 (Eq.refl _) rfl
theorem q4_118 : (Jvm.Cond.code ({ cls := "CashLink", name := "load", desc := "(III)I" } : Jvm.MethodName) prog_1_method_10_code (5 : Nat) (Option.some Jvm.ClassFile.FieldType.int)) ∈ x_Wd := x_i4 118 (Eq.refl _) rfl
theorem q4_119 : (Jvm.Cond.methodLink "CashLink" (108 : Nat) ({ cls := "CashLink", name := "isCassette", desc := "(I)Z" } : Jvm.MethodName)) ∈ x_Wd := x_i4 119 (Eq.refl _) rfl
theorem q4_120 : (Jvm.Cond.static ({ cls := "CashLink", name := "isCassette", desc := "(I)Z" } : Jvm.MethodName)) ∈ x_Wd := x_i4 120 (Eq.refl _) rfl
theorem q4_121 : (Jvm.Cond.code ({ cls := "CashLink", name := "isCassette", desc := "(I)Z" } : Jvm.MethodName) prog_1_method_25_code (1 : Nat) (Option.some Jvm.ClassFile.FieldType.boolean)) ∈ x_Wd := x_i4 121 (Eq.refl _) rfl
theorem q4_122 : (Jvm.Cond.methodLink "CashLink" (111 : Nat) ({ cls := "CashLink$Dispenser", name := "fill", desc := "(II)I" } : Jvm.MethodName)) ∈ x_Wd := x_i4 122 (Eq.refl _) rfl
theorem q4_123 : (Jvm.Cond.instanceMethod ({ cls := "CashLink$Dispenser", name := "fill", desc := "(II)I" } : Jvm.MethodName)) ∈ x_Wd := x_i4 123 (Eq.refl _) rfl
theorem q4_124 : (Jvm.Cond.selects "CashLink$Dispenser" ({ cls := "CashLink$Dispenser", name := "fill", desc := "(II)I" } : Jvm.MethodName) ({ cls := "CashLink$Dispenser", name := "fill", desc := "(II)I" } : Jvm.MethodName)) ∈ x_Wd := x_i4 124 (Eq.refl _) rfl
theorem q4_125 : (Jvm.Cond.code ({ cls := "CashLink$Dispenser", name := "fill", desc := "(II)I" } : Jvm.MethodName) prog_3_method_2_code (3 : Nat) (Option.some Jvm.ClassFile.FieldType.int)) ∈ x_Wd := x_i4 125 (Eq.refl _) rfl
theorem q4_126 : (Jvm.Cond.methodLinkNest "CashLink$Dispenser" (19 : Nat) ({ cls := "CashLink", name := "demand", desc := "(Z)V" } : Jvm.MethodName) "CashLink") ∈ x_Wd := x_i4 126 (Eq.refl _) rfl
theorem q4_127 : (Jvm.Cond.methodLink "CashLinkLaw" (119 : Nat) ({ cls := "CashLinkLaw", name := "power", desc := "(LCashLink;III)I" } : Jvm.MethodName)) ∈ x_Wd := x_i4 127 (Eq.refl _) rfl
theorem q4_128 : (Jvm.Cond.static ({ cls := "CashLinkLaw", name := "power", desc := "(LCashLink;III)I" } : Jvm.MethodName)) ∈ x_Wd := x_i4 128 (Eq.refl _) rfl
theorem q4_129 : (Jvm.Cond.codeWith ({ cls := "CashLinkLaw", name := "power", desc := "(LCashLink;III)I" } : Jvm.MethodName) method_12_code (5 : Nat) (Option.some Jvm.ClassFile.FieldType.int) [((0 : Nat), (7 : Nat), (10 : Nat), (13 : Nat))]) ∈ x_Wd := x_i4 129 (Eq.refl _) rfl
theorem q4_130 : (Jvm.Cond.methodLink "CashLinkLaw" (52 : Nat) ({ cls := "CashLink", name := "power", desc := "(III)V" } : Jvm.MethodName)) ∈ x_Wd := x_i4 130 (Eq.refl _) rfl
theorem q4_131 : (Jvm.Cond.instanceMethod ({ cls := "CashLink", name := "power", desc := "(III)V" } : Jvm.MethodName)) ∈ x_Wd := x_i4 131 (Eq.refl _) rfl
theorem q4_132 : (Jvm.Cond.selects "CashLink" ({ cls := "CashLink", name := "power", desc := "(III)V" } : Jvm.MethodName) ({ cls := "CashLink", name := "power", desc := "(III)V" } : Jvm.MethodName)) ∈ x_Wd := x_i4 132 (Eq.refl _) rfl
theorem q4_133 : (Jvm.Cond.code ({ cls := "CashLink", name := "power", desc := "(III)V" } : Jvm.MethodName) prog_1_method_11_code (5 : Nat) (Option.none : Option Jvm.ClassFile.FieldType)) ∈ x_Wd := x_i4 133 (Eq.refl _) rfl
theorem q4_134 : (Jvm.Cond.methodLink "CashLink" (122 : Nat) ({ cls := "CashLink$Journal", name := "planFailure", desc := "(II)V" } : Jvm.MethodName)) ∈ x_Wd := x_i4 134 (Eq.refl _) rfl
theorem q4_135 : (Jvm.Cond.instanceMethod ({ cls := "CashLink$Journal", name := "planFailure", desc := "(II)V" } : Jvm.MethodName)) ∈ x_Wd := x_i4 135 (Eq.refl _) rfl
theorem q4_136 : (Jvm.Cond.selects "CashLink$Journal" ({ cls := "CashLink$Journal", name := "planFailure", desc := "(II)V" } : Jvm.MethodName) ({ cls := "CashLink$Journal", name := "planFailure", desc := "(II)V" } : Jvm.MethodName)) ∈ x_Wd := x_i4 136 (Eq.refl _) rfl
theorem q4_137 : (Jvm.Cond.code ({ cls := "CashLink$Journal", name := "planFailure", desc := "(II)V" } : Jvm.MethodName) prog_5_method_7_code (3 : Nat) (Option.none : Option Jvm.ClassFile.FieldType)) ∈ x_Wd := x_i4 137 (Eq.refl _) rfl
theorem q4_138 : (Jvm.Cond.methodLink "CashLinkLaw" (123 : Nat) ({ cls := "CashLinkLaw", name := "on", desc := "(LCashLink;I[J)I" } : Jvm.MethodName)) ∈ x_Wd := x_i4 138 (Eq.refl _) rfl
theorem q4_139 : (Jvm.Cond.static ({ cls := "CashLinkLaw", name := "on", desc := "(LCashLink;I[J)I" } : Jvm.MethodName)) ∈ x_Wd := x_i4 139 (Eq.refl _) rfl
theorem q4_140 : (Jvm.Cond.codeWith ({ cls := "CashLinkLaw", name := "on", desc := "(LCashLink;I[J)I" } : Jvm.MethodName) method_13_code (4 : Nat) (Option.some Jvm.ClassFile.FieldType.int) [((0 : Nat), (9 : Nat), (12 : Nat), (13 : Nat)), ((0 : Nat), (9 : Nat), (15 : Nat), (27 : Nat))]) ∈ x_Wd := x_i4 140 (Eq.refl _) rfl
theorem q4_141 : (Jvm.Cond.methodLink "CashLinkLaw" (56 : Nat) ({ cls := "CashLink", name := "on", desc := "(I)I" } : Jvm.MethodName)) ∈ x_Wd := x_i4 141 (Eq.refl _) rfl
theorem q4_142 : (Jvm.Cond.instanceMethod ({ cls := "CashLink", name := "on", desc := "(I)I" } : Jvm.MethodName)) ∈ x_Wd := x_i4 142 (Eq.refl _) rfl
theorem q4_143 : (Jvm.Cond.selects "CashLink" ({ cls := "CashLink", name := "on", desc := "(I)I" } : Jvm.MethodName) ({ cls := "CashLink", name := "on", desc := "(I)I" } : Jvm.MethodName)) ∈ x_Wd := x_i4 143 (Eq.refl _) rfl
theorem q4_144 : (Jvm.Cond.code ({ cls := "CashLink", name := "on", desc := "(I)I" } : Jvm.MethodName) prog_1_method_12_code (2 : Nat) (Option.some Jvm.ClassFile.FieldType.int)) ∈ x_Wd := x_i4 144 (Eq.refl _) rfl
theorem q4_145 : (Jvm.Cond.methodLink "CashLink" (126 : Nat) ({ cls := "CashLink$Bank", name := "turnOn", desc := "()I" } : Jvm.MethodName)) ∈ x_Wd := x_i4 145 (Eq.refl _) rfl
theorem q4_146 : (Jvm.Cond.instanceMethod ({ cls := "CashLink$Bank", name := "turnOn", desc := "()I" } : Jvm.MethodName)) ∈ x_Wd := x_i4 146 (Eq.refl _) rfl
theorem q4_147 : (Jvm.Cond.selects "CashLink$Bank" ({ cls := "CashLink$Bank", name := "turnOn", desc := "()I" } : Jvm.MethodName) ({ cls := "CashLink$Bank", name := "turnOn", desc := "()I" } : Jvm.MethodName)) ∈ x_Wd := x_i4 147 (Eq.refl _) rfl
theorem q4_148 : (Jvm.Cond.code ({ cls := "CashLink$Bank", name := "turnOn", desc := "()I" } : Jvm.MethodName) prog_2_method_2_code (1 : Nat) (Option.some Jvm.ClassFile.FieldType.int)) ∈ x_Wd := x_i4 148 (Eq.refl _) rfl
theorem q4_149 : (Jvm.Cond.methodLink "CashLink$Bank" (28 : Nat) ({ cls := "CashLink$Journal", name := "turnOn", desc := "()V" } : Jvm.MethodName)) ∈ x_Wd := x_i4 149 (Eq.refl _) rfl
theorem q4_150 : (Jvm.Cond.instanceMethod ({ cls := "CashLink$Journal", name := "turnOn", desc := "()V" } : Jvm.MethodName)) ∈ x_Wd := x_i4 150 (Eq.refl _) rfl
theorem q4_151 : (Jvm.Cond.selects "CashLink$Journal" ({ cls := "CashLink$Journal", name := "turnOn", desc := "()V" } : Jvm.MethodName) ({ cls := "CashLink$Journal", name := "turnOn", desc := "()V" } : Jvm.MethodName)) ∈ x_Wd := x_i4 151 (Eq.refl _) rfl
theorem q4_152 : (Jvm.Cond.code ({ cls := "CashLink$Journal", name := "turnOn", desc := "()V" } : Jvm.MethodName) prog_5_method_6_code (1 : Nat) (Option.none : Option Jvm.ClassFile.FieldType)) ∈ x_Wd := x_i4 152 (Eq.refl _) rfl
theorem q4_153 : (Jvm.Cond.methodLink "CashLink" (129 : Nat) ({ cls := "CashLink$Machine", name := "turnOn", desc := "()I" } : Jvm.MethodName)) ∈ x_Wd := x_i4 153 (Eq.refl _) rfl
theorem q4_154 : (Jvm.Cond.instanceMethod ({ cls := "CashLink$Machine", name := "turnOn", desc := "()I" } : Jvm.MethodName)) ∈ x_Wd := x_i4 154 (Eq.refl _) rfl
theorem q4_155 : (Jvm.Cond.selects "CashLink$Machine" ({ cls := "CashLink$Machine", name := "turnOn", desc := "()I" } : Jvm.MethodName) ({ cls := "CashLink$Machine", name := "turnOn", desc := "()I" } : Jvm.MethodName)) ∈ x_Wd := x_i4 155 (Eq.refl _) rfl
theorem q4_156 : (Jvm.Cond.code ({ cls := "CashLink$Machine", name := "turnOn", desc := "()I" } : Jvm.MethodName) prog_6_method_16_code (2 : Nat) (Option.some Jvm.ClassFile.FieldType.int)) ∈ x_Wd := x_i4 156 (Eq.refl _) rfl
theorem q4_157 : (Jvm.Cond.methodLink "CashLink$Machine" (204 : Nat) ({ cls := "CashLink$Journal", name := "turnOn", desc := "()V" } : Jvm.MethodName)) ∈ x_Wd := x_i4 157 (Eq.refl _) rfl
theorem q4_158 : (Jvm.Cond.methodLink "CashLink$Machine" (207 : Nat) ({ cls := "CashLink$Machine", name := "recall", desc := "()V" } : Jvm.MethodName)) ∈ x_Wd := x_i4 158 (Eq.refl _) rfl
theorem q4_160 : (Jvm.Cond.instanceMethod ({ cls := "CashLink$Machine", name := "recall", desc := "()V" } : Jvm.MethodName)) ∈ x_Wd := x_i4 160 (Eq.refl _) rfl
theorem q4_161 : (Jvm.Cond.code ({ cls := "CashLink$Machine", name := "recall", desc := "()V" } : Jvm.MethodName) prog_6_method_17_code (3 : Nat) (Option.none : Option Jvm.ClassFile.FieldType)) ∈ x_Wd := x_i4 161 (Eq.refl _) rfl
theorem q4_162 : (Jvm.Cond.methodLink "CashLink$Machine" (213 : Nat) ({ cls := "java/util/ArrayList", name := "clear", desc := "()V" } : Jvm.MethodName)) ∈ x_Wd := x_i4 162 (Eq.refl _) rfl
theorem q4_163 : (Jvm.Cond.instanceMethod ({ cls := "java/util/ArrayList", name := "clear", desc := "()V" } : Jvm.MethodName)) ∈ x_Wd := x_i4 163 (Eq.refl _) rfl
theorem q4_164 : (Jvm.Cond.selects "java/util/ArrayList" ({ cls := "java/util/ArrayList", name := "clear", desc := "()V" } : Jvm.MethodName) ({ cls := "java/util/ArrayList", name := "clear", desc := "()V" } : Jvm.MethodName)) ∈ x_Wd := x_i4 164 (Eq.refl _) rfl
theorem q4_165 : (Jvm.Cond.code ({ cls := "java/util/ArrayList", name := "clear", desc := "()V" } : Jvm.MethodName) prog_35_method_40_code (4 : Nat) (Option.none : Option Jvm.ClassFile.FieldType)) ∈ x_Wd := x_i4 165 (Eq.refl _) rfl
theorem q4_166 : (Jvm.Cond.methodLink "CashLink$Machine" (210 : Nat) ({ cls := "CashLink$Machine", name := "finishLast", desc := "()V" } : Jvm.MethodName)) ∈ x_Wd := x_i4 166 (Eq.refl _) rfl
theorem q4_168 : (Jvm.Cond.instanceMethod ({ cls := "CashLink$Machine", name := "finishLast", desc := "()V" } : Jvm.MethodName)) ∈ x_Wd := x_i4 168 (Eq.refl _) rfl
theorem q4_169 : (Jvm.Cond.code ({ cls := "CashLink$Machine", name := "finishLast", desc := "()V" } : Jvm.MethodName) prog_6_method_18_code (2 : Nat) (Option.none : Option Jvm.ClassFile.FieldType)) ∈ x_Wd := x_i4 169 (Eq.refl _) rfl
theorem q4_170 : (Jvm.Cond.methodLink "CashLink$Machine" (216 : Nat) ({ cls := "CashLink$Machine", name := "has", desc := "(I)Z" } : Jvm.MethodName)) ∈ x_Wd := x_i4 170 (Eq.refl _) rfl
theorem q4_172 : (Jvm.Cond.instanceMethod ({ cls := "CashLink$Machine", name := "has", desc := "(I)Z" } : Jvm.MethodName)) ∈ x_Wd := x_i4 172 (Eq.refl _) rfl
theorem q4_173 : (Jvm.Cond.code ({ cls := "CashLink$Machine", name := "has", desc := "(I)Z" } : Jvm.MethodName) prog_6_method_19_code (2 : Nat) (Option.some Jvm.ClassFile.FieldType.boolean)) ∈ x_Wd := x_i4 173 (Eq.refl _) rfl
theorem q4_174 : (Jvm.Cond.methodLink "CashLink$Machine" (219 : Nat) ({ cls := "CashLink$Journal", name := "find", desc := "(III)LCashLink$Entry;" } : Jvm.MethodName)) ∈ x_Wd := x_i4 174 (Eq.refl _) rfl
theorem q4_175 : (Jvm.Cond.methodLink "CashLinkLaw" (126 : Nat) ({ cls := "CashLinkLaw", name := "told", desc := "(LCashLink;II[J)I" } : Jvm.MethodName)) ∈ x_Wd := x_i4 175 (Eq.refl _) rfl
theorem q4_176 : (Jvm.Cond.static ({ cls := "CashLinkLaw", name := "told", desc := "(LCashLink;II[J)I" } : Jvm.MethodName)) ∈ x_Wd := x_i4 176 (Eq.refl _) rfl
theorem q4_177 : (Jvm.Cond.codeWith ({ cls := "CashLinkLaw", name := "told", desc := "(LCashLink;II[J)I" } : Jvm.MethodName) method_14_code (5 : Nat) (Option.some Jvm.ClassFile.FieldType.int) [((0 : Nat), (10 : Nat), (13 : Nat), (13 : Nat))]) ∈ x_Wd := x_i4 177 (Eq.refl _) rfl
theorem q4_178 : (Jvm.Cond.methodLink "CashLinkLaw" (59 : Nat) ({ cls := "CashLink", name := "told", desc := "(II)I" } : Jvm.MethodName)) ∈ x_Wd := x_i4 178 (Eq.refl _) rfl
theorem q4_179 : (Jvm.Cond.instanceMethod ({ cls := "CashLink", name := "told", desc := "(II)I" } : Jvm.MethodName)) ∈ x_Wd := x_i4 179 (Eq.refl _) rfl
theorem q4_180 : (Jvm.Cond.selects "CashLink" ({ cls := "CashLink", name := "told", desc := "(II)I" } : Jvm.MethodName) ({ cls := "CashLink", name := "told", desc := "(II)I" } : Jvm.MethodName)) ∈ x_Wd := x_i4 180 (Eq.refl _) rfl
theorem q4_181 : (Jvm.Cond.code ({ cls := "CashLink", name := "told", desc := "(II)I" } : Jvm.MethodName) prog_1_method_13_code (4 : Nat) (Option.some Jvm.ClassFile.FieldType.int)) ∈ x_Wd := x_i4 181 (Eq.refl _) rfl
theorem q4_182 : (Jvm.Cond.methodLink "CashLink" (130 : Nat) ({ cls := "CashLink$Machine", name := "tell", desc := "(I)I" } : Jvm.MethodName)) ∈ x_Wd := x_i4 182 (Eq.refl _) rfl
theorem q4_183 : (Jvm.Cond.instanceMethod ({ cls := "CashLink$Machine", name := "tell", desc := "(I)I" } : Jvm.MethodName)) ∈ x_Wd := x_i4 183 (Eq.refl _) rfl
theorem q4_184 : (Jvm.Cond.selects "CashLink$Machine" ({ cls := "CashLink$Machine", name := "tell", desc := "(I)I" } : Jvm.MethodName) ({ cls := "CashLink$Machine", name := "tell", desc := "(I)I" } : Jvm.MethodName)) ∈ x_Wd := x_i4 184 (Eq.refl _) rfl
theorem q4_185 : (Jvm.Cond.code ({ cls := "CashLink$Machine", name := "tell", desc := "(I)I" } : Jvm.MethodName) prog_6_method_21_code (2 : Nat) (Option.some Jvm.ClassFile.FieldType.int)) ∈ x_Wd := x_i4 185 (Eq.refl _) rfl
theorem q4_186 : (Jvm.Cond.methodLink "CashLink" (133 : Nat) ({ cls := "CashLink$Dispenser", name := "tell", desc := "(I)I" } : Jvm.MethodName)) ∈ x_Wd := x_i4 186 (Eq.refl _) rfl
theorem q4_187 : (Jvm.Cond.instanceMethod ({ cls := "CashLink$Dispenser", name := "tell", desc := "(I)I" } : Jvm.MethodName)) ∈ x_Wd := x_i4 187 (Eq.refl _) rfl
theorem q4_188 : (Jvm.Cond.selects "CashLink$Dispenser" ({ cls := "CashLink$Dispenser", name := "tell", desc := "(I)I" } : Jvm.MethodName) ({ cls := "CashLink$Dispenser", name := "tell", desc := "(I)I" } : Jvm.MethodName)) ∈ x_Wd := x_i4 188 (Eq.refl _) rfl
theorem q4_189 : (Jvm.Cond.code ({ cls := "CashLink$Dispenser", name := "tell", desc := "(I)I" } : Jvm.MethodName) prog_3_method_7_code (2 : Nat) (Option.some Jvm.ClassFile.FieldType.int)) ∈ x_Wd := x_i4 189 (Eq.refl _) rfl
theorem q4_190 : (Jvm.Cond.methodLink "CashLinkLaw" (129 : Nat) ({ cls := "CashLinkLaw", name := "balance", desc := "(LCashLink;I[J)I" } : Jvm.MethodName)) ∈ x_Wd := x_i4 190 (Eq.refl _) rfl
theorem q4_191 : (Jvm.Cond.static ({ cls := "CashLinkLaw", name := "balance", desc := "(LCashLink;I[J)I" } : Jvm.MethodName)) ∈ x_Wd := x_i4 191 (Eq.refl _) rfl
theorem q4_192 : (Jvm.Cond.codeWith ({ cls := "CashLinkLaw", name := "balance", desc := "(LCashLink;I[J)I" } : Jvm.MethodName) method_15_code (4 : Nat) (Option.some Jvm.ClassFile.FieldType.int) [((0 : Nat), (9 : Nat), (12 : Nat), (13 : Nat))]) ∈ x_Wd := x_i4 192 (Eq.refl _) rfl
theorem q4_193 : (Jvm.Cond.methodLink "CashLinkLaw" (62 : Nat) ({ cls := "CashLink", name := "balance", desc := "(I)I" } : Jvm.MethodName)) ∈ x_Wd := x_i4 193 (Eq.refl _) rfl
theorem q4_194 : (Jvm.Cond.instanceMethod ({ cls := "CashLink", name := "balance", desc := "(I)I" } : Jvm.MethodName)) ∈ x_Wd := x_i4 194 (Eq.refl _) rfl
theorem q4_195 : (Jvm.Cond.selects "CashLink" ({ cls := "CashLink", name := "balance", desc := "(I)I" } : Jvm.MethodName) ({ cls := "CashLink", name := "balance", desc := "(I)I" } : Jvm.MethodName)) ∈ x_Wd := x_i4 195 (Eq.refl _) rfl
theorem q4_196 : (Jvm.Cond.code ({ cls := "CashLink", name := "balance", desc := "(I)I" } : Jvm.MethodName) prog_1_method_14_code (2 : Nat) (Option.some Jvm.ClassFile.FieldType.int)) ∈ x_Wd := x_i4 196 (Eq.refl _) rfl
theorem q4_197 : (Jvm.Cond.methodLink "CashLink" (134 : Nat) ({ cls := "CashLink$Bank", name := "balanceOf", desc := "(I)I" } : Jvm.MethodName)) ∈ x_Wd := x_i4 197 (Eq.refl _) rfl
theorem q4_198 : (Jvm.Cond.methodLink "CashLinkLaw" (132 : Nat) ({ cls := "CashLinkLaw", name := "taken", desc := "(LCashLink;I[J)I" } : Jvm.MethodName)) ∈ x_Wd := x_i4 198 (Eq.refl _) rfl
theorem q4_199 : (Jvm.Cond.static ({ cls := "CashLinkLaw", name := "taken", desc := "(LCashLink;I[J)I" } : Jvm.MethodName)) ∈ x_Wd := x_i4 199 (Eq.refl _) rfl
theorem q4_200 : (Jvm.Cond.codeWith ({ cls := "CashLinkLaw", name := "taken", desc := "(LCashLink;I[J)I" } : Jvm.MethodName) method_16_code (4 : Nat) (Option.some Jvm.ClassFile.FieldType.int) [((0 : Nat), (9 : Nat), (12 : Nat), (13 : Nat))]) ∈ x_Wd := x_i4 200 (Eq.refl _) rfl
theorem q4_201 : (Jvm.Cond.methodLink "CashLinkLaw" (65 : Nat) ({ cls := "CashLink", name := "taken", desc := "(I)I" } : Jvm.MethodName)) ∈ x_Wd := x_i4 201 (Eq.refl _) rfl
theorem q4_202 : (Jvm.Cond.instanceMethod ({ cls := "CashLink", name := "taken", desc := "(I)I" } : Jvm.MethodName)) ∈ x_Wd := x_i4 202 (Eq.refl _) rfl
theorem q4_203 : (Jvm.Cond.selects "CashLink" ({ cls := "CashLink", name := "taken", desc := "(I)I" } : Jvm.MethodName) ({ cls := "CashLink", name := "taken", desc := "(I)I" } : Jvm.MethodName)) ∈ x_Wd := x_i4 203 (Eq.refl _) rfl
theorem q4_204 : (Jvm.Cond.code ({ cls := "CashLink", name := "taken", desc := "(I)I" } : Jvm.MethodName) prog_1_method_15_code (2 : Nat) (Option.some Jvm.ClassFile.FieldType.int)) ∈ x_Wd := x_i4 204 (Eq.refl _) rfl
theorem q4_205 : (Jvm.Cond.methodLink "CashLinkLaw" (135 : Nat) ({ cls := "CashLinkLaw", name := "byteAt", desc := "(LCashLink;II[J)I" } : Jvm.MethodName)) ∈ x_Wd := x_i4 205 (Eq.refl _) rfl
theorem q4_206 : (Jvm.Cond.static ({ cls := "CashLinkLaw", name := "byteAt", desc := "(LCashLink;II[J)I" } : Jvm.MethodName)) ∈ x_Wd := x_i4 206 (Eq.refl _) rfl
theorem q4_207 : (Jvm.Cond.codeWith ({ cls := "CashLinkLaw", name := "byteAt", desc := "(LCashLink;II[J)I" } : Jvm.MethodName) method_17_code (5 : Nat) (Option.some Jvm.ClassFile.FieldType.int) [((0 : Nat), (10 : Nat), (13 : Nat), (43 : Nat))]) ∈ x_Wd := x_i4 207 (Eq.refl _) rfl
theorem q4_208 : (Jvm.Cond.methodLink "CashLinkLaw" (68 : Nat) ({ cls := "CashLink", name := "byteAt", desc := "(II)I" } : Jvm.MethodName)) ∈ x_Wd := x_i4 208 (Eq.refl _) rfl
theorem q4_209 : (Jvm.Cond.instanceMethod ({ cls := "CashLink", name := "byteAt", desc := "(II)I" } : Jvm.MethodName)) ∈ x_Wd := x_i4 209 (Eq.refl _) rfl
theorem q4_210 : (Jvm.Cond.selects "CashLink" ({ cls := "CashLink", name := "byteAt", desc := "(II)I" } : Jvm.MethodName) ({ cls := "CashLink", name := "byteAt", desc := "(II)I" } : Jvm.MethodName)) ∈ x_Wd := x_i4 210 (Eq.refl _) rfl
theorem q4_211 : (Jvm.Cond.code ({ cls := "CashLink", name := "byteAt", desc := "(II)I" } : Jvm.MethodName) prog_1_method_16_code (5 : Nat) (Option.some Jvm.ClassFile.FieldType.int)) ∈ x_Wd := x_i4 211 (Eq.refl _) rfl
theorem q4_213 : (Jvm.Cond.methodLink "CashLink" (144 : Nat) ({ cls := "CashLink$Message", name := "bytes", desc := "()Ljava/lang/StringBuilder;" } : Jvm.MethodName)) ∈ x_Wd := x_i4 213 (Eq.refl _) rfl
theorem q4_214 : (Jvm.Cond.instanceMethod ({ cls := "CashLink$Message", name := "bytes", desc := "()Ljava/lang/StringBuilder;" } : Jvm.MethodName)) ∈ x_Wd := x_i4 214 (Eq.refl _) rfl
theorem q4_215 : (Jvm.Cond.selects "CashLink$Message" ({ cls := "CashLink$Message", name := "bytes", desc := "()Ljava/lang/StringBuilder;" } : Jvm.MethodName) ({ cls := "CashLink$Message", name := "bytes", desc := "()Ljava/lang/StringBuilder;" } : Jvm.MethodName)) ∈ x_Wd := x_i4 215 (Eq.refl _) rfl
theorem q4_216 : (Jvm.Cond.code ({ cls := "CashLink$Message", name := "bytes", desc := "()Ljava/lang/StringBuilder;" } : Jvm.MethodName) prog_7_method_2_code (2 : Nat) (Option.some (Jvm.ClassFile.FieldType.object "java/lang/StringBuilder"))) ∈ x_Wd := x_i4 216 (Eq.refl _) rfl
theorem q4_217 : (Jvm.Cond.classLink "CashLink$Message" (29 : Nat) "java/lang/StringBuilder") ∈ x_Wd := x_i4 217 (Eq.refl _) rfl
theorem q4_218 : (Jvm.Cond.instantiable "java/lang/StringBuilder" (4 : Nat)) ∈ x_Wd := x_i4 218 (Eq.refl _) rfl
theorem q4_219 : (Jvm.Cond.methodLink "CashLink$Message" (31 : Nat) ({ cls := "java/lang/StringBuilder", name := "<init>", desc := "()V" } : Jvm.MethodName)) ∈ x_Wd := x_i4 219 (Eq.refl _) rfl
theorem q4_220 : (Jvm.Cond.instanceMethod ({ cls := "java/lang/StringBuilder", name := "<init>", desc := "()V" } : Jvm.MethodName)) ∈ x_Wd := x_i4 220 (Eq.refl _) rfl
theorem q4_221 : (Jvm.Cond.code ({ cls := "java/lang/StringBuilder", name := "<init>", desc := "()V" } : Jvm.MethodName) prog_27_method_1_code (1 : Nat) (Option.none : Option Jvm.ClassFile.FieldType)) ∈ x_Wd := x_i4 221 (Eq.refl _) rfl
theorem q4_222 : (Jvm.Cond.methodLink "java/lang/StringBuilder" (1 : Nat) ({ cls := "java/lang/AbstractStringBuilder", name := "<init>", desc := "(I)V" } : Jvm.MethodName)) ∈ x_Wd := x_i4 222 (Eq.refl _) rfl
theorem q4_223 : (Jvm.Cond.instanceMethod ({ cls := "java/lang/AbstractStringBuilder", name := "<init>", desc := "(I)V" } : Jvm.MethodName)) ∈ x_Wd := x_i4 223 (Eq.refl _) rfl
theorem q4_224 : (Jvm.Cond.code ({ cls := "java/lang/AbstractStringBuilder", name := "<init>", desc := "(I)V" } : Jvm.MethodName) prog_14_method_2_code (2 : Nat) (Option.none : Option Jvm.ClassFile.FieldType)) ∈ x_Wd := x_i4 224 (Eq.refl _) rfl
theorem q4_225 : (Jvm.Cond.methodLink "java/lang/AbstractStringBuilder" (3 : Nat) ({ cls := "java/lang/Object", name := "<init>", desc := "()V" } : Jvm.MethodName)) ∈ x_Wd := x_i4 225 (Eq.refl _) rfl
theorem q4_226 : (Jvm.Cond.fieldLink "java/lang/AbstractStringBuilder" (18 : Nat) "java/lang/String" "COMPACT_STRINGS" "Z") ∈ x_Wd := x_i4 226 (Eq.refl _) rfl
theorem q4_228 : (Jvm.Cond.methodLink "java/lang/AbstractStringBuilder" (26 : Nat) ({ cls := "java/lang/StringUTF16", name := "newBytesFor", desc := "(I)[B" } : Jvm.MethodName)) ∈ x_Wd := x_i4 228 (Eq.refl _) rfl
theorem q4_229 : (Jvm.Cond.static ({ cls := "java/lang/StringUTF16", name := "newBytesFor", desc := "(I)[B" } : Jvm.MethodName)) ∈ x_Wd := x_i4 229 (Eq.refl _) rfl
theorem q4_230 : (Jvm.Cond.code ({ cls := "java/lang/StringUTF16", name := "newBytesFor", desc := "(I)[B" } : Jvm.MethodName) prog_29_method_2_code (1 : Nat) (Option.some (Jvm.ClassFile.FieldType.array Jvm.ClassFile.FieldType.byte))) ∈ x_Wd := x_i4 230 (Eq.refl _) rfl
theorem q4_231 : (Jvm.Cond.methodLink "java/lang/StringUTF16" (11 : Nat) ({ cls := "java/lang/StringUTF16", name := "newBytesLength", desc := "(I)I" } : Jvm.MethodName)) ∈ x_Wd := x_i4 231 (Eq.refl _) rfl
theorem q4_232 : (Jvm.Cond.static ({ cls := "java/lang/StringUTF16", name := "newBytesLength", desc := "(I)I" } : Jvm.MethodName)) ∈ x_Wd := x_i4 232 (Eq.refl _) rfl
theorem q4_233 : (Jvm.Cond.code ({ cls := "java/lang/StringUTF16", name := "newBytesLength", desc := "(I)I" } : Jvm.MethodName) prog_29_method_3_code (1 : Nat) (Option.some Jvm.ClassFile.FieldType.int)) ∈ x_Wd := x_i4 233 (Eq.refl _) rfl
theorem q4_234 : (Jvm.Cond.constant "java/lang/StringUTF16" (20 : Nat) (1073741823 : Int32)) ∈ x_Wd := x_i4 234 (Eq.refl _) rfl
theorem q4_235 : (Jvm.Cond.fieldLink "java/lang/AbstractStringBuilder" (15 : Nat) "java/lang/AbstractStringBuilder" "value" "[B") ∈ x_Wd := x_i4 235 (Eq.refl _) rfl
theorem q4_236 : (Jvm.Cond.fieldLink "java/lang/AbstractStringBuilder" (22 : Nat) "java/lang/AbstractStringBuilder" "coder" "B") ∈ x_Wd := x_i4 236 (Eq.refl _) rfl
theorem q5_8 : (Jvm.Cond.methodLink "CashLink$Message" (38 : Nat) ({ cls := "java/lang/StringBuilder", name := "append", desc := "(Ljava/lang/String;)Ljava/lang/StringBuilder;" } : Jvm.MethodName)) ∈ x_Wd := x_i5 8 (Eq.refl _) rfl
theorem q5_9 : (Jvm.Cond.instanceMethod ({ cls := "java/lang/StringBuilder", name := "append", desc := "(Ljava/lang/String;)Ljava/lang/StringBuilder;" } : Jvm.MethodName)) ∈ x_Wd := x_i5 9 (Eq.refl _) rfl
theorem q5_10 : (Jvm.Cond.selects "java/lang/StringBuilder" ({ cls := "java/lang/StringBuilder", name := "append", desc := "(Ljava/lang/String;)Ljava/lang/StringBuilder;" } : Jvm.MethodName) ({ cls := "java/lang/StringBuilder", name := "append", desc := "(Ljava/lang/String;)Ljava/lang/StringBuilder;" } : Jvm.MethodName)) ∈ x_Wd := x_i5 10 (Eq.refl _) rfl
theorem q5_11 : (Jvm.Cond.code ({ cls := "java/lang/StringBuilder", name := "append", desc := "(Ljava/lang/String;)Ljava/lang/StringBuilder;" } : Jvm.MethodName) prog_27_method_7_code (2 : Nat) (Option.some (Jvm.ClassFile.FieldType.object "java/lang/StringBuilder"))) ∈ x_Wd := x_i5 11 (Eq.refl _) rfl
theorem q5_113 : (Jvm.Cond.methodLink "CashLink$Message" (42 : Nat) ({ cls := "CashLink$Message", name := "appendBitmap", desc := "(Ljava/lang/StringBuilder;)V" } : Jvm.MethodName)) ∈ x_Wd := x_i5 113 (Eq.refl _) rfl
theorem q5_115 : (Jvm.Cond.instanceMethod ({ cls := "CashLink$Message", name := "appendBitmap", desc := "(Ljava/lang/StringBuilder;)V" } : Jvm.MethodName)) ∈ x_Wd := x_i5 115 (Eq.refl _) rfl
theorem q5_116 : (Jvm.Cond.code ({ cls := "CashLink$Message", name := "appendBitmap", desc := "(Ljava/lang/StringBuilder;)V" } : Jvm.MethodName) prog_7_method_3_code (7 : Nat) (Option.none : Option Jvm.ClassFile.FieldType)) ∈ x_Wd := x_i5 116 (Eq.refl _) rfl
theorem q5_117 : (Jvm.Cond.methodLink "CashLink$Message" (60 : Nat) ({ cls := "java/lang/StringBuilder", name := "append", desc := "(C)Ljava/lang/StringBuilder;" } : Jvm.MethodName)) ∈ x_Wd := x_i5 117 (Eq.refl _) rfl
theorem q5_118 : (Jvm.Cond.instanceMethod ({ cls := "java/lang/StringBuilder", name := "append", desc := "(C)Ljava/lang/StringBuilder;" } : Jvm.MethodName)) ∈ x_Wd := x_i5 118 (Eq.refl _) rfl
theorem q5_119 : (Jvm.Cond.selects "java/lang/StringBuilder" ({ cls := "java/lang/StringBuilder", name := "append", desc := "(C)Ljava/lang/StringBuilder;" } : Jvm.MethodName) ({ cls := "java/lang/StringBuilder", name := "append", desc := "(C)Ljava/lang/StringBuilder;" } : Jvm.MethodName)) ∈ x_Wd := x_i5 119 (Eq.refl _) rfl
theorem q5_120 : (Jvm.Cond.code ({ cls := "java/lang/StringBuilder", name := "append", desc := "(C)Ljava/lang/StringBuilder;" } : Jvm.MethodName) prog_27_method_14_code (2 : Nat) (Option.some (Jvm.ClassFile.FieldType.object "java/lang/StringBuilder"))) ∈ x_Wd := x_i5 120 (Eq.refl _) rfl
theorem q5_137 : (Jvm.Cond.methodLink "CashLink$Message" (50 : Nat) ({ cls := "CashLink$Message", name := "appendDigits", desc := "(Ljava/lang/StringBuilder;II)V" } : Jvm.MethodName)) ∈ x_Wd := x_i5 137 (Eq.refl _) rfl
theorem q5_138 : (Jvm.Cond.static ({ cls := "CashLink$Message", name := "appendDigits", desc := "(Ljava/lang/StringBuilder;II)V" } : Jvm.MethodName)) ∈ x_Wd := x_i5 138 (Eq.refl _) rfl
theorem q5_139 : (Jvm.Cond.code ({ cls := "CashLink$Message", name := "appendDigits", desc := "(Ljava/lang/StringBuilder;II)V" } : Jvm.MethodName) prog_7_method_4_code (6 : Nat) (Option.none : Option Jvm.ClassFile.FieldType)) ∈ x_Wd := x_i5 139 (Eq.refl _) rfl
theorem q5_140 : (Jvm.Cond.methodLink "CashLink$Message" (63 : Nat) ({ cls := "java/lang/StringBuilder", name := "length", desc := "()I" } : Jvm.MethodName)) ∈ x_Wd := x_i5 140 (Eq.refl _) rfl
theorem q5_141 : (Jvm.Cond.instanceMethod ({ cls := "java/lang/StringBuilder", name := "length", desc := "()I" } : Jvm.MethodName)) ∈ x_Wd := x_i5 141 (Eq.refl _) rfl
theorem q5_142 : (Jvm.Cond.selects "java/lang/StringBuilder" ({ cls := "java/lang/StringBuilder", name := "length", desc := "()I" } : Jvm.MethodName) ({ cls := "java/lang/StringBuilder", name := "length", desc := "()I" } : Jvm.MethodName)) ∈ x_Wd := x_i5 142 (Eq.refl _) rfl
theorem q5_143 : (Jvm.Cond.code ({ cls := "java/lang/StringBuilder", name := "length", desc := "()I" } : Jvm.MethodName) prog_27_method_93_code (1 : Nat) (Option.some Jvm.ClassFile.FieldType.int)) ∈ x_Wd := x_i5 143 (Eq.refl _) rfl
theorem q5_147 : (Jvm.Cond.methodLink "CashLink$Message" (67 : Nat) ({ cls := "java/lang/StringBuilder", name := "setCharAt", desc := "(IC)V" } : Jvm.MethodName)) ∈ x_Wd := x_i5 147 (Eq.refl _) rfl
theorem q5_148 : (Jvm.Cond.instanceMethod ({ cls := "java/lang/StringBuilder", name := "setCharAt", desc := "(IC)V" } : Jvm.MethodName)) ∈ x_Wd := x_i5 148 (Eq.refl _) rfl
theorem q5_149 : (Jvm.Cond.selects "java/lang/StringBuilder" ({ cls := "java/lang/StringBuilder", name := "setCharAt", desc := "(IC)V" } : Jvm.MethodName) ({ cls := "java/lang/StringBuilder", name := "setCharAt", desc := "(IC)V" } : Jvm.MethodName)) ∈ x_Wd := x_i5 149 (Eq.refl _) rfl
theorem q5_150 : (Jvm.Cond.code ({ cls := "java/lang/StringBuilder", name := "setCharAt", desc := "(IC)V" } : Jvm.MethodName) prog_27_method_82_code (3 : Nat) (Option.none : Option Jvm.ClassFile.FieldType)) ∈ x_Wd := x_i5 150 (Eq.refl _) rfl
theorem q5_155 : (Jvm.Cond.methodLink "CashLink" (148 : Nat) ({ cls := "java/lang/StringBuilder", name := "length", desc := "()I" } : Jvm.MethodName)) ∈ x_Wd := x_i5 155 (Eq.refl _) rfl
theorem q5_156 : (Jvm.Cond.methodLink "CashLink" (153 : Nat) ({ cls := "java/lang/StringBuilder", name := "charAt", desc := "(I)C" } : Jvm.MethodName)) ∈ x_Wd := x_i5 156 (Eq.refl _) rfl
theorem q5_157 : (Jvm.Cond.instanceMethod ({ cls := "java/lang/StringBuilder", name := "charAt", desc := "(I)C" } : Jvm.MethodName)) ∈ x_Wd := x_i5 157 (Eq.refl _) rfl
theorem q5_158 : (Jvm.Cond.selects "java/lang/StringBuilder" ({ cls := "java/lang/StringBuilder", name := "charAt", desc := "(I)C" } : Jvm.MethodName) ({ cls := "java/lang/StringBuilder", name := "charAt", desc := "(I)C" } : Jvm.MethodName)) ∈ x_Wd := x_i5 158 (Eq.refl _) rfl
theorem q5_159 : (Jvm.Cond.code ({ cls := "java/lang/StringBuilder", name := "charAt", desc := "(I)C" } : Jvm.MethodName) prog_27_method_88_code (2 : Nat) (Option.some Jvm.ClassFile.FieldType.char)) ∈ x_Wd := x_i5 159 (Eq.refl _) rfl
theorem q5_167 : (Jvm.Cond.methodLink "CashLinkLaw" (138 : Nat) ({ cls := "CashLinkLaw", name := "mix", desc := "(LCashLink;III[J)I" } : Jvm.MethodName)) ∈ x_Wd := x_i5 167 (Eq.refl _) rfl
theorem q5_168 : (Jvm.Cond.static ({ cls := "CashLinkLaw", name := "mix", desc := "(LCashLink;III[J)I" } : Jvm.MethodName)) ∈ x_Wd := x_i5 168 (Eq.refl _) rfl
theorem q5_169 : (Jvm.Cond.codeWith ({ cls := "CashLinkLaw", name := "mix", desc := "(LCashLink;III[J)I" } : Jvm.MethodName) method_18_code (6 : Nat) (Option.some Jvm.ClassFile.FieldType.int) [((0 : Nat), (12 : Nat), (15 : Nat), (13 : Nat))]) ∈ x_Wd := x_i5 169 (Eq.refl _) rfl
theorem q5_170 : (Jvm.Cond.methodLink "CashLinkLaw" (71 : Nat) ({ cls := "CashLink", name := "mix", desc := "(III)I" } : Jvm.MethodName)) ∈ x_Wd := x_i5 170 (Eq.refl _) rfl
theorem q5_171 : (Jvm.Cond.instanceMethod ({ cls := "CashLink", name := "mix", desc := "(III)I" } : Jvm.MethodName)) ∈ x_Wd := x_i5 171 (Eq.refl _) rfl
theorem q5_172 : (Jvm.Cond.selects "CashLink" ({ cls := "CashLink", name := "mix", desc := "(III)I" } : Jvm.MethodName) ({ cls := "CashLink", name := "mix", desc := "(III)I" } : Jvm.MethodName)) ∈ x_Wd := x_i5 172 (Eq.refl _) rfl
theorem q5_173 : (Jvm.Cond.code ({ cls := "CashLink", name := "mix", desc := "(III)I" } : Jvm.MethodName) prog_1_method_17_code (6 : Nat) (Option.some Jvm.ClassFile.FieldType.int)) ∈ x_Wd := x_i5 173 (Eq.refl _) rfl
theorem q5_174 : (Jvm.Cond.methodLink "CashLink" (157 : Nat) ({ cls := "CashLink$Dispenser", name := "mixOf", desc := "(I)I" } : Jvm.MethodName)) ∈ x_Wd := x_i5 174 (Eq.refl _) rfl
theorem q5_175 : (Jvm.Cond.methodLink "CashLink" (160 : Nat) ({ cls := "CashLink$Dispenser", name := "notesIn", desc := "(II)I" } : Jvm.MethodName)) ∈ x_Wd := x_i5 175 (Eq.refl _) rfl
theorem q5_176 : (Jvm.Cond.methodLink "CashLinkLaw" (141 : Nat) ({ cls := "CashLinkLaw", name := "count", desc := "(LCashLink;I[J)I" } : Jvm.MethodName)) ∈ x_Wd := x_i5 176 (Eq.refl _) rfl
theorem q5_177 : (Jvm.Cond.static ({ cls := "CashLinkLaw", name := "count", desc := "(LCashLink;I[J)I" } : Jvm.MethodName)) ∈ x_Wd := x_i5 177 (Eq.refl _) rfl
theorem q5_178 : (Jvm.Cond.codeWith ({ cls := "CashLinkLaw", name := "count", desc := "(LCashLink;I[J)I" } : Jvm.MethodName) method_19_code (4 : Nat) (Option.some Jvm.ClassFile.FieldType.int) [((0 : Nat), (9 : Nat), (12 : Nat), (13 : Nat))]) ∈ x_Wd := x_i5 178 (Eq.refl _) rfl
theorem q5_179 : (Jvm.Cond.methodLink "CashLinkLaw" (74 : Nat) ({ cls := "CashLink", name := "count", desc := "(I)I" } : Jvm.MethodName)) ∈ x_Wd := x_i5 179 (Eq.refl _) rfl
theorem q5_180 : (Jvm.Cond.instanceMethod ({ cls := "CashLink", name := "count", desc := "(I)I" } : Jvm.MethodName)) ∈ x_Wd := x_i5 180 (Eq.refl _) rfl
theorem q5_181 : (Jvm.Cond.selects "CashLink" ({ cls := "CashLink", name := "count", desc := "(I)I" } : Jvm.MethodName) ({ cls := "CashLink", name := "count", desc := "(I)I" } : Jvm.MethodName)) ∈ x_Wd := x_i5 181 (Eq.refl _) rfl
theorem q5_182 : (Jvm.Cond.code ({ cls := "CashLink", name := "count", desc := "(I)I" } : Jvm.MethodName) prog_1_method_18_code (2 : Nat) (Option.some Jvm.ClassFile.FieldType.int)) ∈ x_Wd := x_i5 182 (Eq.refl _) rfl
theorem q5_183 : (Jvm.Cond.methodLink "CashLink" (163 : Nat) ({ cls := "CashLink$Journal", name := "isOn", desc := "()Z" } : Jvm.MethodName)) ∈ x_Wd := x_i5 183 (Eq.refl _) rfl
theorem q5_184 : (Jvm.Cond.methodLink "CashLink" (167 : Nat) ({ cls := "CashLink$Journal", name := "size", desc := "()I" } : Jvm.MethodName)) ∈ x_Wd := x_i5 184 (Eq.refl _) rfl
theorem q5_185 : (Jvm.Cond.methodLink "CashLink" (168 : Nat) ({ cls := "CashLink", name := "allBalances", desc := "()I" } : Jvm.MethodName)) ∈ x_Wd := x_i5 185 (Eq.refl _) rfl
theorem q5_187 : (Jvm.Cond.instanceMethod ({ cls := "CashLink", name := "allBalances", desc := "()I" } : Jvm.MethodName)) ∈ x_Wd := x_i5 187 (Eq.refl _) rfl
theorem q5_188 : (Jvm.Cond.code ({ cls := "CashLink", name := "allBalances", desc := "()I" } : Jvm.MethodName) prog_1_method_21_code (3 : Nat) (Option.some Jvm.ClassFile.FieldType.int)) ∈ x_Wd := x_i5 188 (Eq.refl _) rfl
theorem q5_189 : (Jvm.Cond.methodLink "CashLink" (171 : Nat) ({ cls := "CashLink", name := "accountsOff", desc := "(Z)I" } : Jvm.MethodName)) ∈ x_Wd := x_i5 189 (Eq.refl _) rfl
theorem q5_191 : (Jvm.Cond.instanceMethod ({ cls := "CashLink", name := "accountsOff", desc := "(Z)I" } : Jvm.MethodName)) ∈ x_Wd := x_i5 191 (Eq.refl _) rfl
theorem q5_192 : (Jvm.Cond.code ({ cls := "CashLink", name := "accountsOff", desc := "(Z)I" } : Jvm.MethodName) prog_1_method_22_code (5 : Nat) (Option.some Jvm.ClassFile.FieldType.int)) ∈ x_Wd := x_i5 192 (Eq.refl _) rfl
theorem q5_193 : (Jvm.Cond.methodLink "CashLink" (175 : Nat) ({ cls := "CashLink", name := "isQuiet", desc := "()Z" } : Jvm.MethodName)) ∈ x_Wd := x_i5 193 (Eq.refl _) rfl
theorem q5_195 : (Jvm.Cond.instanceMethod ({ cls := "CashLink", name := "isQuiet", desc := "()Z" } : Jvm.MethodName)) ∈ x_Wd := x_i5 195 (Eq.refl _) rfl
theorem q5_196 : (Jvm.Cond.code ({ cls := "CashLink", name := "isQuiet", desc := "()Z" } : Jvm.MethodName) prog_1_method_23_code (2 : Nat) (Option.some Jvm.ClassFile.FieldType.boolean)) ∈ x_Wd := x_i5 196 (Eq.refl _) rfl
theorem q5_197 : (Jvm.Cond.methodLink "CashLink" (191 : Nat) ({ cls := "CashLink$Machine", name := "isQuiet", desc := "()Z" } : Jvm.MethodName)) ∈ x_Wd := x_i5 197 (Eq.refl _) rfl
theorem q5_199 : (Jvm.Cond.classLink "CashLinkLaw" (78 : Nat) "CashLinkModel") ∈ x_Wd := x_i5 199 (Eq.refl _) rfl
theorem q5_200 : (Jvm.Cond.instantiable "CashLinkModel" (31 : Nat)) ∈ x_Wd := x_i5 200 (Eq.refl _) rfl
theorem q5_201 : (Jvm.Cond.methodLink "CashLinkLaw" (80 : Nat) ({ cls := "CashLinkModel", name := "<init>", desc := "()V" } : Jvm.MethodName)) ∈ x_Wd := x_i5 201 (Eq.refl _) rfl
theorem q5_202 : (Jvm.Cond.instanceMethod ({ cls := "CashLinkModel", name := "<init>", desc := "()V" } : Jvm.MethodName)) ∈ x_Wd := x_i5 202 (Eq.refl _) rfl
theorem q5_203 : (Jvm.Cond.code ({ cls := "CashLinkModel", name := "<init>", desc := "()V" } : Jvm.MethodName) prog_12_method_1_code (2 : Nat) (Option.none : Option Jvm.ClassFile.FieldType)) ∈ x_Wd := x_i5 203 (Eq.refl _) rfl
theorem q5_204 : (Jvm.Cond.methodLink "CashLinkModel" (1 : Nat) ({ cls := "java/lang/Object", name := "<init>", desc := "()V" } : Jvm.MethodName)) ∈ x_Wd := x_i5 204 (Eq.refl _) rfl
theorem q5_205 : (Jvm.Cond.fieldLink "CashLinkModel" (7 : Nat) "CashLinkModel" "rKind" "[I") ∈ x_Wd := x_i5 205 (Eq.refl _) rfl
theorem q5_206 : (Jvm.Cond.fieldLink "CashLinkModel" (13 : Nat) "CashLinkModel" "rMachine" "[I") ∈ x_Wd := x_i5 206 (Eq.refl _) rfl
theorem q5_207 : (Jvm.Cond.fieldLink "CashLinkModel" (16 : Nat) "CashLinkModel" "rTrace" "[I") ∈ x_Wd := x_i5 207 (Eq.refl _) rfl
theorem q5_208 : (Jvm.Cond.fieldLink "CashLinkModel" (19 : Nat) "CashLinkModel" "rA" "[I") ∈ x_Wd := x_i5 208 (Eq.refl _) rfl
theorem q5_209 : (Jvm.Cond.fieldLink "CashLinkModel" (22 : Nat) "CashLinkModel" "rB" "[I") ∈ x_Wd := x_i5 209 (Eq.refl _) rfl
theorem q5_210 : (Jvm.Cond.fieldLink "CashLinkModel" (25 : Nat) "CashLinkModel" "rC" "[I") ∈ x_Wd := x_i5 210 (Eq.refl _) rfl
theorem q5_211 : (Jvm.Cond.fieldLink "CashLinkModel" (28 : Nat) "CashLinkModel" "records" "[I") ∈ x_Wd := x_i5 211 (Eq.refl _) rfl
theorem q5_212 : (Jvm.Cond.fieldLink "CashLinkModel" (31 : Nat) "CashLinkModel" "left" "[I") ∈ x_Wd := x_i5 212 (Eq.refl _) rfl
theorem q5_213 : (Jvm.Cond.fieldLink "CashLinkModel" (34 : Nat) "CashLinkModel" "bytes" "[I") ∈ x_Wd := x_i5 213 (Eq.refl _) rfl
theorem q5_214 : (Jvm.Cond.fieldLink "CashLinkModel" (37 : Nat) "CashLinkModel" "isBankOn" "Z") ∈ x_Wd := x_i5 214 (Eq.refl _) rfl
theorem q5_215 : (Jvm.Cond.fieldLink "CashLinkModel" (41 : Nat) "CashLinkModel" "state" "[I") ∈ x_Wd := x_i5 215 (Eq.refl _) rfl
theorem q5_216 : (Jvm.Cond.fieldLink "CashLinkModel" (44 : Nat) "CashLinkModel" "card" "[I") ∈ x_Wd := x_i5 216 (Eq.refl _) rfl
theorem q5_217 : (Jvm.Cond.fieldLink "CashLinkModel" (47 : Nat) "CashLinkModel" "wrong" "[I") ∈ x_Wd := x_i5 217 (Eq.refl _) rfl
theorem q5_218 : (Jvm.Cond.fieldLink "CashLinkModel" (50 : Nat) "CashLinkModel" "notes" "[I") ∈ x_Wd := x_i5 218 (Eq.refl _) rfl
theorem q5_219 : (Jvm.Cond.fieldLink "CashLinkModel" (53 : Nat) "CashLinkModel" "lastDone" "[I") ∈ x_Wd := x_i5 219 (Eq.refl _) rfl
theorem q5_220 : (Jvm.Cond.fieldLink "CashLinkModel" (56 : Nat) "CashLinkModel" "lastValue" "[I") ∈ x_Wd := x_i5 220 (Eq.refl _) rfl
theorem q5_221 : (Jvm.Cond.fieldLink "CashLinkModel" (59 : Nat) "CashLinkModel" "allOut" "[I") ∈ x_Wd := x_i5 221 (Eq.refl _) rfl
theorem q5_222 : (Jvm.Cond.fieldLink "CashLinkModel" (62 : Nat) "CashLinkModel" "jam" "[I") ∈ x_Wd := x_i5 222 (Eq.refl _) rfl
theorem q5_223 : (Jvm.Cond.fieldLink "CashLinkModel" (65 : Nat) "CashLinkModel" "taken" "[I") ∈ x_Wd := x_i5 223 (Eq.refl _) rfl
theorem q5_224 : (Jvm.Cond.fieldLink "CashLinkModel" (68 : Nat) "CashLinkModel" "mType" "[I") ∈ x_Wd := x_i5 224 (Eq.refl _) rfl
theorem q5_225 : (Jvm.Cond.fieldLink "CashLinkModel" (71 : Nat) "CashLinkModel" "mAccount" "[I") ∈ x_Wd := x_i5 225 (Eq.refl _) rfl
theorem q5_226 : (Jvm.Cond.fieldLink "CashLinkModel" (74 : Nat) "CashLinkModel" "mAmount" "[I") ∈ x_Wd := x_i5 226 (Eq.refl _) rfl
theorem q5_227 : (Jvm.Cond.fieldLink "CashLinkModel" (77 : Nat) "CashLinkModel" "mTrace" "[I") ∈ x_Wd := x_i5 227 (Eq.refl _) rfl
theorem q5_228 : (Jvm.Cond.fieldLink "CashLinkModel" (80 : Nat) "CashLinkModel" "mAnswer" "[I") ∈ x_Wd := x_i5 228 (Eq.refl _) rfl
theorem q5_229 : (Jvm.Cond.fieldLink "CashLinkModel" (83 : Nat) "CashLinkModel" "mMachine" "[I") ∈ x_Wd := x_i5 229 (Eq.refl _) rfl
theorem q5_230 : (Jvm.Cond.fieldLink "CashLinkModel" (119 : Nat) "CashLinkModel" "messages" "I") ∈ x_Wd := x_i5 230 (Eq.refl _) rfl
theorem q5_231 : (Jvm.Cond.fieldLink "CashLinkModel" (96 : Nat) "CashLinkModel" "thrown" "I") ∈ x_Wd := x_i5 231 (Eq.refl _) rfl
theorem q5_232 : (Jvm.Cond.fieldLink "CashLinkModel" (86 : Nat) "CashLinkModel" "best" "[I") ∈ x_Wd := x_i5 232 (Eq.refl _) rfl
theorem q5_233 : (Jvm.Cond.fieldLink "CashLinkModel" (89 : Nat) "CashLinkModel" "old" "[I") ∈ x_Wd := x_i5 233 (Eq.refl _) rfl
theorem q5_234 : (Jvm.Cond.fieldLink "CashLinkModel" (92 : Nat) "CashLinkModel" "row" "[B") ∈ x_Wd := x_i5 234 (Eq.refl _) rfl
theorem q5_235 : (Jvm.Cond.fieldLink "CashLinkModel" (122 : Nat) "CashLinkModel" "size" "I") ∈ x_Wd := x_i5 235 (Eq.refl _) rfl
theorem q6_59 : (Jvm.Cond.methodLink "CashLinkLaw" (87 : Nat) ({ cls := "CashLinkModel", name := "thrown", desc := "()I" } : Jvm.MethodName)) ∈ x_Wd := x_i6 59 (Eq.refl _) rfl
theorem q6_60 : (Jvm.Cond.instanceMethod ({ cls := "CashLinkModel", name := "thrown", desc := "()I" } : Jvm.MethodName)) ∈ x_Wd := x_i6 60 (Eq.refl _) rfl
theorem q6_61 : (Jvm.Cond.selects "CashLinkModel" ({ cls := "CashLinkModel", name := "thrown", desc := "()I" } : Jvm.MethodName) ({ cls := "CashLinkModel", name := "thrown", desc := "()I" } : Jvm.MethodName)) ∈ x_Wd := x_i6 61 (Eq.refl _) rfl
theorem q6_62 : (Jvm.Cond.code ({ cls := "CashLinkModel", name := "thrown", desc := "()I" } : Jvm.MethodName) prog_12_method_2_code (1 : Nat) (Option.some Jvm.ClassFile.FieldType.int)) ∈ x_Wd := x_i6 62 (Eq.refl _) rfl
theorem q6_63 : (Jvm.Cond.methodLink "CashLinkLaw" (86 : Nat) ({ cls := "CashLinkModel", name := "card", desc := "(II)V" } : Jvm.MethodName)) ∈ x_Wd := x_i6 63 (Eq.refl _) rfl
theorem q6_64 : (Jvm.Cond.instanceMethod ({ cls := "CashLinkModel", name := "card", desc := "(II)V" } : Jvm.MethodName)) ∈ x_Wd := x_i6 64 (Eq.refl _) rfl
theorem q6_65 : (Jvm.Cond.selects "CashLinkModel" ({ cls := "CashLinkModel", name := "card", desc := "(II)V" } : Jvm.MethodName) ({ cls := "CashLinkModel", name := "card", desc := "(II)V" } : Jvm.MethodName)) ∈ x_Wd := x_i6 65 (Eq.refl _) rfl
theorem q6_66 : (Jvm.Cond.code ({ cls := "CashLinkModel", name := "card", desc := "(II)V" } : Jvm.MethodName) prog_12_method_25_code (3 : Nat) (Option.none : Option Jvm.ClassFile.FieldType)) ∈ x_Wd := x_i6 66 (Eq.refl _) rfl
theorem q6_67 : (Jvm.Cond.methodLink "CashLinkModel" (175 : Nat) ({ cls := "CashLinkModel", name := "in", desc := "(III)Z" } : Jvm.MethodName)) ∈ x_Wd := x_i6 67 (Eq.refl _) rfl
theorem q6_68 : (Jvm.Cond.static ({ cls := "CashLinkModel", name := "in", desc := "(III)Z" } : Jvm.MethodName)) ∈ x_Wd := x_i6 68 (Eq.refl _) rfl
theorem q6_69 : (Jvm.Cond.code ({ cls := "CashLinkModel", name := "in", desc := "(III)Z" } : Jvm.MethodName) prog_12_method_3_code (3 : Nat) (Option.some Jvm.ClassFile.FieldType.boolean)) ∈ x_Wd := x_i6 69 (Eq.refl _) rfl
theorem q6_70 : (Jvm.Cond.methodLink "CashLinkLaw" (94 : Nat) ({ cls := "CashLinkModel", name := "pin", desc := "(II)Z" } : Jvm.MethodName)) ∈ x_Wd := x_i6 70 (Eq.refl _) rfl
theorem q6_71 : (Jvm.Cond.instanceMethod ({ cls := "CashLinkModel", name := "pin", desc := "(II)Z" } : Jvm.MethodName)) ∈ x_Wd := x_i6 71 (Eq.refl _) rfl
theorem q6_72 : (Jvm.Cond.selects "CashLinkModel" ({ cls := "CashLinkModel", name := "pin", desc := "(II)Z" } : Jvm.MethodName) ({ cls := "CashLinkModel", name := "pin", desc := "(II)Z" } : Jvm.MethodName)) ∈ x_Wd := x_i6 72 (Eq.refl _) rfl
theorem q6_73 : (Jvm.Cond.code ({ cls := "CashLinkModel", name := "pin", desc := "(II)Z" } : Jvm.MethodName) prog_12_method_26_code (3 : Nat) (Option.some Jvm.ClassFile.FieldType.boolean)) ∈ x_Wd := x_i6 73 (Eq.refl _) rfl
theorem q6_74 : (Jvm.Cond.methodLink "CashLinkLaw" (97 : Nat) ({ cls := "CashLinkModel", name := "ask", desc := "(II)I" } : Jvm.MethodName)) ∈ x_Wd := x_i6 74 (Eq.refl _) rfl
theorem q6_75 : (Jvm.Cond.instanceMethod ({ cls := "CashLinkModel", name := "ask", desc := "(II)I" } : Jvm.MethodName)) ∈ x_Wd := x_i6 75 (Eq.refl _) rfl
theorem q6_76 : (Jvm.Cond.selects "CashLinkModel" ({ cls := "CashLinkModel", name := "ask", desc := "(II)I" } : Jvm.MethodName) ({ cls := "CashLinkModel", name := "ask", desc := "(II)I" } : Jvm.MethodName)) ∈ x_Wd := x_i6 76 (Eq.refl _) rfl
theorem q6_77 : (Jvm.Cond.codeWith ({ cls := "CashLinkModel", name := "ask", desc := "(II)I" } : Jvm.MethodName) prog_12_method_27_code (5 : Nat) (Option.some Jvm.ClassFile.FieldType.int) [((93 : Nat), (109 : Nat), (112 : Nat), (104 : Nat))]) ∈ x_Wd := x_i6 77 (Eq.refl _) rfl
theorem q6_78 : (Jvm.Cond.classLink "CashLinkModel" (104 : Nat) "java/lang/ArithmeticException") ∈ x_Wd := x_i6 78 (Eq.refl _) rfl
theorem q6_79 : (Jvm.Cond.methodLink "CashLinkModel" (159 : Nat) ({ cls := "CashLinkModel", name := "mixed", desc := "(II)Z" } : Jvm.MethodName)) ∈ x_Wd := x_i6 79 (Eq.refl _) rfl
theorem q6_81 : (Jvm.Cond.instanceMethod ({ cls := "CashLinkModel", name := "mixed", desc := "(II)Z" } : Jvm.MethodName)) ∈ x_Wd := x_i6 81 (Eq.refl _) rfl
theorem q6_82 : (Jvm.Cond.code ({ cls := "CashLinkModel", name := "mixed", desc := "(II)Z" } : Jvm.MethodName) prog_12_method_16_code (10 : Nat) (Option.some Jvm.ClassFile.FieldType.boolean)) ∈ x_Wd := x_i6 82 (Eq.refl _) rfl
theorem q6_83 : (Jvm.Cond.methodLink "CashLinkModel" (132 : Nat) ({ cls := "java/lang/Math", name := "min", desc := "(II)I" } : Jvm.MethodName)) ∈ x_Wd := x_i6 83 (Eq.refl _) rfl
theorem q6_84 : (Jvm.Cond.methodLink "CashLinkModel" (178 : Nat) ({ cls := "CashLinkModel", name := "voids", desc := "(I)I" } : Jvm.MethodName)) ∈ x_Wd := x_i6 84 (Eq.refl _) rfl
theorem q6_86 : (Jvm.Cond.instanceMethod ({ cls := "CashLinkModel", name := "voids", desc := "(I)I" } : Jvm.MethodName)) ∈ x_Wd := x_i6 86 (Eq.refl _) rfl
theorem q6_87 : (Jvm.Cond.code ({ cls := "CashLinkModel", name := "voids", desc := "(I)I" } : Jvm.MethodName) prog_12_method_10_code (4 : Nat) (Option.some Jvm.ClassFile.FieldType.int)) ∈ x_Wd := x_i6 87 (Eq.refl _) rfl
theorem q6_88 : (Jvm.Cond.methodLink "CashLinkModel" (100 : Nat) ({ cls := "CashLinkModel", name := "at", desc := "(I)I" } : Jvm.MethodName)) ∈ x_Wd := x_i6 88 (Eq.refl _) rfl
theorem q6_89 : (Jvm.Cond.static ({ cls := "CashLinkModel", name := "at", desc := "(I)I" } : Jvm.MethodName)) ∈ x_Wd := x_i6 89 (Eq.refl _) rfl
theorem q6_90 : (Jvm.Cond.code ({ cls := "CashLinkModel", name := "at", desc := "(I)I" } : Jvm.MethodName) prog_12_method_4_code (1 : Nat) (Option.some Jvm.ClassFile.FieldType.int)) ∈ x_Wd := x_i6 90 (Eq.refl _) rfl
theorem q6_91 : (Jvm.Cond.methodLink "CashLinkModel" (115 : Nat) ({ cls := "CashLinkModel", name := "isVoid", desc := "(II)Z" } : Jvm.MethodName)) ∈ x_Wd := x_i6 91 (Eq.refl _) rfl
theorem q6_93 : (Jvm.Cond.instanceMethod ({ cls := "CashLinkModel", name := "isVoid", desc := "(II)Z" } : Jvm.MethodName)) ∈ x_Wd := x_i6 93 (Eq.refl _) rfl
theorem q6_94 : (Jvm.Cond.code ({ cls := "CashLinkModel", name := "isVoid", desc := "(II)Z" } : Jvm.MethodName) prog_12_method_9_code (3 : Nat) (Option.some Jvm.ClassFile.FieldType.boolean)) ∈ x_Wd := x_i6 94 (Eq.refl _) rfl
theorem q6_95 : (Jvm.Cond.methodLink "CashLinkModel" (111 : Nat) ({ cls := "CashLinkModel", name := "has", desc := "(III)Z" } : Jvm.MethodName)) ∈ x_Wd := x_i6 95 (Eq.refl _) rfl
theorem q6_97 : (Jvm.Cond.instanceMethod ({ cls := "CashLinkModel", name := "has", desc := "(III)Z" } : Jvm.MethodName)) ∈ x_Wd := x_i6 97 (Eq.refl _) rfl
theorem q6_98 : (Jvm.Cond.code ({ cls := "CashLinkModel", name := "has", desc := "(III)Z" } : Jvm.MethodName) prog_12_method_7_code (4 : Nat) (Option.some Jvm.ClassFile.FieldType.boolean)) ∈ x_Wd := x_i6 98 (Eq.refl _) rfl
theorem q6_99 : (Jvm.Cond.methodLink "CashLinkModel" (107 : Nat) ({ cls := "CashLinkModel", name := "find", desc := "(IIII)I" } : Jvm.MethodName)) ∈ x_Wd := x_i6 99 (Eq.refl _) rfl
theorem q6_101 : (Jvm.Cond.instanceMethod ({ cls := "CashLinkModel", name := "find", desc := "(IIII)I" } : Jvm.MethodName)) ∈ x_Wd := x_i6 101 (Eq.refl _) rfl
theorem q6_102 : (Jvm.Cond.code ({ cls := "CashLinkModel", name := "find", desc := "(IIII)I" } : Jvm.MethodName) prog_12_method_6_code (6 : Nat) (Option.some Jvm.ClassFile.FieldType.int)) ∈ x_Wd := x_i6 102 (Eq.refl _) rfl
theorem q6_103 : (Jvm.Cond.methodLink "CashLinkModel" (146 : Nat) ({ cls := "CashLinkModel", name := "lastTrace", desc := "(I)I" } : Jvm.MethodName)) ∈ x_Wd := x_i6 103 (Eq.refl _) rfl
theorem q6_105 : (Jvm.Cond.instanceMethod ({ cls := "CashLinkModel", name := "lastTrace", desc := "(I)I" } : Jvm.MethodName)) ∈ x_Wd := x_i6 105 (Eq.refl _) rfl
theorem q6_106 : (Jvm.Cond.code ({ cls := "CashLinkModel", name := "lastTrace", desc := "(I)I" } : Jvm.MethodName) prog_12_method_8_code (4 : Nat) (Option.some Jvm.ClassFile.FieldType.int)) ∈ x_Wd := x_i6 106 (Eq.refl _) rfl
theorem q6_107 : (Jvm.Cond.methodLink "CashLinkModel" (138 : Nat) ({ cls := "CashLinkModel", name := "record", desc := "(IIIIIII)V" } : Jvm.MethodName)) ∈ x_Wd := x_i6 107 (Eq.refl _) rfl
theorem q6_109 : (Jvm.Cond.instanceMethod ({ cls := "CashLinkModel", name := "record", desc := "(IIIIIII)V" } : Jvm.MethodName)) ∈ x_Wd := x_i6 109 (Eq.refl _) rfl
theorem q6_110 : (Jvm.Cond.code ({ cls := "CashLinkModel", name := "record", desc := "(IIIIIII)V" } : Jvm.MethodName) prog_12_method_5_code (10 : Nat) (Option.none : Option Jvm.ClassFile.FieldType)) ∈ x_Wd := x_i6 110 (Eq.refl _) rfl
theorem q6_121 : (Jvm.Cond.methodLink "CashLinkModel" (142 : Nat) ({ cls := "CashLinkModel", name := "sent", desc := "(IIIIII)V" } : Jvm.MethodName)) ∈ x_Wd := x_i6 121 (Eq.refl _) rfl
theorem q6_123 : (Jvm.Cond.instanceMethod ({ cls := "CashLinkModel", name := "sent", desc := "(IIIIII)V" } : Jvm.MethodName)) ∈ x_Wd := x_i6 123 (Eq.refl _) rfl
theorem q6_124 : (Jvm.Cond.code ({ cls := "CashLinkModel", name := "sent", desc := "(IIIIII)V" } : Jvm.MethodName) prog_12_method_12_code (7 : Nat) (Option.none : Option Jvm.ClassFile.FieldType)) ∈ x_Wd := x_i6 124 (Eq.refl _) rfl
theorem q6_125 : (Jvm.Cond.methodLink "CashLinkLaw" (101 : Nat) ({ cls := "CashLinkModel", name := "cancel", desc := "(I)V" } : Jvm.MethodName)) ∈ x_Wd := x_i6 125 (Eq.refl _) rfl
theorem q6_126 : (Jvm.Cond.instanceMethod ({ cls := "CashLinkModel", name := "cancel", desc := "(I)V" } : Jvm.MethodName)) ∈ x_Wd := x_i6 126 (Eq.refl _) rfl
theorem q6_127 : (Jvm.Cond.selects "CashLinkModel" ({ cls := "CashLinkModel", name := "cancel", desc := "(I)V" } : Jvm.MethodName) ({ cls := "CashLinkModel", name := "cancel", desc := "(I)V" } : Jvm.MethodName)) ∈ x_Wd := x_i6 127 (Eq.refl _) rfl
theorem q6_128 : (Jvm.Cond.codeWith ({ cls := "CashLinkModel", name := "cancel", desc := "(I)V" } : Jvm.MethodName) prog_12_method_28_code (3 : Nat) (Option.none : Option Jvm.ClassFile.FieldType) [((67 : Nat), (72 : Nat), (75 : Nat), (104 : Nat))]) ∈ x_Wd := x_i6 128 (Eq.refl _) rfl
theorem q6_129 : (Jvm.Cond.methodLink "CashLinkModel" (162 : Nat) ({ cls := "CashLinkModel", name := "late", desc := "(I)V" } : Jvm.MethodName)) ∈ x_Wd := x_i6 129 (Eq.refl _) rfl
theorem q6_131 : (Jvm.Cond.instanceMethod ({ cls := "CashLinkModel", name := "late", desc := "(I)V" } : Jvm.MethodName)) ∈ x_Wd := x_i6 131 (Eq.refl _) rfl
theorem q6_132 : (Jvm.Cond.code ({ cls := "CashLinkModel", name := "late", desc := "(I)V" } : Jvm.MethodName) prog_12_method_18_code (3 : Nat) (Option.none : Option Jvm.ClassFile.FieldType)) ∈ x_Wd := x_i6 132 (Eq.refl _) rfl
theorem q6_133 : (Jvm.Cond.methodLink "CashLinkModel" (149 : Nat) ({ cls := "CashLinkModel", name := "amountOf", desc := "(II)I" } : Jvm.MethodName)) ∈ x_Wd := x_i6 133 (Eq.refl _) rfl
theorem q6_135 : (Jvm.Cond.instanceMethod ({ cls := "CashLinkModel", name := "amountOf", desc := "(II)I" } : Jvm.MethodName)) ∈ x_Wd := x_i6 135 (Eq.refl _) rfl
theorem q6_136 : (Jvm.Cond.code ({ cls := "CashLinkModel", name := "amountOf", desc := "(II)I" } : Jvm.MethodName) prog_12_method_11_code (3 : Nat) (Option.some Jvm.ClassFile.FieldType.int)) ∈ x_Wd := x_i6 136 (Eq.refl _) rfl
theorem q6_137 : (Jvm.Cond.methodLink "CashLinkModel" (152 : Nat) ({ cls := "CashLinkModel", name := "reverse", desc := "(III)V" } : Jvm.MethodName)) ∈ x_Wd := x_i6 137 (Eq.refl _) rfl
theorem q6_139 : (Jvm.Cond.instanceMethod ({ cls := "CashLinkModel", name := "reverse", desc := "(III)V" } : Jvm.MethodName)) ∈ x_Wd := x_i6 139 (Eq.refl _) rfl
theorem q6_140 : (Jvm.Cond.code ({ cls := "CashLinkModel", name := "reverse", desc := "(III)V" } : Jvm.MethodName) prog_12_method_17_code (4 : Nat) (Option.none : Option Jvm.ClassFile.FieldType)) ∈ x_Wd := x_i6 140 (Eq.refl _) rfl
theorem q6_141 : (Jvm.Cond.methodLink "CashLinkLaw" (105 : Nat) ({ cls := "CashLinkModel", name := "again", desc := "(I)I" } : Jvm.MethodName)) ∈ x_Wd := x_i6 141 (Eq.refl _) rfl
theorem q6_142 : (Jvm.Cond.instanceMethod ({ cls := "CashLinkModel", name := "again", desc := "(I)I" } : Jvm.MethodName)) ∈ x_Wd := x_i6 142 (Eq.refl _) rfl
theorem q6_143 : (Jvm.Cond.selects "CashLinkModel" ({ cls := "CashLinkModel", name := "again", desc := "(I)I" } : Jvm.MethodName) ({ cls := "CashLinkModel", name := "again", desc := "(I)I" } : Jvm.MethodName)) ∈ x_Wd := x_i6 143 (Eq.refl _) rfl
theorem q6_144 : (Jvm.Cond.code ({ cls := "CashLinkModel", name := "again", desc := "(I)I" } : Jvm.MethodName) prog_12_method_29_code (4 : Nat) (Option.some Jvm.ClassFile.FieldType.int)) ∈ x_Wd := x_i6 144 (Eq.refl _) rfl
theorem q6_145 : (Jvm.Cond.methodLink "CashLinkLaw" (108 : Nat) ({ cls := "CashLinkModel", name := "settle", desc := "(I)I" } : Jvm.MethodName)) ∈ x_Wd := x_i6 145 (Eq.refl _) rfl
theorem q6_146 : (Jvm.Cond.instanceMethod ({ cls := "CashLinkModel", name := "settle", desc := "(I)I" } : Jvm.MethodName)) ∈ x_Wd := x_i6 146 (Eq.refl _) rfl
theorem q6_147 : (Jvm.Cond.selects "CashLinkModel" ({ cls := "CashLinkModel", name := "settle", desc := "(I)I" } : Jvm.MethodName) ({ cls := "CashLinkModel", name := "settle", desc := "(I)I" } : Jvm.MethodName)) ∈ x_Wd := x_i6 147 (Eq.refl _) rfl
theorem q6_148 : (Jvm.Cond.code ({ cls := "CashLinkModel", name := "settle", desc := "(I)I" } : Jvm.MethodName) prog_12_method_30_code (4 : Nat) (Option.some Jvm.ClassFile.FieldType.int)) ∈ x_Wd := x_i6 148 (Eq.refl _) rfl
theorem q6_149 : (Jvm.Cond.methodLink "CashLinkLaw" (111 : Nat) ({ cls := "CashLinkModel", name := "deliver", desc := "(I)I" } : Jvm.MethodName)) ∈ x_Wd := x_i6 149 (Eq.refl _) rfl
theorem q6_150 : (Jvm.Cond.instanceMethod ({ cls := "CashLinkModel", name := "deliver", desc := "(I)I" } : Jvm.MethodName)) ∈ x_Wd := x_i6 150 (Eq.refl _) rfl
theorem q6_151 : (Jvm.Cond.selects "CashLinkModel" ({ cls := "CashLinkModel", name := "deliver", desc := "(I)I" } : Jvm.MethodName) ({ cls := "CashLinkModel", name := "deliver", desc := "(I)I" } : Jvm.MethodName)) ∈ x_Wd := x_i6 151 (Eq.refl _) rfl
theorem q6_152 : (Jvm.Cond.codeWith ({ cls := "CashLinkModel", name := "deliver", desc := "(I)I" } : Jvm.MethodName) prog_12_method_31_code (6 : Nat) (Option.some Jvm.ClassFile.FieldType.int) [((113 : Nat), (205 : Nat), (208 : Nat), (104 : Nat))]) ∈ x_Wd := x_i6 152 (Eq.refl _) rfl
theorem q6_153 : (Jvm.Cond.methodLink "CashLinkModel" (181 : Nat) ({ cls := "CashLinkModel", name := "bank", desc := "(I)V" } : Jvm.MethodName)) ∈ x_Wd := x_i6 153 (Eq.refl _) rfl
theorem q6_155 : (Jvm.Cond.instanceMethod ({ cls := "CashLinkModel", name := "bank", desc := "(I)V" } : Jvm.MethodName)) ∈ x_Wd := x_i6 155 (Eq.refl _) rfl
theorem q6_156 : (Jvm.Cond.code ({ cls := "CashLinkModel", name := "bank", desc := "(I)V" } : Jvm.MethodName) prog_12_method_24_code (9 : Nat) (Option.none : Option Jvm.ClassFile.FieldType)) ∈ x_Wd := x_i6 156 (Eq.refl _) rfl
theorem q6_157 : (Jvm.Cond.methodLink "CashLinkModel" (172 : Nat) ({ cls := "CashLinkModel", name := "worth", desc := "(I)I" } : Jvm.MethodName)) ∈ x_Wd := x_i6 157 (Eq.refl _) rfl
theorem q6_159 : (Jvm.Cond.instanceMethod ({ cls := "CashLinkModel", name := "worth", desc := "(I)I" } : Jvm.MethodName)) ∈ x_Wd := x_i6 159 (Eq.refl _) rfl
theorem q6_160 : (Jvm.Cond.code ({ cls := "CashLinkModel", name := "worth", desc := "(I)I" } : Jvm.MethodName) prog_12_method_23_code (5 : Nat) (Option.some Jvm.ClassFile.FieldType.int)) ∈ x_Wd := x_i6 160 (Eq.refl _) rfl
theorem q6_161 : (Jvm.Cond.methodLink "CashLinkModel" (184 : Nat) ({ cls := "CashLinkModel", name := "answered", desc := "(II)V" } : Jvm.MethodName)) ∈ x_Wd := x_i6 161 (Eq.refl _) rfl
theorem q6_163 : (Jvm.Cond.instanceMethod ({ cls := "CashLinkModel", name := "answered", desc := "(II)V" } : Jvm.MethodName)) ∈ x_Wd := x_i6 163 (Eq.refl _) rfl
theorem q6_164 : (Jvm.Cond.code ({ cls := "CashLinkModel", name := "answered", desc := "(II)V" } : Jvm.MethodName) prog_12_method_21_code (5 : Nat) (Option.none : Option Jvm.ClassFile.FieldType)) ∈ x_Wd := x_i6 164 (Eq.refl _) rfl
theorem q6_165 : (Jvm.Cond.methodLink "CashLinkModel" (166 : Nat) ({ cls := "CashLinkModel", name := "dispense", desc := "(II)V" } : Jvm.MethodName)) ∈ x_Wd := x_i6 165 (Eq.refl _) rfl
theorem q6_167 : (Jvm.Cond.instanceMethod ({ cls := "CashLinkModel", name := "dispense", desc := "(II)V" } : Jvm.MethodName)) ∈ x_Wd := x_i6 167 (Eq.refl _) rfl
theorem q6_168 : (Jvm.Cond.code ({ cls := "CashLinkModel", name := "dispense", desc := "(II)V" } : Jvm.MethodName) prog_12_method_19_code (7 : Nat) (Option.none : Option Jvm.ClassFile.FieldType)) ∈ x_Wd := x_i6 168 (Eq.refl _) rfl
theorem q6_169 : (Jvm.Cond.fieldLink "CashLinkModel" (156 : Nat) "CashLinkModel" "WORTH" "[I") ∈ x_Wd := x_i6 169 (Eq.refl _) rfl
theorem q6_171 : (Jvm.Cond.methodLink "CashLinkModel" (169 : Nat) ({ cls := "CashLinkModel", name := "paid", desc := "(III)V" } : Jvm.MethodName)) ∈ x_Wd := x_i6 171 (Eq.refl _) rfl
theorem q6_173 : (Jvm.Cond.instanceMethod ({ cls := "CashLinkModel", name := "paid", desc := "(III)V" } : Jvm.MethodName)) ∈ x_Wd := x_i6 173 (Eq.refl _) rfl
theorem q6_174 : (Jvm.Cond.code ({ cls := "CashLinkModel", name := "paid", desc := "(III)V" } : Jvm.MethodName) prog_12_method_20_code (5 : Nat) (Option.none : Option Jvm.ClassFile.FieldType)) ∈ x_Wd := x_i6 174 (Eq.refl _) rfl
theorem q6_175 : (Jvm.Cond.methodLink "CashLinkLaw" (114 : Nat) ({ cls := "CashLinkModel", name := "jam", desc := "(II)V" } : Jvm.MethodName)) ∈ x_Wd := x_i6 175 (Eq.refl _) rfl
theorem q6_176 : (Jvm.Cond.instanceMethod ({ cls := "CashLinkModel", name := "jam", desc := "(II)V" } : Jvm.MethodName)) ∈ x_Wd := x_i6 176 (Eq.refl _) rfl
theorem q6_177 : (Jvm.Cond.selects "CashLinkModel" ({ cls := "CashLinkModel", name := "jam", desc := "(II)V" } : Jvm.MethodName) ({ cls := "CashLinkModel", name := "jam", desc := "(II)V" } : Jvm.MethodName)) ∈ x_Wd := x_i6 177 (Eq.refl _) rfl
theorem q6_178 : (Jvm.Cond.code ({ cls := "CashLinkModel", name := "jam", desc := "(II)V" } : Jvm.MethodName) prog_12_method_32_code (3 : Nat) (Option.none : Option Jvm.ClassFile.FieldType)) ∈ x_Wd := x_i6 178 (Eq.refl _) rfl
theorem q6_179 : (Jvm.Cond.methodLink "CashLinkLaw" (118 : Nat) ({ cls := "CashLinkModel", name := "load", desc := "(III)I" } : Jvm.MethodName)) ∈ x_Wd := x_i6 179 (Eq.refl _) rfl
theorem q6_180 : (Jvm.Cond.instanceMethod ({ cls := "CashLinkModel", name := "load", desc := "(III)I" } : Jvm.MethodName)) ∈ x_Wd := x_i6 180 (Eq.refl _) rfl
theorem q6_181 : (Jvm.Cond.selects "CashLinkModel" ({ cls := "CashLinkModel", name := "load", desc := "(III)I" } : Jvm.MethodName) ({ cls := "CashLinkModel", name := "load", desc := "(III)I" } : Jvm.MethodName)) ∈ x_Wd := x_i6 181 (Eq.refl _) rfl
theorem q6_182 : (Jvm.Cond.code ({ cls := "CashLinkModel", name := "load", desc := "(III)I" } : Jvm.MethodName) prog_12_method_33_code (4 : Nat) (Option.some Jvm.ClassFile.FieldType.int)) ∈ x_Wd := x_i6 182 (Eq.refl _) rfl
theorem q6_183 : (Jvm.Cond.methodLink "CashLinkLaw" (122 : Nat) ({ cls := "CashLinkModel", name := "power", desc := "(III)V" } : Jvm.MethodName)) ∈ x_Wd := x_i6 183 (Eq.refl _) rfl
theorem q6_184 : (Jvm.Cond.instanceMethod ({ cls := "CashLinkModel", name := "power", desc := "(III)V" } : Jvm.MethodName)) ∈ x_Wd := x_i6 184 (Eq.refl _) rfl
theorem q6_185 : (Jvm.Cond.selects "CashLinkModel" ({ cls := "CashLinkModel", name := "power", desc := "(III)V" } : Jvm.MethodName) ({ cls := "CashLinkModel", name := "power", desc := "(III)V" } : Jvm.MethodName)) ∈ x_Wd := x_i6 185 (Eq.refl _) rfl
theorem q6_186 : (Jvm.Cond.code ({ cls := "CashLinkModel", name := "power", desc := "(III)V" } : Jvm.MethodName) prog_12_method_34_code (4 : Nat) (Option.none : Option Jvm.ClassFile.FieldType)) ∈ x_Wd := x_i6 186 (Eq.refl _) rfl
theorem q6_187 : (Jvm.Cond.methodLink "CashLinkLaw" (125 : Nat) ({ cls := "CashLinkModel", name := "on", desc := "(I)I" } : Jvm.MethodName)) ∈ x_Wd := x_i6 187 (Eq.refl _) rfl
theorem q6_188 : (Jvm.Cond.instanceMethod ({ cls := "CashLinkModel", name := "on", desc := "(I)I" } : Jvm.MethodName)) ∈ x_Wd := x_i6 188 (Eq.refl _) rfl
theorem q6_189 : (Jvm.Cond.selects "CashLinkModel" ({ cls := "CashLinkModel", name := "on", desc := "(I)I" } : Jvm.MethodName) ({ cls := "CashLinkModel", name := "on", desc := "(I)I" } : Jvm.MethodName)) ∈ x_Wd := x_i6 189 (Eq.refl _) rfl
theorem q6_190 : (Jvm.Cond.codeWith ({ cls := "CashLinkModel", name := "on", desc := "(I)I" } : Jvm.MethodName) prog_12_method_35_code (4 : Nat) (Option.some Jvm.ClassFile.FieldType.int) [((46 : Nat), (51 : Nat), (54 : Nat), (104 : Nat))]) ∈ x_Wd := x_i6 190 (Eq.refl _) rfl
theorem q6_191 : (Jvm.Cond.methodLink "CashLinkModel" (187 : Nat) ({ cls := "CashLinkModel", name := "wakes", desc := "(I)V" } : Jvm.MethodName)) ∈ x_Wd := x_i6 191 (Eq.refl _) rfl
theorem q6_193 : (Jvm.Cond.instanceMethod ({ cls := "CashLinkModel", name := "wakes", desc := "(I)V" } : Jvm.MethodName)) ∈ x_Wd := x_i6 193 (Eq.refl _) rfl
theorem q6_194 : (Jvm.Cond.code ({ cls := "CashLinkModel", name := "wakes", desc := "(I)V" } : Jvm.MethodName) prog_12_method_22_code (8 : Nat) (Option.none : Option Jvm.ClassFile.FieldType)) ∈ x_Wd := x_i6 194 (Eq.refl _) rfl
theorem q6_195 : (Jvm.Cond.methodLink "CashLinkLaw" (128 : Nat) ({ cls := "CashLinkModel", name := "told", desc := "(II)I" } : Jvm.MethodName)) ∈ x_Wd := x_i6 195 (Eq.refl _) rfl
theorem q6_196 : (Jvm.Cond.instanceMethod ({ cls := "CashLinkModel", name := "told", desc := "(II)I" } : Jvm.MethodName)) ∈ x_Wd := x_i6 196 (Eq.refl _) rfl
theorem q6_197 : (Jvm.Cond.selects "CashLinkModel" ({ cls := "CashLinkModel", name := "told", desc := "(II)I" } : Jvm.MethodName) ({ cls := "CashLinkModel", name := "told", desc := "(II)I" } : Jvm.MethodName)) ∈ x_Wd := x_i6 197 (Eq.refl _) rfl
theorem q6_198 : (Jvm.Cond.code ({ cls := "CashLinkModel", name := "told", desc := "(II)I" } : Jvm.MethodName) prog_12_method_36_code (3 : Nat) (Option.some Jvm.ClassFile.FieldType.int)) ∈ x_Wd := x_i6 198 (Eq.refl _) rfl
theorem q6_199 : (Jvm.Cond.methodLink "CashLinkLaw" (131 : Nat) ({ cls := "CashLinkModel", name := "balance", desc := "(I)I" } : Jvm.MethodName)) ∈ x_Wd := x_i6 199 (Eq.refl _) rfl
theorem q6_200 : (Jvm.Cond.instanceMethod ({ cls := "CashLinkModel", name := "balance", desc := "(I)I" } : Jvm.MethodName)) ∈ x_Wd := x_i6 200 (Eq.refl _) rfl
theorem q6_201 : (Jvm.Cond.selects "CashLinkModel" ({ cls := "CashLinkModel", name := "balance", desc := "(I)I" } : Jvm.MethodName) ({ cls := "CashLinkModel", name := "balance", desc := "(I)I" } : Jvm.MethodName)) ∈ x_Wd := x_i6 201 (Eq.refl _) rfl
theorem q6_202 : (Jvm.Cond.code ({ cls := "CashLinkModel", name := "balance", desc := "(I)I" } : Jvm.MethodName) prog_12_method_37_code (2 : Nat) (Option.some Jvm.ClassFile.FieldType.int)) ∈ x_Wd := x_i6 202 (Eq.refl _) rfl
theorem q6_203 : (Jvm.Cond.methodLink "CashLinkLaw" (134 : Nat) ({ cls := "CashLinkModel", name := "taken", desc := "(I)I" } : Jvm.MethodName)) ∈ x_Wd := x_i6 203 (Eq.refl _) rfl
theorem q6_204 : (Jvm.Cond.instanceMethod ({ cls := "CashLinkModel", name := "taken", desc := "(I)I" } : Jvm.MethodName)) ∈ x_Wd := x_i6 204 (Eq.refl _) rfl
theorem q6_205 : (Jvm.Cond.selects "CashLinkModel" ({ cls := "CashLinkModel", name := "taken", desc := "(I)I" } : Jvm.MethodName) ({ cls := "CashLinkModel", name := "taken", desc := "(I)I" } : Jvm.MethodName)) ∈ x_Wd := x_i6 205 (Eq.refl _) rfl
theorem q6_206 : (Jvm.Cond.code ({ cls := "CashLinkModel", name := "taken", desc := "(I)I" } : Jvm.MethodName) prog_12_method_38_code (2 : Nat) (Option.some Jvm.ClassFile.FieldType.int)) ∈ x_Wd := x_i6 206 (Eq.refl _) rfl
theorem q6_207 : (Jvm.Cond.methodLink "CashLinkLaw" (137 : Nat) ({ cls := "CashLinkModel", name := "byteAt", desc := "(II)I" } : Jvm.MethodName)) ∈ x_Wd := x_i6 207 (Eq.refl _) rfl
theorem q6_208 : (Jvm.Cond.instanceMethod ({ cls := "CashLinkModel", name := "byteAt", desc := "(II)I" } : Jvm.MethodName)) ∈ x_Wd := x_i6 208 (Eq.refl _) rfl
theorem q6_209 : (Jvm.Cond.selects "CashLinkModel" ({ cls := "CashLinkModel", name := "byteAt", desc := "(II)I" } : Jvm.MethodName) ({ cls := "CashLinkModel", name := "byteAt", desc := "(II)I" } : Jvm.MethodName)) ∈ x_Wd := x_i6 209 (Eq.refl _) rfl
theorem q6_210 : (Jvm.Cond.code ({ cls := "CashLinkModel", name := "byteAt", desc := "(II)I" } : Jvm.MethodName) prog_12_method_39_code (3 : Nat) (Option.some Jvm.ClassFile.FieldType.int)) ∈ x_Wd := x_i6 210 (Eq.refl _) rfl
theorem q6_211 : (Jvm.Cond.methodLink "CashLinkModel" (190 : Nat) ({ cls := "CashLinkModel", name := "lay", desc := "(I)V" } : Jvm.MethodName)) ∈ x_Wd := x_i6 211 (Eq.refl _) rfl
theorem q6_213 : (Jvm.Cond.instanceMethod ({ cls := "CashLinkModel", name := "lay", desc := "(I)V" } : Jvm.MethodName)) ∈ x_Wd := x_i6 213 (Eq.refl _) rfl
theorem q6_214 : (Jvm.Cond.code ({ cls := "CashLinkModel", name := "lay", desc := "(I)V" } : Jvm.MethodName) prog_12_method_15_code (5 : Nat) (Option.none : Option Jvm.ClassFile.FieldType)) ∈ x_Wd := x_i6 214 (Eq.refl _) rfl
theorem q6_215 : (Jvm.Cond.methodLink "CashLinkModel" (125 : Nat) ({ cls := "CashLinkModel", name := "digits", desc := "(II)V" } : Jvm.MethodName)) ∈ x_Wd := x_i6 215 (Eq.refl _) rfl
theorem q6_217 : (Jvm.Cond.instanceMethod ({ cls := "CashLinkModel", name := "digits", desc := "(II)V" } : Jvm.MethodName)) ∈ x_Wd := x_i6 217 (Eq.refl _) rfl
theorem q6_218 : (Jvm.Cond.code ({ cls := "CashLinkModel", name := "digits", desc := "(II)V" } : Jvm.MethodName) prog_12_method_13_code (5 : Nat) (Option.none : Option Jvm.ClassFile.FieldType)) ∈ x_Wd := x_i6 218 (Eq.refl _) rfl
theorem q6_219 : (Jvm.Cond.methodLink "CashLinkModel" (129 : Nat) ({ cls := "CashLinkModel", name := "isField", desc := "(II)Z" } : Jvm.MethodName)) ∈ x_Wd := x_i6 219 (Eq.refl _) rfl
theorem q6_221 : (Jvm.Cond.instanceMethod ({ cls := "CashLinkModel", name := "isField", desc := "(II)Z" } : Jvm.MethodName)) ∈ x_Wd := x_i6 221 (Eq.refl _) rfl
theorem q6_222 : (Jvm.Cond.code ({ cls := "CashLinkModel", name := "isField", desc := "(II)Z" } : Jvm.MethodName) prog_12_method_14_code (3 : Nat) (Option.some Jvm.ClassFile.FieldType.boolean)) ∈ x_Wd := x_i6 222 (Eq.refl _) rfl
theorem q6_223 : (Jvm.Cond.methodLink "CashLinkLaw" (140 : Nat) ({ cls := "CashLinkModel", name := "mix", desc := "(III)I" } : Jvm.MethodName)) ∈ x_Wd := x_i6 223 (Eq.refl _) rfl
theorem q6_224 : (Jvm.Cond.instanceMethod ({ cls := "CashLinkModel", name := "mix", desc := "(III)I" } : Jvm.MethodName)) ∈ x_Wd := x_i6 224 (Eq.refl _) rfl
theorem q6_225 : (Jvm.Cond.selects "CashLinkModel" ({ cls := "CashLinkModel", name := "mix", desc := "(III)I" } : Jvm.MethodName) ({ cls := "CashLinkModel", name := "mix", desc := "(III)I" } : Jvm.MethodName)) ∈ x_Wd := x_i6 225 (Eq.refl _) rfl
theorem q6_226 : (Jvm.Cond.code ({ cls := "CashLinkModel", name := "mix", desc := "(III)I" } : Jvm.MethodName) prog_12_method_40_code (4 : Nat) (Option.some Jvm.ClassFile.FieldType.int)) ∈ x_Wd := x_i6 226 (Eq.refl _) rfl
theorem q6_227 : (Jvm.Cond.methodLink "CashLinkLaw" (143 : Nat) ({ cls := "CashLinkModel", name := "count", desc := "(I)I" } : Jvm.MethodName)) ∈ x_Wd := x_i6 227 (Eq.refl _) rfl
theorem q6_228 : (Jvm.Cond.instanceMethod ({ cls := "CashLinkModel", name := "count", desc := "(I)I" } : Jvm.MethodName)) ∈ x_Wd := x_i6 228 (Eq.refl _) rfl
theorem q6_229 : (Jvm.Cond.selects "CashLinkModel" ({ cls := "CashLinkModel", name := "count", desc := "(I)I" } : Jvm.MethodName) ({ cls := "CashLinkModel", name := "count", desc := "(I)I" } : Jvm.MethodName)) ∈ x_Wd := x_i6 229 (Eq.refl _) rfl
theorem q6_230 : (Jvm.Cond.code ({ cls := "CashLinkModel", name := "count", desc := "(I)I" } : Jvm.MethodName) prog_12_method_41_code (5 : Nat) (Option.some Jvm.ClassFile.FieldType.int)) ∈ x_Wd := x_i6 230 (Eq.refl _) rfl
theorem q6_231 : (Jvm.Cond.arrayClass Jvm.ClassFile.FieldType.long) ∈ x_Wd := x_i6 231 (Eq.refl _) rfl
theorem q7_4 : (Jvm.Cond.castable "CashLink$Entry" "CashLink$Entry") ∈ x_Wd := x_i7 4 (Eq.refl _) rfl
theorem q7_5 : (Jvm.Cond.castable "CashLink$Message" "CashLink$Message") ∈ x_Wd := x_i7 5 (Eq.refl _) rfl
theorem q7_21 : (Jvm.Cond.fieldLink "CashLink" (84 : Nat) "CashLink$Type" "toBank" "Z") ∈ x_Wd := x_i7 21 (Eq.refl _) rfl
theorem q7_22 : (Jvm.Cond.fieldLink "CashLink$Machine" (226 : Nat) "CashLink$State" "number" "I") ∈ x_Wd := x_i7 22 (Eq.refl _) rfl
theorem q7_23 : (Jvm.Cond.fieldLink "CashLink$Message" (32 : Nat) "CashLink$Type" "digits" "Ljava/lang/String;") ∈ x_Wd := x_i7 23 (Eq.refl _) rfl
theorem q7_26 : (Jvm.Cond.fieldLink "CashLink$Message" (46 : Nat) "CashLink$Type" "hasAccount" "Z") ∈ x_Wd := x_i7 26 (Eq.refl _) rfl
theorem q7_27 : (Jvm.Cond.fieldLink "CashLink$Message" (54 : Nat) "CashLink$Type" "toBank" "Z") ∈ x_Wd := x_i7 27 (Eq.refl _) rfl
theorem q7_28 : (Jvm.Cond.fieldLink "CashLink$Message" (57 : Nat) "CashLink$Type" "hasAnswer" "Z") ∈ x_Wd := x_i7 28 (Eq.refl _) rfl
theorem q1_13 : (Jvm.Cond.initialized "java/lang/Throwable") ∈ x_Wd := x_i1 13 (Eq.refl _) rfl
theorem q1_14 : (Jvm.Cond.initialized "java/lang/Exception") ∈ x_Wd := x_i1 14 (Eq.refl _) rfl
theorem q1_15 : (Jvm.Cond.initialized "java/lang/RuntimeException") ∈ x_Wd := x_i1 15 (Eq.refl _) rfl
theorem q1_16 : (Jvm.Cond.initialized "java/lang/IllegalArgumentException") ∈ x_Wd := x_i1 16 (Eq.refl _) rfl
theorem q1_17 : (Jvm.Cond.initialized "java/lang/IllegalStateException") ∈ x_Wd := x_i1 17 (Eq.refl _) rfl
theorem q1_19 : (Jvm.Cond.initialized "java/lang/UnsupportedOperationException") ∈ x_Wd := x_i1 19 (Eq.refl _) rfl
theorem q1_25 : (Jvm.Cond.initialized "java/lang/ArithmeticException") ∈ x_Wd := x_i1 25 (Eq.refl _) rfl
theorem q1_30 : (Jvm.Cond.initialized "java/lang/IndexOutOfBoundsException") ∈ x_Wd := x_i1 30 (Eq.refl _) rfl
theorem q1_230 : (Jvm.Cond.classLink "CashLink" (181 : Nat) "java/lang/IllegalArgumentException") ∈ x_Wd := x_i1 230 (Eq.refl _) rfl
theorem q1_231 : (Jvm.Cond.instantiable "java/lang/IllegalArgumentException" (6 : Nat)) ∈ x_Wd := x_i1 231 (Eq.refl _) rfl
theorem q1_232 : (Jvm.Cond.castable "java/lang/IllegalArgumentException" "java/lang/IllegalArgumentException") ∈ x_Wd := x_i1 232 (Eq.refl _) rfl
theorem q1_233 : (Jvm.Cond.declares ({ cls := "java/lang/RuntimeException", name := "<init>", desc := "()V" } : Jvm.MethodName)) ∈ x_Wd := x_i1 233 (Eq.refl _) rfl
theorem q1_234 : (Jvm.Cond.declares ({ cls := "java/lang/RuntimeException", name := "<init>", desc := "(Ljava/lang/String;)V" } : Jvm.MethodName)) ∈ x_Wd := x_i1 234 (Eq.refl _) rfl
theorem q1_235 : (Jvm.Cond.declares ({ cls := "java/lang/Exception", name := "<init>", desc := "()V" } : Jvm.MethodName)) ∈ x_Wd := x_i1 235 (Eq.refl _) rfl
theorem q1_236 : (Jvm.Cond.declares ({ cls := "java/lang/Exception", name := "<init>", desc := "(Ljava/lang/String;)V" } : Jvm.MethodName)) ∈ x_Wd := x_i1 236 (Eq.refl _) rfl
theorem q1_237 : (Jvm.Cond.declares ({ cls := "java/lang/Throwable", name := "<init>", desc := "()V" } : Jvm.MethodName)) ∈ x_Wd := x_i1 237 (Eq.refl _) rfl
theorem q1_238 : (Jvm.Cond.declares ({ cls := "java/lang/Throwable", name := "<init>", desc := "(Ljava/lang/String;)V" } : Jvm.MethodName)) ∈ x_Wd := x_i1 238 (Eq.refl _) rfl
theorem q1_239 : (Jvm.Cond.selects "java/lang/IllegalArgumentException" ({ cls := "java/lang/Throwable", name := "fillInStackTrace", desc := "(I)Ljava/lang/Throwable;" } : Jvm.MethodName) ({ cls := "java/lang/Throwable", name := "fillInStackTrace", desc := "(I)Ljava/lang/Throwable;" } : Jvm.MethodName)) ∈ x_Wd := x_i1 239 (Eq.refl _) rfl
theorem q2_0 : (Jvm.Cond.selects "java/lang/IllegalArgumentException" ({ cls := "java/lang/Throwable", name := "fillInStackTrace", desc := "()Ljava/lang/Throwable;" } : Jvm.MethodName) ({ cls := "java/lang/Throwable", name := "fillInStackTrace", desc := "()Ljava/lang/Throwable;" } : Jvm.MethodName)) ∈ x_Wd := x_i2 0 (Eq.refl _) rfl
theorem q2_1 : (Jvm.Cond.lays "java/lang/IllegalArgumentException" "java/lang/Throwable" "cause" "Ljava/lang/Throwable;") ∈ x_Wd := x_i2 1 (Eq.refl _) rfl
theorem q2_2 : (Jvm.Cond.lays "java/lang/Throwable" "java/lang/Throwable" "cause" "Ljava/lang/Throwable;") ∈ x_Wd := x_i2 2 (Eq.refl _) rfl
theorem q2_3 : (Jvm.Cond.lays "java/lang/IllegalArgumentException" "java/lang/Throwable" "stackTrace" "[Ljava/lang/StackTraceElement;") ∈ x_Wd := x_i2 3 (Eq.refl _) rfl
theorem q2_4 : (Jvm.Cond.lays "java/lang/Throwable" "java/lang/Throwable" "stackTrace" "[Ljava/lang/StackTraceElement;") ∈ x_Wd := x_i2 4 (Eq.refl _) rfl
theorem q2_5 : (Jvm.Cond.lays "java/lang/IllegalArgumentException" "java/lang/Throwable" "suppressedExceptions" "Ljava/util/List;") ∈ x_Wd := x_i2 5 (Eq.refl _) rfl
theorem q2_6 : (Jvm.Cond.lays "java/lang/Throwable" "java/lang/Throwable" "suppressedExceptions" "Ljava/util/List;") ∈ x_Wd := x_i2 6 (Eq.refl _) rfl
theorem q2_7 : (Jvm.Cond.lays "java/lang/IllegalArgumentException" "java/lang/Throwable" "detailMessage" "Ljava/lang/String;") ∈ x_Wd := x_i2 7 (Eq.refl _) rfl
theorem q2_8 : (Jvm.Cond.lays "java/lang/Throwable" "java/lang/Throwable" "detailMessage" "Ljava/lang/String;") ∈ x_Wd := x_i2 8 (Eq.refl _) rfl
theorem q2_9 : (Jvm.Cond.lays "java/lang/IllegalArgumentException" "java/lang/Throwable" "backtrace" "Ljava/lang/Object;") ∈ x_Wd := x_i2 9 (Eq.refl _) rfl
theorem q2_10 : (Jvm.Cond.lays "java/lang/Throwable" "java/lang/Throwable" "backtrace" "Ljava/lang/Object;") ∈ x_Wd := x_i2 10 (Eq.refl _) rfl
theorem q2_11 : (Jvm.Cond.fieldLink "java/lang/Throwable" (198 : Nat) "java/lang/Throwable" "backtrace" "Ljava/lang/Object;") ∈ x_Wd := x_i2 11 (Eq.refl _) rfl
theorem q2_12 : (Jvm.Cond.superclass "java/lang/Throwable" "java/lang/Object") ∈ x_Wd := x_i2 12 (Eq.refl _) rfl
theorem q2_13 : (Jvm.Cond.instanceMethod ({ cls := "java/lang/Throwable", name := "<init>", desc := "()V" } : Jvm.MethodName)) ∈ x_Wd := x_i2 13 (Eq.refl _) rfl
theorem q2_14 : (Jvm.Cond.code ({ cls := "java/lang/Throwable", name := "<init>", desc := "()V" } : Jvm.MethodName) prog_31_method_1_code (1 : Nat) (Option.none : Option Jvm.ClassFile.FieldType)) ∈ x_Wd := x_i2 14 (Eq.refl _) rfl
theorem q2_15 : (Jvm.Cond.methodLink "java/lang/Throwable" (1 : Nat) ({ cls := "java/lang/Object", name := "<init>", desc := "()V" } : Jvm.MethodName)) ∈ x_Wd := x_i2 15 (Eq.refl _) rfl
theorem q2_16 : (Jvm.Cond.fieldLink "java/lang/Throwable" (13 : Nat) "java/lang/Throwable" "UNASSIGNED_STACK" "[Ljava/lang/StackTraceElement;") ∈ x_Wd := x_i2 16 (Eq.refl _) rfl
theorem q2_18 : (Jvm.Cond.fieldLink "java/lang/Throwable" (20 : Nat) "java/lang/Throwable" "SUPPRESSED_SENTINEL" "Ljava/util/List;") ∈ x_Wd := x_i2 18 (Eq.refl _) rfl
theorem q2_20 : (Jvm.Cond.methodLink "java/lang/Throwable" (27 : Nat) ({ cls := "java/lang/Throwable", name := "fillInStackTrace", desc := "()Ljava/lang/Throwable;" } : Jvm.MethodName)) ∈ x_Wd := x_i2 20 (Eq.refl _) rfl
theorem q2_21 : (Jvm.Cond.instanceMethod ({ cls := "java/lang/Throwable", name := "fillInStackTrace", desc := "()Ljava/lang/Throwable;" } : Jvm.MethodName)) ∈ x_Wd := x_i2 21 (Eq.refl _) rfl
theorem q2_22 : (Jvm.Cond.sameMethod "java/lang/Throwable" "java/lang/Throwable" "fillInStackTrace" "()Ljava/lang/Throwable;") ∈ x_Wd := x_i2 22 (Eq.refl _) rfl
theorem q2_23 : (Jvm.Cond.selects "java/lang/ArithmeticException" ({ cls := "java/lang/Throwable", name := "fillInStackTrace", desc := "()Ljava/lang/Throwable;" } : Jvm.MethodName) ({ cls := "java/lang/Throwable", name := "fillInStackTrace", desc := "()Ljava/lang/Throwable;" } : Jvm.MethodName)) ∈ x_Wd := x_i2 23 (Eq.refl _) rfl
theorem q2_24 : (Jvm.Cond.selects "java/lang/IllegalStateException" ({ cls := "java/lang/Throwable", name := "fillInStackTrace", desc := "()Ljava/lang/Throwable;" } : Jvm.MethodName) ({ cls := "java/lang/Throwable", name := "fillInStackTrace", desc := "()Ljava/lang/Throwable;" } : Jvm.MethodName)) ∈ x_Wd := x_i2 24 (Eq.refl _) rfl
theorem q2_25 : (Jvm.Cond.selects "java/lang/IndexOutOfBoundsException" ({ cls := "java/lang/Throwable", name := "fillInStackTrace", desc := "()Ljava/lang/Throwable;" } : Jvm.MethodName) ({ cls := "java/lang/Throwable", name := "fillInStackTrace", desc := "()Ljava/lang/Throwable;" } : Jvm.MethodName)) ∈ x_Wd := x_i2 25 (Eq.refl _) rfl
theorem q2_26 : (Jvm.Cond.selects "java/lang/UnsupportedOperationException" ({ cls := "java/lang/Throwable", name := "fillInStackTrace", desc := "()Ljava/lang/Throwable;" } : Jvm.MethodName) ({ cls := "java/lang/Throwable", name := "fillInStackTrace", desc := "()Ljava/lang/Throwable;" } : Jvm.MethodName)) ∈ x_Wd := x_i2 26 (Eq.refl _) rfl
theorem q2_27 : (Jvm.Cond.codeSync ({ cls := "java/lang/Throwable", name := "fillInStackTrace", desc := "()Ljava/lang/Throwable;" } : Jvm.MethodName) prog_31_method_18_code (1 : Nat) (Option.some (Jvm.ClassFile.FieldType.object "java/lang/Throwable"))) ∈ x_Wd := x_i2 27 (Eq.refl _) rfl
theorem q2_28 : (Jvm.Cond.methodLink "java/lang/Throwable" (202 : Nat) ({ cls := "java/lang/Throwable", name := "fillInStackTrace", desc := "(I)Ljava/lang/Throwable;" } : Jvm.MethodName)) ∈ x_Wd := x_i2 28 (Eq.refl _) rfl
theorem q2_29 : (Jvm.Cond.privateMethod ({ cls := "java/lang/Throwable", name := "fillInStackTrace", desc := "(I)Ljava/lang/Throwable;" } : Jvm.MethodName)) ∈ x_Wd := x_i2 29 (Eq.refl _) rfl
theorem q2_30 : (Jvm.Cond.instanceMethod ({ cls := "java/lang/Throwable", name := "fillInStackTrace", desc := "(I)Ljava/lang/Throwable;" } : Jvm.MethodName)) ∈ x_Wd := x_i2 30 (Eq.refl _) rfl
theorem q2_31 : (Jvm.Cond.instantiable "java/lang/Throwable" (6 : Nat)) ∈ x_Wd := x_i2 31 (Eq.refl _) rfl
theorem q2_32 : (Jvm.Cond.native ({ cls := "java/lang/Throwable", name := "fillInStackTrace", desc := "(I)Ljava/lang/Throwable;" } : Jvm.MethodName)) ∈ x_Wd := x_i2 32 (Eq.refl _) rfl
theorem q2_34 : (Jvm.Cond.methodLink "CashLink" (185 : Nat) ({ cls := "java/lang/IllegalArgumentException", name := "<init>", desc := "(Ljava/lang/String;)V" } : Jvm.MethodName)) ∈ x_Wd := x_i2 34 (Eq.refl _) rfl
theorem q2_35 : (Jvm.Cond.instanceMethod ({ cls := "java/lang/IllegalArgumentException", name := "<init>", desc := "(Ljava/lang/String;)V" } : Jvm.MethodName)) ∈ x_Wd := x_i2 35 (Eq.refl _) rfl
theorem q2_36 : (Jvm.Cond.code ({ cls := "java/lang/IllegalArgumentException", name := "<init>", desc := "(Ljava/lang/String;)V" } : Jvm.MethodName) prog_19_method_2_code (2 : Nat) (Option.none : Option Jvm.ClassFile.FieldType)) ∈ x_Wd := x_i2 36 (Eq.refl _) rfl
theorem q2_37 : (Jvm.Cond.methodLink "java/lang/IllegalArgumentException" (7 : Nat) ({ cls := "java/lang/RuntimeException", name := "<init>", desc := "(Ljava/lang/String;)V" } : Jvm.MethodName)) ∈ x_Wd := x_i2 37 (Eq.refl _) rfl
theorem q2_38 : (Jvm.Cond.instanceMethod ({ cls := "java/lang/RuntimeException", name := "<init>", desc := "(Ljava/lang/String;)V" } : Jvm.MethodName)) ∈ x_Wd := x_i2 38 (Eq.refl _) rfl
theorem q2_39 : (Jvm.Cond.code ({ cls := "java/lang/RuntimeException", name := "<init>", desc := "(Ljava/lang/String;)V" } : Jvm.MethodName) prog_25_method_2_code (2 : Nat) (Option.none : Option Jvm.ClassFile.FieldType)) ∈ x_Wd := x_i2 39 (Eq.refl _) rfl
theorem q2_40 : (Jvm.Cond.methodLink "java/lang/RuntimeException" (7 : Nat) ({ cls := "java/lang/Exception", name := "<init>", desc := "(Ljava/lang/String;)V" } : Jvm.MethodName)) ∈ x_Wd := x_i2 40 (Eq.refl _) rfl
theorem q2_41 : (Jvm.Cond.instanceMethod ({ cls := "java/lang/Exception", name := "<init>", desc := "(Ljava/lang/String;)V" } : Jvm.MethodName)) ∈ x_Wd := x_i2 41 (Eq.refl _) rfl
theorem q2_42 : (Jvm.Cond.code ({ cls := "java/lang/Exception", name := "<init>", desc := "(Ljava/lang/String;)V" } : Jvm.MethodName) prog_18_method_2_code (2 : Nat) (Option.none : Option Jvm.ClassFile.FieldType)) ∈ x_Wd := x_i2 42 (Eq.refl _) rfl
theorem q2_43 : (Jvm.Cond.methodLink "java/lang/Exception" (7 : Nat) ({ cls := "java/lang/Throwable", name := "<init>", desc := "(Ljava/lang/String;)V" } : Jvm.MethodName)) ∈ x_Wd := x_i2 43 (Eq.refl _) rfl
theorem q2_44 : (Jvm.Cond.instanceMethod ({ cls := "java/lang/Throwable", name := "<init>", desc := "(Ljava/lang/String;)V" } : Jvm.MethodName)) ∈ x_Wd := x_i2 44 (Eq.refl _) rfl
theorem q2_45 : (Jvm.Cond.code ({ cls := "java/lang/Throwable", name := "<init>", desc := "(Ljava/lang/String;)V" } : Jvm.MethodName) prog_31_method_2_code (2 : Nat) (Option.none : Option Jvm.ClassFile.FieldType)) ∈ x_Wd := x_i2 45 (Eq.refl _) rfl
theorem q2_46 : (Jvm.Cond.fieldLink "java/lang/Throwable" (198 : Nat) "java/lang/Throwable" "backtrace" "Ljava/lang/Object;") ∈ x_Wd := x_i2 46 (Eq.refl _) rfl
theorem q2_47 : (Jvm.Cond.fieldLink "java/lang/Throwable" (31 : Nat) "java/lang/Throwable" "detailMessage" "Ljava/lang/String;") ∈ x_Wd := x_i2 47 (Eq.refl _) rfl
theorem q2_48 : (Jvm.Cond.fieldLink "java/lang/Throwable" (7 : Nat) "java/lang/Throwable" "cause" "Ljava/lang/Throwable;") ∈ x_Wd := x_i2 48 (Eq.refl _) rfl
theorem q2_49 : (Jvm.Cond.fieldLink "java/lang/Throwable" (17 : Nat) "java/lang/Throwable" "stackTrace" "[Ljava/lang/StackTraceElement;") ∈ x_Wd := x_i2 49 (Eq.refl _) rfl
theorem q2_50 : (Jvm.Cond.fieldLink "java/lang/Throwable" (24 : Nat) "java/lang/Throwable" "suppressedExceptions" "Ljava/util/List;") ∈ x_Wd := x_i2 50 (Eq.refl _) rfl
theorem q2_51 : (Jvm.Cond.soleField "java/lang/Throwable" "backtrace") ∈ x_Wd := x_i2 51 (Eq.refl _) rfl
theorem q2_52 : (Jvm.Cond.soleField "java/lang/Throwable" "detailMessage") ∈ x_Wd := x_i2 52 (Eq.refl _) rfl
theorem q2_53 : (Jvm.Cond.soleField "java/lang/Throwable" "cause") ∈ x_Wd := x_i2 53 (Eq.refl _) rfl
theorem q2_54 : (Jvm.Cond.soleField "java/lang/Throwable" "stackTrace") ∈ x_Wd := x_i2 54 (Eq.refl _) rfl
theorem q2_55 : (Jvm.Cond.lays "java/lang/IllegalArgumentException" "java/lang/Throwable" "depth" "I") ∈ x_Wd := x_i2 55 (Eq.refl _) rfl
theorem q2_56 : (Jvm.Cond.soleField "java/lang/Throwable" "depth") ∈ x_Wd := x_i2 56 (Eq.refl _) rfl
theorem q2_57 : (Jvm.Cond.soleField "java/lang/Throwable" "suppressedExceptions") ∈ x_Wd := x_i2 57 (Eq.refl _) rfl
theorem q2_58 : (Jvm.Cond.superclass "java/lang/IllegalArgumentException" "java/lang/RuntimeException") ∈ x_Wd := x_i2 58 (Eq.refl _) rfl
theorem q2_74 : (Jvm.Cond.classLink "CashLink" (194 : Nat) "java/lang/IllegalStateException") ∈ x_Wd := x_i2 74 (Eq.refl _) rfl
theorem q2_75 : (Jvm.Cond.instantiable "java/lang/IllegalStateException" (6 : Nat)) ∈ x_Wd := x_i2 75 (Eq.refl _) rfl
theorem q2_76 : (Jvm.Cond.castable "java/lang/IllegalStateException" "java/lang/IllegalStateException") ∈ x_Wd := x_i2 76 (Eq.refl _) rfl
theorem q2_77 : (Jvm.Cond.selects "java/lang/IllegalStateException" ({ cls := "java/lang/Throwable", name := "fillInStackTrace", desc := "(I)Ljava/lang/Throwable;" } : Jvm.MethodName) ({ cls := "java/lang/Throwable", name := "fillInStackTrace", desc := "(I)Ljava/lang/Throwable;" } : Jvm.MethodName)) ∈ x_Wd := x_i2 77 (Eq.refl _) rfl
theorem q2_78 : (Jvm.Cond.lays "java/lang/IllegalStateException" "java/lang/Throwable" "cause" "Ljava/lang/Throwable;") ∈ x_Wd := x_i2 78 (Eq.refl _) rfl
theorem q2_79 : (Jvm.Cond.lays "java/lang/IllegalStateException" "java/lang/Throwable" "stackTrace" "[Ljava/lang/StackTraceElement;") ∈ x_Wd := x_i2 79 (Eq.refl _) rfl
theorem q2_80 : (Jvm.Cond.lays "java/lang/IllegalStateException" "java/lang/Throwable" "suppressedExceptions" "Ljava/util/List;") ∈ x_Wd := x_i2 80 (Eq.refl _) rfl
theorem q2_81 : (Jvm.Cond.lays "java/lang/IllegalStateException" "java/lang/Throwable" "detailMessage" "Ljava/lang/String;") ∈ x_Wd := x_i2 81 (Eq.refl _) rfl
theorem q2_82 : (Jvm.Cond.lays "java/lang/IllegalStateException" "java/lang/Throwable" "backtrace" "Ljava/lang/Object;") ∈ x_Wd := x_i2 82 (Eq.refl _) rfl
theorem q2_84 : (Jvm.Cond.methodLink "CashLink" (198 : Nat) ({ cls := "java/lang/IllegalStateException", name := "<init>", desc := "(Ljava/lang/String;)V" } : Jvm.MethodName)) ∈ x_Wd := x_i2 84 (Eq.refl _) rfl
theorem q2_85 : (Jvm.Cond.instanceMethod ({ cls := "java/lang/IllegalStateException", name := "<init>", desc := "(Ljava/lang/String;)V" } : Jvm.MethodName)) ∈ x_Wd := x_i2 85 (Eq.refl _) rfl
theorem q2_86 : (Jvm.Cond.code ({ cls := "java/lang/IllegalStateException", name := "<init>", desc := "(Ljava/lang/String;)V" } : Jvm.MethodName) prog_20_method_2_code (2 : Nat) (Option.none : Option Jvm.ClassFile.FieldType)) ∈ x_Wd := x_i2 86 (Eq.refl _) rfl
theorem q2_87 : (Jvm.Cond.methodLink "java/lang/IllegalStateException" (7 : Nat) ({ cls := "java/lang/RuntimeException", name := "<init>", desc := "(Ljava/lang/String;)V" } : Jvm.MethodName)) ∈ x_Wd := x_i2 87 (Eq.refl _) rfl
theorem q2_88 : (Jvm.Cond.lays "java/lang/IllegalStateException" "java/lang/Throwable" "depth" "I") ∈ x_Wd := x_i2 88 (Eq.refl _) rfl
theorem q2_89 : (Jvm.Cond.superclass "java/lang/IllegalStateException" "java/lang/RuntimeException") ∈ x_Wd := x_i2 89 (Eq.refl _) rfl
theorem q2_134 : (Jvm.Cond.classLink "CashLink$Machine" (87 : Nat) "java/lang/UnsupportedOperationException") ∈ x_Wd := x_i2 134 (Eq.refl _) rfl
theorem q2_135 : (Jvm.Cond.instantiable "java/lang/UnsupportedOperationException" (6 : Nat)) ∈ x_Wd := x_i2 135 (Eq.refl _) rfl
theorem q2_136 : (Jvm.Cond.castable "java/lang/UnsupportedOperationException" "java/lang/UnsupportedOperationException") ∈ x_Wd := x_i2 136 (Eq.refl _) rfl
theorem q2_137 : (Jvm.Cond.selects "java/lang/UnsupportedOperationException" ({ cls := "java/lang/Throwable", name := "fillInStackTrace", desc := "(I)Ljava/lang/Throwable;" } : Jvm.MethodName) ({ cls := "java/lang/Throwable", name := "fillInStackTrace", desc := "(I)Ljava/lang/Throwable;" } : Jvm.MethodName)) ∈ x_Wd := x_i2 137 (Eq.refl _) rfl
theorem q2_138 : (Jvm.Cond.lays "java/lang/UnsupportedOperationException" "java/lang/Throwable" "cause" "Ljava/lang/Throwable;") ∈ x_Wd := x_i2 138 (Eq.refl _) rfl
theorem q2_139 : (Jvm.Cond.lays "java/lang/UnsupportedOperationException" "java/lang/Throwable" "stackTrace" "[Ljava/lang/StackTraceElement;") ∈ x_Wd := x_i2 139 (Eq.refl _) rfl
theorem q2_140 : (Jvm.Cond.lays "java/lang/UnsupportedOperationException" "java/lang/Throwable" "suppressedExceptions" "Ljava/util/List;") ∈ x_Wd := x_i2 140 (Eq.refl _) rfl
theorem q2_141 : (Jvm.Cond.lays "java/lang/UnsupportedOperationException" "java/lang/Throwable" "detailMessage" "Ljava/lang/String;") ∈ x_Wd := x_i2 141 (Eq.refl _) rfl
theorem q2_142 : (Jvm.Cond.lays "java/lang/UnsupportedOperationException" "java/lang/Throwable" "backtrace" "Ljava/lang/Object;") ∈ x_Wd := x_i2 142 (Eq.refl _) rfl
theorem q2_144 : (Jvm.Cond.methodLink "CashLink$Machine" (91 : Nat) ({ cls := "java/lang/UnsupportedOperationException", name := "<init>", desc := "(Ljava/lang/String;)V" } : Jvm.MethodName)) ∈ x_Wd := x_i2 144 (Eq.refl _) rfl
theorem q2_145 : (Jvm.Cond.instanceMethod ({ cls := "java/lang/UnsupportedOperationException", name := "<init>", desc := "(Ljava/lang/String;)V" } : Jvm.MethodName)) ∈ x_Wd := x_i2 145 (Eq.refl _) rfl
theorem q2_146 : (Jvm.Cond.code ({ cls := "java/lang/UnsupportedOperationException", name := "<init>", desc := "(Ljava/lang/String;)V" } : Jvm.MethodName) prog_32_method_2_code (2 : Nat) (Option.none : Option Jvm.ClassFile.FieldType)) ∈ x_Wd := x_i2 146 (Eq.refl _) rfl
theorem q2_147 : (Jvm.Cond.methodLink "java/lang/UnsupportedOperationException" (7 : Nat) ({ cls := "java/lang/RuntimeException", name := "<init>", desc := "(Ljava/lang/String;)V" } : Jvm.MethodName)) ∈ x_Wd := x_i2 147 (Eq.refl _) rfl
theorem q2_148 : (Jvm.Cond.lays "java/lang/UnsupportedOperationException" "java/lang/Throwable" "depth" "I") ∈ x_Wd := x_i2 148 (Eq.refl _) rfl
theorem q2_149 : (Jvm.Cond.superclass "java/lang/UnsupportedOperationException" "java/lang/RuntimeException") ∈ x_Wd := x_i2 149 (Eq.refl _) rfl
theorem q2_225 : (Jvm.Cond.selects "java/lang/ArithmeticException" ({ cls := "java/lang/Object", name := "getClass", desc := "()Ljava/lang/Class;" } : Jvm.MethodName) ({ cls := "java/lang/Object", name := "getClass", desc := "()Ljava/lang/Class;" } : Jvm.MethodName)) ∈ x_Wd := x_i2 225 (Eq.refl _) rfl
theorem q2_226 : (Jvm.Cond.selects "java/lang/IllegalArgumentException" ({ cls := "java/lang/Object", name := "getClass", desc := "()Ljava/lang/Class;" } : Jvm.MethodName) ({ cls := "java/lang/Object", name := "getClass", desc := "()Ljava/lang/Class;" } : Jvm.MethodName)) ∈ x_Wd := x_i2 226 (Eq.refl _) rfl
theorem q2_227 : (Jvm.Cond.selects "java/lang/IllegalStateException" ({ cls := "java/lang/Object", name := "getClass", desc := "()Ljava/lang/Class;" } : Jvm.MethodName) ({ cls := "java/lang/Object", name := "getClass", desc := "()Ljava/lang/Class;" } : Jvm.MethodName)) ∈ x_Wd := x_i2 227 (Eq.refl _) rfl
theorem q2_228 : (Jvm.Cond.selects "java/lang/IndexOutOfBoundsException" ({ cls := "java/lang/Object", name := "getClass", desc := "()Ljava/lang/Class;" } : Jvm.MethodName) ({ cls := "java/lang/Object", name := "getClass", desc := "()Ljava/lang/Class;" } : Jvm.MethodName)) ∈ x_Wd := x_i2 228 (Eq.refl _) rfl
theorem q2_230 : (Jvm.Cond.selects "java/lang/UnsupportedOperationException" ({ cls := "java/lang/Object", name := "getClass", desc := "()Ljava/lang/Class;" } : Jvm.MethodName) ({ cls := "java/lang/Object", name := "getClass", desc := "()Ljava/lang/Class;" } : Jvm.MethodName)) ∈ x_Wd := x_i2 230 (Eq.refl _) rfl
theorem q3_5 : (Jvm.Cond.classLink "CashLink$Journal" (44 : Nat) "java/lang/ArithmeticException") ∈ x_Wd := x_i3 5 (Eq.refl _) rfl
theorem q3_6 : (Jvm.Cond.instantiable "java/lang/ArithmeticException" (6 : Nat)) ∈ x_Wd := x_i3 6 (Eq.refl _) rfl
theorem q3_7 : (Jvm.Cond.castable "java/lang/ArithmeticException" "java/lang/ArithmeticException") ∈ x_Wd := x_i3 7 (Eq.refl _) rfl
theorem q3_8 : (Jvm.Cond.selects "java/lang/ArithmeticException" ({ cls := "java/lang/Throwable", name := "fillInStackTrace", desc := "(I)Ljava/lang/Throwable;" } : Jvm.MethodName) ({ cls := "java/lang/Throwable", name := "fillInStackTrace", desc := "(I)Ljava/lang/Throwable;" } : Jvm.MethodName)) ∈ x_Wd := x_i3 8 (Eq.refl _) rfl
theorem q3_9 : (Jvm.Cond.lays "java/lang/ArithmeticException" "java/lang/Throwable" "cause" "Ljava/lang/Throwable;") ∈ x_Wd := x_i3 9 (Eq.refl _) rfl
theorem q3_10 : (Jvm.Cond.lays "java/lang/ArithmeticException" "java/lang/Throwable" "stackTrace" "[Ljava/lang/StackTraceElement;") ∈ x_Wd := x_i3 10 (Eq.refl _) rfl
theorem q3_11 : (Jvm.Cond.lays "java/lang/ArithmeticException" "java/lang/Throwable" "suppressedExceptions" "Ljava/util/List;") ∈ x_Wd := x_i3 11 (Eq.refl _) rfl
theorem q3_12 : (Jvm.Cond.lays "java/lang/ArithmeticException" "java/lang/Throwable" "detailMessage" "Ljava/lang/String;") ∈ x_Wd := x_i3 12 (Eq.refl _) rfl
theorem q3_13 : (Jvm.Cond.lays "java/lang/ArithmeticException" "java/lang/Throwable" "backtrace" "Ljava/lang/Object;") ∈ x_Wd := x_i3 13 (Eq.refl _) rfl
theorem q3_15 : (Jvm.Cond.methodLink "CashLink$Journal" (48 : Nat) ({ cls := "java/lang/ArithmeticException", name := "<init>", desc := "(Ljava/lang/String;)V" } : Jvm.MethodName)) ∈ x_Wd := x_i3 15 (Eq.refl _) rfl
theorem q3_16 : (Jvm.Cond.instanceMethod ({ cls := "java/lang/ArithmeticException", name := "<init>", desc := "(Ljava/lang/String;)V" } : Jvm.MethodName)) ∈ x_Wd := x_i3 16 (Eq.refl _) rfl
theorem q3_17 : (Jvm.Cond.code ({ cls := "java/lang/ArithmeticException", name := "<init>", desc := "(Ljava/lang/String;)V" } : Jvm.MethodName) prog_15_method_2_code (2 : Nat) (Option.none : Option Jvm.ClassFile.FieldType)) ∈ x_Wd := x_i3 17 (Eq.refl _) rfl
theorem q3_18 : (Jvm.Cond.methodLink "java/lang/ArithmeticException" (7 : Nat) ({ cls := "java/lang/RuntimeException", name := "<init>", desc := "(Ljava/lang/String;)V" } : Jvm.MethodName)) ∈ x_Wd := x_i3 18 (Eq.refl _) rfl
theorem q3_19 : (Jvm.Cond.lays "java/lang/ArithmeticException" "java/lang/Throwable" "depth" "I") ∈ x_Wd := x_i3 19 (Eq.refl _) rfl
theorem q3_20 : (Jvm.Cond.superclass "java/lang/ArithmeticException" "java/lang/RuntimeException") ∈ x_Wd := x_i3 20 (Eq.refl _) rfl
theorem q3_162 : (Jvm.Cond.classLink "CashLink" (137 : Nat) "java/lang/IndexOutOfBoundsException") ∈ x_Wd := x_i3 162 (Eq.refl _) rfl
theorem q3_163 : (Jvm.Cond.instantiable "java/lang/IndexOutOfBoundsException" (6 : Nat)) ∈ x_Wd := x_i3 163 (Eq.refl _) rfl
theorem q3_164 : (Jvm.Cond.castable "java/lang/IndexOutOfBoundsException" "java/lang/IndexOutOfBoundsException") ∈ x_Wd := x_i3 164 (Eq.refl _) rfl
theorem q3_165 : (Jvm.Cond.selects "java/lang/IndexOutOfBoundsException" ({ cls := "java/lang/Throwable", name := "fillInStackTrace", desc := "(I)Ljava/lang/Throwable;" } : Jvm.MethodName) ({ cls := "java/lang/Throwable", name := "fillInStackTrace", desc := "(I)Ljava/lang/Throwable;" } : Jvm.MethodName)) ∈ x_Wd := x_i3 165 (Eq.refl _) rfl
theorem q3_166 : (Jvm.Cond.lays "java/lang/IndexOutOfBoundsException" "java/lang/Throwable" "cause" "Ljava/lang/Throwable;") ∈ x_Wd := x_i3 166 (Eq.refl _) rfl
theorem q3_167 : (Jvm.Cond.lays "java/lang/IndexOutOfBoundsException" "java/lang/Throwable" "stackTrace" "[Ljava/lang/StackTraceElement;") ∈ x_Wd := x_i3 167 (Eq.refl _) rfl
theorem q3_168 : (Jvm.Cond.lays "java/lang/IndexOutOfBoundsException" "java/lang/Throwable" "suppressedExceptions" "Ljava/util/List;") ∈ x_Wd := x_i3 168 (Eq.refl _) rfl
theorem q3_169 : (Jvm.Cond.lays "java/lang/IndexOutOfBoundsException" "java/lang/Throwable" "detailMessage" "Ljava/lang/String;") ∈ x_Wd := x_i3 169 (Eq.refl _) rfl
theorem q3_170 : (Jvm.Cond.lays "java/lang/IndexOutOfBoundsException" "java/lang/Throwable" "backtrace" "Ljava/lang/Object;") ∈ x_Wd := x_i3 170 (Eq.refl _) rfl
theorem q3_172 : (Jvm.Cond.methodLink "CashLink" (141 : Nat) ({ cls := "java/lang/IndexOutOfBoundsException", name := "<init>", desc := "(Ljava/lang/String;)V" } : Jvm.MethodName)) ∈ x_Wd := x_i3 172 (Eq.refl _) rfl
theorem q3_173 : (Jvm.Cond.instanceMethod ({ cls := "java/lang/IndexOutOfBoundsException", name := "<init>", desc := "(Ljava/lang/String;)V" } : Jvm.MethodName)) ∈ x_Wd := x_i3 173 (Eq.refl _) rfl
theorem q3_174 : (Jvm.Cond.code ({ cls := "java/lang/IndexOutOfBoundsException", name := "<init>", desc := "(Ljava/lang/String;)V" } : Jvm.MethodName) prog_21_method_2_code (2 : Nat) (Option.none : Option Jvm.ClassFile.FieldType)) ∈ x_Wd := x_i3 174 (Eq.refl _) rfl
theorem q3_175 : (Jvm.Cond.methodLink "java/lang/IndexOutOfBoundsException" (7 : Nat) ({ cls := "java/lang/RuntimeException", name := "<init>", desc := "(Ljava/lang/String;)V" } : Jvm.MethodName)) ∈ x_Wd := x_i3 175 (Eq.refl _) rfl
theorem q3_176 : (Jvm.Cond.lays "java/lang/IndexOutOfBoundsException" "java/lang/Throwable" "depth" "I") ∈ x_Wd := x_i3 176 (Eq.refl _) rfl
theorem q3_177 : (Jvm.Cond.superclass "java/lang/IndexOutOfBoundsException" "java/lang/RuntimeException") ∈ x_Wd := x_i3 177 (Eq.refl _) rfl
theorem q6_111 : (Jvm.Cond.methodLink "CashLinkModel" (106 : Nat) ({ cls := "java/lang/ArithmeticException", name := "<init>", desc := "()V" } : Jvm.MethodName)) ∈ x_Wd := x_i6 111 (Eq.refl _) rfl
theorem q6_112 : (Jvm.Cond.instanceMethod ({ cls := "java/lang/ArithmeticException", name := "<init>", desc := "()V" } : Jvm.MethodName)) ∈ x_Wd := x_i6 112 (Eq.refl _) rfl
theorem q6_113 : (Jvm.Cond.code ({ cls := "java/lang/ArithmeticException", name := "<init>", desc := "()V" } : Jvm.MethodName) prog_15_method_1_code (1 : Nat) (Option.none : Option Jvm.ClassFile.FieldType)) ∈ x_Wd := x_i6 113 (Eq.refl _) rfl
theorem q6_114 : (Jvm.Cond.methodLink "java/lang/ArithmeticException" (1 : Nat) ({ cls := "java/lang/RuntimeException", name := "<init>", desc := "()V" } : Jvm.MethodName)) ∈ x_Wd := x_i6 114 (Eq.refl _) rfl
theorem q6_115 : (Jvm.Cond.instanceMethod ({ cls := "java/lang/RuntimeException", name := "<init>", desc := "()V" } : Jvm.MethodName)) ∈ x_Wd := x_i6 115 (Eq.refl _) rfl
theorem q6_116 : (Jvm.Cond.code ({ cls := "java/lang/RuntimeException", name := "<init>", desc := "()V" } : Jvm.MethodName) prog_25_method_1_code (1 : Nat) (Option.none : Option Jvm.ClassFile.FieldType)) ∈ x_Wd := x_i6 116 (Eq.refl _) rfl
theorem q6_117 : (Jvm.Cond.methodLink "java/lang/RuntimeException" (1 : Nat) ({ cls := "java/lang/Exception", name := "<init>", desc := "()V" } : Jvm.MethodName)) ∈ x_Wd := x_i6 117 (Eq.refl _) rfl
theorem q6_118 : (Jvm.Cond.instanceMethod ({ cls := "java/lang/Exception", name := "<init>", desc := "()V" } : Jvm.MethodName)) ∈ x_Wd := x_i6 118 (Eq.refl _) rfl
theorem q6_119 : (Jvm.Cond.code ({ cls := "java/lang/Exception", name := "<init>", desc := "()V" } : Jvm.MethodName) prog_18_method_1_code (1 : Nat) (Option.none : Option Jvm.ClassFile.FieldType)) ∈ x_Wd := x_i6 119 (Eq.refl _) rfl
theorem q6_120 : (Jvm.Cond.methodLink "java/lang/Exception" (1 : Nat) ({ cls := "java/lang/Throwable", name := "<init>", desc := "()V" } : Jvm.MethodName)) ∈ x_Wd := x_i6 120 (Eq.refl _) rfl
theorem q6_232 : (Jvm.Cond.sameMethod "java/lang/Throwable" "java/lang/Throwable" "fillInStackTrace" "(I)Ljava/lang/Throwable;") ∈ x_Wd := x_i6 232 (Eq.refl _) rfl
def x_ex : List Cond := [(Jvm.Cond.initialized "java/lang/Throwable"), (Jvm.Cond.initialized "java/lang/Exception"), (Jvm.Cond.initialized "java/lang/RuntimeException"), (Jvm.Cond.initialized "java/lang/IllegalArgumentException"), (Jvm.Cond.initialized "java/lang/IllegalStateException"), (Jvm.Cond.initialized "java/lang/UnsupportedOperationException"), (Jvm.Cond.initialized "java/lang/ArithmeticException"), (Jvm.Cond.initialized "java/lang/IndexOutOfBoundsException"), (Jvm.Cond.instanceMethod ({ cls := "java/lang/Object", name := "<init>", desc := "()V" } : Jvm.MethodName)), (Jvm.Cond.code ({ cls := "java/lang/Object", name := "<init>", desc := "()V" } : Jvm.MethodName) object_method_1_code (1 : Nat) (Option.none : Option Jvm.ClassFile.FieldType)), (Jvm.Cond.classLink "CashLinkLaw" (13 : Nat) "java/lang/IllegalArgumentException"), (Jvm.Cond.classLink "CashLinkLaw" (15 : Nat) "java/lang/IllegalStateException"), (Jvm.Cond.classLink "CashLink" (181 : Nat) "java/lang/IllegalArgumentException"), (Jvm.Cond.instantiable "java/lang/IllegalArgumentException" (6 : Nat)), (Jvm.Cond.castable "java/lang/IllegalArgumentException" "java/lang/IllegalArgumentException"), (Jvm.Cond.declares ({ cls := "java/lang/RuntimeException", name := "<init>", desc := "()V" } : Jvm.MethodName)), (Jvm.Cond.declares ({ cls := "java/lang/RuntimeException", name := "<init>", desc := "(Ljava/lang/String;)V" } : Jvm.MethodName)), (Jvm.Cond.declares ({ cls := "java/lang/Exception", name := "<init>", desc := "()V" } : Jvm.MethodName)), (Jvm.Cond.declares ({ cls := "java/lang/Exception", name := "<init>", desc := "(Ljava/lang/String;)V" } : Jvm.MethodName)), (Jvm.Cond.declares ({ cls := "java/lang/Throwable", name := "<init>", desc := "()V" } : Jvm.MethodName)), (Jvm.Cond.declares ({ cls := "java/lang/Throwable", name := "<init>", desc := "(Ljava/lang/String;)V" } : Jvm.MethodName)), (Jvm.Cond.selects "java/lang/IllegalArgumentException" ({ cls := "java/lang/Throwable", name := "fillInStackTrace", desc := "(I)Ljava/lang/Throwable;" } : Jvm.MethodName) ({ cls := "java/lang/Throwable", name := "fillInStackTrace", desc := "(I)Ljava/lang/Throwable;" } : Jvm.MethodName)), (Jvm.Cond.selects "java/lang/IllegalArgumentException" ({ cls := "java/lang/Throwable", name := "fillInStackTrace", desc := "()Ljava/lang/Throwable;" } : Jvm.MethodName) ({ cls := "java/lang/Throwable", name := "fillInStackTrace", desc := "()Ljava/lang/Throwable;" } : Jvm.MethodName)), (Jvm.Cond.lays "java/lang/IllegalArgumentException" "java/lang/Throwable" "cause" "Ljava/lang/Throwable;"), (Jvm.Cond.lays "java/lang/Throwable" "java/lang/Throwable" "cause" "Ljava/lang/Throwable;"), (Jvm.Cond.lays "java/lang/IllegalArgumentException" "java/lang/Throwable" "stackTrace" "[Ljava/lang/StackTraceElement;"), (Jvm.Cond.lays "java/lang/Throwable" "java/lang/Throwable" "stackTrace" "[Ljava/lang/StackTraceElement;"), (Jvm.Cond.lays "java/lang/IllegalArgumentException" "java/lang/Throwable" "suppressedExceptions" "Ljava/util/List;"), (Jvm.Cond.lays "java/lang/Throwable" "java/lang/Throwable" "suppressedExceptions" "Ljava/util/List;"), (Jvm.Cond.lays "java/lang/IllegalArgumentException" "java/lang/Throwable" "detailMessage" "Ljava/lang/String;"), (Jvm.Cond.lays "java/lang/Throwable" "java/lang/Throwable" "detailMessage" "Ljava/lang/String;"), (Jvm.Cond.lays "java/lang/IllegalArgumentException" "java/lang/Throwable" "backtrace" "Ljava/lang/Object;"), (Jvm.Cond.lays "java/lang/Throwable" "java/lang/Throwable" "backtrace" "Ljava/lang/Object;"), (Jvm.Cond.fieldLink "java/lang/Throwable" (198 : Nat) "java/lang/Throwable" "backtrace" "Ljava/lang/Object;"), (Jvm.Cond.superclass "java/lang/Throwable" "java/lang/Object"), (Jvm.Cond.instanceMethod ({ cls := "java/lang/Throwable", name := "<init>", desc := "()V" } : Jvm.MethodName)), (Jvm.Cond.code ({ cls := "java/lang/Throwable", name := "<init>", desc := "()V" } : Jvm.MethodName) prog_31_method_1_code (1 : Nat) (Option.none : Option Jvm.ClassFile.FieldType)), (Jvm.Cond.methodLink "java/lang/Throwable" (1 : Nat) ({ cls := "java/lang/Object", name := "<init>", desc := "()V" } : Jvm.MethodName)), (Jvm.Cond.fieldLink "java/lang/Throwable" (13 : Nat) "java/lang/Throwable" "UNASSIGNED_STACK" "[Ljava/lang/StackTraceElement;"), (Jvm.Cond.fieldLink "java/lang/Throwable" (20 : Nat) "java/lang/Throwable" "SUPPRESSED_SENTINEL" "Ljava/util/List;"), (Jvm.Cond.methodLink "java/lang/Throwable" (27 : Nat) ({ cls := "java/lang/Throwable", name := "fillInStackTrace", desc := "()Ljava/lang/Throwable;" } : Jvm.MethodName)), (Jvm.Cond.instanceMethod ({ cls := "java/lang/Throwable", name := "fillInStackTrace", desc := "()Ljava/lang/Throwable;" } : Jvm.MethodName)), (Jvm.Cond.sameMethod "java/lang/Throwable" "java/lang/Throwable" "fillInStackTrace" "()Ljava/lang/Throwable;"), (Jvm.Cond.selects "java/lang/ArithmeticException" ({ cls := "java/lang/Throwable", name := "fillInStackTrace", desc := "()Ljava/lang/Throwable;" } : Jvm.MethodName) ({ cls := "java/lang/Throwable", name := "fillInStackTrace", desc := "()Ljava/lang/Throwable;" } : Jvm.MethodName)), (Jvm.Cond.selects "java/lang/IllegalStateException" ({ cls := "java/lang/Throwable", name := "fillInStackTrace", desc := "()Ljava/lang/Throwable;" } : Jvm.MethodName) ({ cls := "java/lang/Throwable", name := "fillInStackTrace", desc := "()Ljava/lang/Throwable;" } : Jvm.MethodName)), (Jvm.Cond.selects "java/lang/IndexOutOfBoundsException" ({ cls := "java/lang/Throwable", name := "fillInStackTrace", desc := "()Ljava/lang/Throwable;" } : Jvm.MethodName) ({ cls := "java/lang/Throwable", name := "fillInStackTrace", desc := "()Ljava/lang/Throwable;" } : Jvm.MethodName)), (Jvm.Cond.selects "java/lang/UnsupportedOperationException" ({ cls := "java/lang/Throwable", name := "fillInStackTrace", desc := "()Ljava/lang/Throwable;" } : Jvm.MethodName) ({ cls := "java/lang/Throwable", name := "fillInStackTrace", desc := "()Ljava/lang/Throwable;" } : Jvm.MethodName)), (Jvm.Cond.codeSync ({ cls := "java/lang/Throwable", name := "fillInStackTrace", desc := "()Ljava/lang/Throwable;" } : Jvm.MethodName) prog_31_method_18_code (1 : Nat) (Option.some (Jvm.ClassFile.FieldType.object "java/lang/Throwable"))), (Jvm.Cond.methodLink "java/lang/Throwable" (202 : Nat) ({ cls := "java/lang/Throwable", name := "fillInStackTrace", desc := "(I)Ljava/lang/Throwable;" } : Jvm.MethodName)), (Jvm.Cond.privateMethod ({ cls := "java/lang/Throwable", name := "fillInStackTrace", desc := "(I)Ljava/lang/Throwable;" } : Jvm.MethodName)), (Jvm.Cond.instanceMethod ({ cls := "java/lang/Throwable", name := "fillInStackTrace", desc := "(I)Ljava/lang/Throwable;" } : Jvm.MethodName)), (Jvm.Cond.instantiable "java/lang/Throwable" (6 : Nat)), (Jvm.Cond.native ({ cls := "java/lang/Throwable", name := "fillInStackTrace", desc := "(I)Ljava/lang/Throwable;" } : Jvm.MethodName)), (Jvm.Cond.methodLink "CashLink" (185 : Nat) ({ cls := "java/lang/IllegalArgumentException", name := "<init>", desc := "(Ljava/lang/String;)V" } : Jvm.MethodName)), (Jvm.Cond.instanceMethod ({ cls := "java/lang/IllegalArgumentException", name := "<init>", desc := "(Ljava/lang/String;)V" } : Jvm.MethodName)), (Jvm.Cond.code ({ cls := "java/lang/IllegalArgumentException", name := "<init>", desc := "(Ljava/lang/String;)V" } : Jvm.MethodName) prog_19_method_2_code (2 : Nat) (Option.none : Option Jvm.ClassFile.FieldType)), (Jvm.Cond.methodLink "java/lang/IllegalArgumentException" (7 : Nat) ({ cls := "java/lang/RuntimeException", name := "<init>", desc := "(Ljava/lang/String;)V" } : Jvm.MethodName)), (Jvm.Cond.instanceMethod ({ cls := "java/lang/RuntimeException", name := "<init>", desc := "(Ljava/lang/String;)V" } : Jvm.MethodName)), (Jvm.Cond.code ({ cls := "java/lang/RuntimeException", name := "<init>", desc := "(Ljava/lang/String;)V" } : Jvm.MethodName) prog_25_method_2_code (2 : Nat) (Option.none : Option Jvm.ClassFile.FieldType)), (Jvm.Cond.methodLink "java/lang/RuntimeException" (7 : Nat) ({ cls := "java/lang/Exception", name := "<init>", desc := "(Ljava/lang/String;)V" } : Jvm.MethodName)), (Jvm.Cond.instanceMethod ({ cls := "java/lang/Exception", name := "<init>", desc := "(Ljava/lang/String;)V" } : Jvm.MethodName)), (Jvm.Cond.code ({ cls := "java/lang/Exception", name := "<init>", desc := "(Ljava/lang/String;)V" } : Jvm.MethodName) prog_18_method_2_code (2 : Nat) (Option.none : Option Jvm.ClassFile.FieldType)), (Jvm.Cond.methodLink "java/lang/Exception" (7 : Nat) ({ cls := "java/lang/Throwable", name := "<init>", desc := "(Ljava/lang/String;)V" } : Jvm.MethodName)), (Jvm.Cond.instanceMethod ({ cls := "java/lang/Throwable", name := "<init>", desc := "(Ljava/lang/String;)V" } : Jvm.MethodName)), (Jvm.Cond.code ({ cls := "java/lang/Throwable", name := "<init>", desc := "(Ljava/lang/String;)V" } : Jvm.MethodName) prog_31_method_2_code (2 : Nat) (Option.none : Option Jvm.ClassFile.FieldType)), (Jvm.Cond.fieldLink "java/lang/Throwable" (198 : Nat) "java/lang/Throwable" "backtrace" "Ljava/lang/Object;"), (Jvm.Cond.fieldLink "java/lang/Throwable" (31 : Nat) "java/lang/Throwable" "detailMessage" "Ljava/lang/String;"), (Jvm.Cond.fieldLink "java/lang/Throwable" (7 : Nat) "java/lang/Throwable" "cause" "Ljava/lang/Throwable;"), (Jvm.Cond.fieldLink "java/lang/Throwable" (17 : Nat) "java/lang/Throwable" "stackTrace" "[Ljava/lang/StackTraceElement;"), (Jvm.Cond.fieldLink "java/lang/Throwable" (24 : Nat) "java/lang/Throwable" "suppressedExceptions" "Ljava/util/List;"), (Jvm.Cond.soleField "java/lang/Throwable" "backtrace"), (Jvm.Cond.soleField "java/lang/Throwable" "detailMessage"), (Jvm.Cond.soleField "java/lang/Throwable" "cause"), (Jvm.Cond.soleField "java/lang/Throwable" "stackTrace"), (Jvm.Cond.lays "java/lang/IllegalArgumentException" "java/lang/Throwable" "depth" "I"), (Jvm.Cond.soleField "java/lang/Throwable" "depth"), (Jvm.Cond.soleField "java/lang/Throwable" "suppressedExceptions"), (Jvm.Cond.superclass "java/lang/IllegalArgumentException" "java/lang/RuntimeException"), (Jvm.Cond.classLink "CashLink" (194 : Nat) "java/lang/IllegalStateException"), (Jvm.Cond.instantiable "java/lang/IllegalStateException" (6 : Nat)), (Jvm.Cond.castable "java/lang/IllegalStateException" "java/lang/IllegalStateException"), (Jvm.Cond.selects "java/lang/IllegalStateException" ({ cls := "java/lang/Throwable", name := "fillInStackTrace", desc := "(I)Ljava/lang/Throwable;" } : Jvm.MethodName) ({ cls := "java/lang/Throwable", name := "fillInStackTrace", desc := "(I)Ljava/lang/Throwable;" } : Jvm.MethodName)), (Jvm.Cond.lays "java/lang/IllegalStateException" "java/lang/Throwable" "cause" "Ljava/lang/Throwable;"), (Jvm.Cond.lays "java/lang/IllegalStateException" "java/lang/Throwable" "stackTrace" "[Ljava/lang/StackTraceElement;"), (Jvm.Cond.lays "java/lang/IllegalStateException" "java/lang/Throwable" "suppressedExceptions" "Ljava/util/List;"), (Jvm.Cond.lays "java/lang/IllegalStateException" "java/lang/Throwable" "detailMessage" "Ljava/lang/String;"), (Jvm.Cond.lays "java/lang/IllegalStateException" "java/lang/Throwable" "backtrace" "Ljava/lang/Object;"), (Jvm.Cond.methodLink "CashLink" (198 : Nat) ({ cls := "java/lang/IllegalStateException", name := "<init>", desc := "(Ljava/lang/String;)V" } : Jvm.MethodName)), (Jvm.Cond.instanceMethod ({ cls := "java/lang/IllegalStateException", name := "<init>", desc := "(Ljava/lang/String;)V" } : Jvm.MethodName)), (Jvm.Cond.code ({ cls := "java/lang/IllegalStateException", name := "<init>", desc := "(Ljava/lang/String;)V" } : Jvm.MethodName) prog_20_method_2_code (2 : Nat) (Option.none : Option Jvm.ClassFile.FieldType)), (Jvm.Cond.methodLink "java/lang/IllegalStateException" (7 : Nat) ({ cls := "java/lang/RuntimeException", name := "<init>", desc := "(Ljava/lang/String;)V" } : Jvm.MethodName)), (Jvm.Cond.lays "java/lang/IllegalStateException" "java/lang/Throwable" "depth" "I"), (Jvm.Cond.superclass "java/lang/IllegalStateException" "java/lang/RuntimeException"), (Jvm.Cond.classLink "CashLinkLaw" (25 : Nat) "java/lang/UnsupportedOperationException"), (Jvm.Cond.classLink "CashLinkLaw" (27 : Nat) "java/lang/ArithmeticException"), (Jvm.Cond.classLink "CashLink$Machine" (87 : Nat) "java/lang/UnsupportedOperationException"), (Jvm.Cond.instantiable "java/lang/UnsupportedOperationException" (6 : Nat)), (Jvm.Cond.castable "java/lang/UnsupportedOperationException" "java/lang/UnsupportedOperationException"), (Jvm.Cond.selects "java/lang/UnsupportedOperationException" ({ cls := "java/lang/Throwable", name := "fillInStackTrace", desc := "(I)Ljava/lang/Throwable;" } : Jvm.MethodName) ({ cls := "java/lang/Throwable", name := "fillInStackTrace", desc := "(I)Ljava/lang/Throwable;" } : Jvm.MethodName)), (Jvm.Cond.lays "java/lang/UnsupportedOperationException" "java/lang/Throwable" "cause" "Ljava/lang/Throwable;"), (Jvm.Cond.lays "java/lang/UnsupportedOperationException" "java/lang/Throwable" "stackTrace" "[Ljava/lang/StackTraceElement;"), (Jvm.Cond.lays "java/lang/UnsupportedOperationException" "java/lang/Throwable" "suppressedExceptions" "Ljava/util/List;"), (Jvm.Cond.lays "java/lang/UnsupportedOperationException" "java/lang/Throwable" "detailMessage" "Ljava/lang/String;"), (Jvm.Cond.lays "java/lang/UnsupportedOperationException" "java/lang/Throwable" "backtrace" "Ljava/lang/Object;"), (Jvm.Cond.methodLink "CashLink$Machine" (91 : Nat) ({ cls := "java/lang/UnsupportedOperationException", name := "<init>", desc := "(Ljava/lang/String;)V" } : Jvm.MethodName)), (Jvm.Cond.instanceMethod ({ cls := "java/lang/UnsupportedOperationException", name := "<init>", desc := "(Ljava/lang/String;)V" } : Jvm.MethodName)), (Jvm.Cond.code ({ cls := "java/lang/UnsupportedOperationException", name := "<init>", desc := "(Ljava/lang/String;)V" } : Jvm.MethodName) prog_32_method_2_code (2 : Nat) (Option.none : Option Jvm.ClassFile.FieldType)), (Jvm.Cond.methodLink "java/lang/UnsupportedOperationException" (7 : Nat) ({ cls := "java/lang/RuntimeException", name := "<init>", desc := "(Ljava/lang/String;)V" } : Jvm.MethodName)), (Jvm.Cond.lays "java/lang/UnsupportedOperationException" "java/lang/Throwable" "depth" "I"), (Jvm.Cond.superclass "java/lang/UnsupportedOperationException" "java/lang/RuntimeException"), (Jvm.Cond.selects "java/lang/ArithmeticException" ({ cls := "java/lang/Object", name := "getClass", desc := "()Ljava/lang/Class;" } : Jvm.MethodName) ({ cls := "java/lang/Object", name := "getClass", desc := "()Ljava/lang/Class;" } : Jvm.MethodName)), (Jvm.Cond.selects "java/lang/IllegalArgumentException" ({ cls := "java/lang/Object", name := "getClass", desc := "()Ljava/lang/Class;" } : Jvm.MethodName) ({ cls := "java/lang/Object", name := "getClass", desc := "()Ljava/lang/Class;" } : Jvm.MethodName)), (Jvm.Cond.selects "java/lang/IllegalStateException" ({ cls := "java/lang/Object", name := "getClass", desc := "()Ljava/lang/Class;" } : Jvm.MethodName) ({ cls := "java/lang/Object", name := "getClass", desc := "()Ljava/lang/Class;" } : Jvm.MethodName)), (Jvm.Cond.selects "java/lang/IndexOutOfBoundsException" ({ cls := "java/lang/Object", name := "getClass", desc := "()Ljava/lang/Class;" } : Jvm.MethodName) ({ cls := "java/lang/Object", name := "getClass", desc := "()Ljava/lang/Class;" } : Jvm.MethodName)), (Jvm.Cond.selects "java/lang/UnsupportedOperationException" ({ cls := "java/lang/Object", name := "getClass", desc := "()Ljava/lang/Class;" } : Jvm.MethodName) ({ cls := "java/lang/Object", name := "getClass", desc := "()Ljava/lang/Class;" } : Jvm.MethodName)), (Jvm.Cond.classLink "CashLink$Journal" (44 : Nat) "java/lang/ArithmeticException"), (Jvm.Cond.instantiable "java/lang/ArithmeticException" (6 : Nat)), (Jvm.Cond.castable "java/lang/ArithmeticException" "java/lang/ArithmeticException"), (Jvm.Cond.selects "java/lang/ArithmeticException" ({ cls := "java/lang/Throwable", name := "fillInStackTrace", desc := "(I)Ljava/lang/Throwable;" } : Jvm.MethodName) ({ cls := "java/lang/Throwable", name := "fillInStackTrace", desc := "(I)Ljava/lang/Throwable;" } : Jvm.MethodName)), (Jvm.Cond.lays "java/lang/ArithmeticException" "java/lang/Throwable" "cause" "Ljava/lang/Throwable;"), (Jvm.Cond.lays "java/lang/ArithmeticException" "java/lang/Throwable" "stackTrace" "[Ljava/lang/StackTraceElement;"), (Jvm.Cond.lays "java/lang/ArithmeticException" "java/lang/Throwable" "suppressedExceptions" "Ljava/util/List;"), (Jvm.Cond.lays "java/lang/ArithmeticException" "java/lang/Throwable" "detailMessage" "Ljava/lang/String;"), (Jvm.Cond.lays "java/lang/ArithmeticException" "java/lang/Throwable" "backtrace" "Ljava/lang/Object;"), (Jvm.Cond.methodLink "CashLink$Journal" (48 : Nat) ({ cls := "java/lang/ArithmeticException", name := "<init>", desc := "(Ljava/lang/String;)V" } : Jvm.MethodName)), (Jvm.Cond.instanceMethod ({ cls := "java/lang/ArithmeticException", name := "<init>", desc := "(Ljava/lang/String;)V" } : Jvm.MethodName)), (Jvm.Cond.code ({ cls := "java/lang/ArithmeticException", name := "<init>", desc := "(Ljava/lang/String;)V" } : Jvm.MethodName) prog_15_method_2_code (2 : Nat) (Option.none : Option Jvm.ClassFile.FieldType)), (Jvm.Cond.methodLink "java/lang/ArithmeticException" (7 : Nat) ({ cls := "java/lang/RuntimeException", name := "<init>", desc := "(Ljava/lang/String;)V" } : Jvm.MethodName)), (Jvm.Cond.lays "java/lang/ArithmeticException" "java/lang/Throwable" "depth" "I"), (Jvm.Cond.superclass "java/lang/ArithmeticException" "java/lang/RuntimeException"), (Jvm.Cond.classLink "CashLinkLaw" (43 : Nat) "java/lang/IndexOutOfBoundsException"), (Jvm.Cond.classLink "CashLink" (137 : Nat) "java/lang/IndexOutOfBoundsException"), (Jvm.Cond.instantiable "java/lang/IndexOutOfBoundsException" (6 : Nat)), (Jvm.Cond.castable "java/lang/IndexOutOfBoundsException" "java/lang/IndexOutOfBoundsException"), (Jvm.Cond.selects "java/lang/IndexOutOfBoundsException" ({ cls := "java/lang/Throwable", name := "fillInStackTrace", desc := "(I)Ljava/lang/Throwable;" } : Jvm.MethodName) ({ cls := "java/lang/Throwable", name := "fillInStackTrace", desc := "(I)Ljava/lang/Throwable;" } : Jvm.MethodName)), (Jvm.Cond.lays "java/lang/IndexOutOfBoundsException" "java/lang/Throwable" "cause" "Ljava/lang/Throwable;"), (Jvm.Cond.lays "java/lang/IndexOutOfBoundsException" "java/lang/Throwable" "stackTrace" "[Ljava/lang/StackTraceElement;"), (Jvm.Cond.lays "java/lang/IndexOutOfBoundsException" "java/lang/Throwable" "suppressedExceptions" "Ljava/util/List;"), (Jvm.Cond.lays "java/lang/IndexOutOfBoundsException" "java/lang/Throwable" "detailMessage" "Ljava/lang/String;"), (Jvm.Cond.lays "java/lang/IndexOutOfBoundsException" "java/lang/Throwable" "backtrace" "Ljava/lang/Object;"), (Jvm.Cond.methodLink "CashLink" (141 : Nat) ({ cls := "java/lang/IndexOutOfBoundsException", name := "<init>", desc := "(Ljava/lang/String;)V" } : Jvm.MethodName)), (Jvm.Cond.instanceMethod ({ cls := "java/lang/IndexOutOfBoundsException", name := "<init>", desc := "(Ljava/lang/String;)V" } : Jvm.MethodName)), (Jvm.Cond.code ({ cls := "java/lang/IndexOutOfBoundsException", name := "<init>", desc := "(Ljava/lang/String;)V" } : Jvm.MethodName) prog_21_method_2_code (2 : Nat) (Option.none : Option Jvm.ClassFile.FieldType)), (Jvm.Cond.methodLink "java/lang/IndexOutOfBoundsException" (7 : Nat) ({ cls := "java/lang/RuntimeException", name := "<init>", desc := "(Ljava/lang/String;)V" } : Jvm.MethodName)), (Jvm.Cond.lays "java/lang/IndexOutOfBoundsException" "java/lang/Throwable" "depth" "I"), (Jvm.Cond.superclass "java/lang/IndexOutOfBoundsException" "java/lang/RuntimeException"), (Jvm.Cond.classLink "CashLinkModel" (104 : Nat) "java/lang/ArithmeticException"), (Jvm.Cond.methodLink "CashLinkModel" (106 : Nat) ({ cls := "java/lang/ArithmeticException", name := "<init>", desc := "()V" } : Jvm.MethodName)), (Jvm.Cond.instanceMethod ({ cls := "java/lang/ArithmeticException", name := "<init>", desc := "()V" } : Jvm.MethodName)), (Jvm.Cond.code ({ cls := "java/lang/ArithmeticException", name := "<init>", desc := "()V" } : Jvm.MethodName) prog_15_method_1_code (1 : Nat) (Option.none : Option Jvm.ClassFile.FieldType)), (Jvm.Cond.methodLink "java/lang/ArithmeticException" (1 : Nat) ({ cls := "java/lang/RuntimeException", name := "<init>", desc := "()V" } : Jvm.MethodName)), (Jvm.Cond.instanceMethod ({ cls := "java/lang/RuntimeException", name := "<init>", desc := "()V" } : Jvm.MethodName)), (Jvm.Cond.code ({ cls := "java/lang/RuntimeException", name := "<init>", desc := "()V" } : Jvm.MethodName) prog_25_method_1_code (1 : Nat) (Option.none : Option Jvm.ClassFile.FieldType)), (Jvm.Cond.methodLink "java/lang/RuntimeException" (1 : Nat) ({ cls := "java/lang/Exception", name := "<init>", desc := "()V" } : Jvm.MethodName)), (Jvm.Cond.instanceMethod ({ cls := "java/lang/Exception", name := "<init>", desc := "()V" } : Jvm.MethodName)), (Jvm.Cond.code ({ cls := "java/lang/Exception", name := "<init>", desc := "()V" } : Jvm.MethodName) prog_18_method_1_code (1 : Nat) (Option.none : Option Jvm.ClassFile.FieldType)), (Jvm.Cond.methodLink "java/lang/Exception" (1 : Nat) ({ cls := "java/lang/Throwable", name := "<init>", desc := "()V" } : Jvm.MethodName)), (Jvm.Cond.sameMethod "java/lang/Throwable" "java/lang/Throwable" "fillInStackTrace" "(I)Ljava/lang/Throwable;")]
theorem x_exin : ∀ w ∈ x_ex, w ∈ x_Wd := by
  unfold x_ex
  refine List.forall_mem_cons.mpr ⟨q1_13, ?_⟩
  refine List.forall_mem_cons.mpr ⟨q1_14, ?_⟩
  refine List.forall_mem_cons.mpr ⟨q1_15, ?_⟩
  refine List.forall_mem_cons.mpr ⟨q1_16, ?_⟩
  refine List.forall_mem_cons.mpr ⟨q1_17, ?_⟩
  refine List.forall_mem_cons.mpr ⟨q1_19, ?_⟩
  refine List.forall_mem_cons.mpr ⟨q1_25, ?_⟩
  refine List.forall_mem_cons.mpr ⟨q1_30, ?_⟩
  refine List.forall_mem_cons.mpr ⟨q1_42, ?_⟩
  refine List.forall_mem_cons.mpr ⟨q1_43, ?_⟩
  refine List.forall_mem_cons.mpr ⟨q1_217, ?_⟩
  refine List.forall_mem_cons.mpr ⟨q1_218, ?_⟩
  refine List.forall_mem_cons.mpr ⟨q1_230, ?_⟩
  refine List.forall_mem_cons.mpr ⟨q1_231, ?_⟩
  refine List.forall_mem_cons.mpr ⟨q1_232, ?_⟩
  refine List.forall_mem_cons.mpr ⟨q1_233, ?_⟩
  refine List.forall_mem_cons.mpr ⟨q1_234, ?_⟩
  refine List.forall_mem_cons.mpr ⟨q1_235, ?_⟩
  refine List.forall_mem_cons.mpr ⟨q1_236, ?_⟩
  refine List.forall_mem_cons.mpr ⟨q1_237, ?_⟩
  refine List.forall_mem_cons.mpr ⟨q1_238, ?_⟩
  refine List.forall_mem_cons.mpr ⟨q1_239, ?_⟩
  refine List.forall_mem_cons.mpr ⟨q2_0, ?_⟩
  refine List.forall_mem_cons.mpr ⟨q2_1, ?_⟩
  refine List.forall_mem_cons.mpr ⟨q2_2, ?_⟩
  refine List.forall_mem_cons.mpr ⟨q2_3, ?_⟩
  refine List.forall_mem_cons.mpr ⟨q2_4, ?_⟩
  refine List.forall_mem_cons.mpr ⟨q2_5, ?_⟩
  refine List.forall_mem_cons.mpr ⟨q2_6, ?_⟩
  refine List.forall_mem_cons.mpr ⟨q2_7, ?_⟩
  refine List.forall_mem_cons.mpr ⟨q2_8, ?_⟩
  refine List.forall_mem_cons.mpr ⟨q2_9, ?_⟩
  refine List.forall_mem_cons.mpr ⟨q2_10, ?_⟩
  refine List.forall_mem_cons.mpr ⟨q2_11, ?_⟩
  refine List.forall_mem_cons.mpr ⟨q2_12, ?_⟩
  refine List.forall_mem_cons.mpr ⟨q2_13, ?_⟩
  refine List.forall_mem_cons.mpr ⟨q2_14, ?_⟩
  refine List.forall_mem_cons.mpr ⟨q2_15, ?_⟩
  refine List.forall_mem_cons.mpr ⟨q2_16, ?_⟩
  refine List.forall_mem_cons.mpr ⟨q2_18, ?_⟩
  refine List.forall_mem_cons.mpr ⟨q2_20, ?_⟩
  refine List.forall_mem_cons.mpr ⟨q2_21, ?_⟩
  refine List.forall_mem_cons.mpr ⟨q2_22, ?_⟩
  refine List.forall_mem_cons.mpr ⟨q2_23, ?_⟩
  refine List.forall_mem_cons.mpr ⟨q2_24, ?_⟩
  refine List.forall_mem_cons.mpr ⟨q2_25, ?_⟩
  refine List.forall_mem_cons.mpr ⟨q2_26, ?_⟩
  refine List.forall_mem_cons.mpr ⟨q2_27, ?_⟩
  refine List.forall_mem_cons.mpr ⟨q2_28, ?_⟩
  refine List.forall_mem_cons.mpr ⟨q2_29, ?_⟩
  refine List.forall_mem_cons.mpr ⟨q2_30, ?_⟩
  refine List.forall_mem_cons.mpr ⟨q2_31, ?_⟩
  refine List.forall_mem_cons.mpr ⟨q2_32, ?_⟩
  refine List.forall_mem_cons.mpr ⟨q2_34, ?_⟩
  refine List.forall_mem_cons.mpr ⟨q2_35, ?_⟩
  refine List.forall_mem_cons.mpr ⟨q2_36, ?_⟩
  refine List.forall_mem_cons.mpr ⟨q2_37, ?_⟩
  refine List.forall_mem_cons.mpr ⟨q2_38, ?_⟩
  refine List.forall_mem_cons.mpr ⟨q2_39, ?_⟩
  refine List.forall_mem_cons.mpr ⟨q2_40, ?_⟩
  refine List.forall_mem_cons.mpr ⟨q2_41, ?_⟩
  refine List.forall_mem_cons.mpr ⟨q2_42, ?_⟩
  refine List.forall_mem_cons.mpr ⟨q2_43, ?_⟩
  refine List.forall_mem_cons.mpr ⟨q2_44, ?_⟩
  refine List.forall_mem_cons.mpr ⟨q2_45, ?_⟩
  refine List.forall_mem_cons.mpr ⟨q2_46, ?_⟩
  refine List.forall_mem_cons.mpr ⟨q2_47, ?_⟩
  refine List.forall_mem_cons.mpr ⟨q2_48, ?_⟩
  refine List.forall_mem_cons.mpr ⟨q2_49, ?_⟩
  refine List.forall_mem_cons.mpr ⟨q2_50, ?_⟩
  refine List.forall_mem_cons.mpr ⟨q2_51, ?_⟩
  refine List.forall_mem_cons.mpr ⟨q2_52, ?_⟩
  refine List.forall_mem_cons.mpr ⟨q2_53, ?_⟩
  refine List.forall_mem_cons.mpr ⟨q2_54, ?_⟩
  refine List.forall_mem_cons.mpr ⟨q2_55, ?_⟩
  refine List.forall_mem_cons.mpr ⟨q2_56, ?_⟩
  refine List.forall_mem_cons.mpr ⟨q2_57, ?_⟩
  refine List.forall_mem_cons.mpr ⟨q2_58, ?_⟩
  refine List.forall_mem_cons.mpr ⟨q2_74, ?_⟩
  refine List.forall_mem_cons.mpr ⟨q2_75, ?_⟩
  refine List.forall_mem_cons.mpr ⟨q2_76, ?_⟩
  refine List.forall_mem_cons.mpr ⟨q2_77, ?_⟩
  refine List.forall_mem_cons.mpr ⟨q2_78, ?_⟩
  refine List.forall_mem_cons.mpr ⟨q2_79, ?_⟩
  refine List.forall_mem_cons.mpr ⟨q2_80, ?_⟩
  refine List.forall_mem_cons.mpr ⟨q2_81, ?_⟩
  refine List.forall_mem_cons.mpr ⟨q2_82, ?_⟩
  refine List.forall_mem_cons.mpr ⟨q2_84, ?_⟩
  refine List.forall_mem_cons.mpr ⟨q2_85, ?_⟩
  refine List.forall_mem_cons.mpr ⟨q2_86, ?_⟩
  refine List.forall_mem_cons.mpr ⟨q2_87, ?_⟩
  refine List.forall_mem_cons.mpr ⟨q2_88, ?_⟩
  refine List.forall_mem_cons.mpr ⟨q2_89, ?_⟩
  refine List.forall_mem_cons.mpr ⟨q2_108, ?_⟩
  refine List.forall_mem_cons.mpr ⟨q2_109, ?_⟩
  refine List.forall_mem_cons.mpr ⟨q2_134, ?_⟩
  refine List.forall_mem_cons.mpr ⟨q2_135, ?_⟩
  refine List.forall_mem_cons.mpr ⟨q2_136, ?_⟩
  refine List.forall_mem_cons.mpr ⟨q2_137, ?_⟩
  refine List.forall_mem_cons.mpr ⟨q2_138, ?_⟩
  refine List.forall_mem_cons.mpr ⟨q2_139, ?_⟩
  refine List.forall_mem_cons.mpr ⟨q2_140, ?_⟩
  refine List.forall_mem_cons.mpr ⟨q2_141, ?_⟩
  refine List.forall_mem_cons.mpr ⟨q2_142, ?_⟩
  refine List.forall_mem_cons.mpr ⟨q2_144, ?_⟩
  refine List.forall_mem_cons.mpr ⟨q2_145, ?_⟩
  refine List.forall_mem_cons.mpr ⟨q2_146, ?_⟩
  refine List.forall_mem_cons.mpr ⟨q2_147, ?_⟩
  refine List.forall_mem_cons.mpr ⟨q2_148, ?_⟩
  refine List.forall_mem_cons.mpr ⟨q2_149, ?_⟩
  refine List.forall_mem_cons.mpr ⟨q2_225, ?_⟩
  refine List.forall_mem_cons.mpr ⟨q2_226, ?_⟩
  refine List.forall_mem_cons.mpr ⟨q2_227, ?_⟩
  refine List.forall_mem_cons.mpr ⟨q2_228, ?_⟩
  refine List.forall_mem_cons.mpr ⟨q2_230, ?_⟩
  refine List.forall_mem_cons.mpr ⟨q3_5, ?_⟩
  refine List.forall_mem_cons.mpr ⟨q3_6, ?_⟩
  refine List.forall_mem_cons.mpr ⟨q3_7, ?_⟩
  refine List.forall_mem_cons.mpr ⟨q3_8, ?_⟩
  refine List.forall_mem_cons.mpr ⟨q3_9, ?_⟩
  refine List.forall_mem_cons.mpr ⟨q3_10, ?_⟩
  refine List.forall_mem_cons.mpr ⟨q3_11, ?_⟩
  refine List.forall_mem_cons.mpr ⟨q3_12, ?_⟩
  refine List.forall_mem_cons.mpr ⟨q3_13, ?_⟩
  refine List.forall_mem_cons.mpr ⟨q3_15, ?_⟩
  refine List.forall_mem_cons.mpr ⟨q3_16, ?_⟩
  refine List.forall_mem_cons.mpr ⟨q3_17, ?_⟩
  refine List.forall_mem_cons.mpr ⟨q3_18, ?_⟩
  refine List.forall_mem_cons.mpr ⟨q3_19, ?_⟩
  refine List.forall_mem_cons.mpr ⟨q3_20, ?_⟩
  refine List.forall_mem_cons.mpr ⟨q3_149, ?_⟩
  refine List.forall_mem_cons.mpr ⟨q3_162, ?_⟩
  refine List.forall_mem_cons.mpr ⟨q3_163, ?_⟩
  refine List.forall_mem_cons.mpr ⟨q3_164, ?_⟩
  refine List.forall_mem_cons.mpr ⟨q3_165, ?_⟩
  refine List.forall_mem_cons.mpr ⟨q3_166, ?_⟩
  refine List.forall_mem_cons.mpr ⟨q3_167, ?_⟩
  refine List.forall_mem_cons.mpr ⟨q3_168, ?_⟩
  refine List.forall_mem_cons.mpr ⟨q3_169, ?_⟩
  refine List.forall_mem_cons.mpr ⟨q3_170, ?_⟩
  refine List.forall_mem_cons.mpr ⟨q3_172, ?_⟩
  refine List.forall_mem_cons.mpr ⟨q3_173, ?_⟩
  refine List.forall_mem_cons.mpr ⟨q3_174, ?_⟩
  refine List.forall_mem_cons.mpr ⟨q3_175, ?_⟩
  refine List.forall_mem_cons.mpr ⟨q3_176, ?_⟩
  refine List.forall_mem_cons.mpr ⟨q3_177, ?_⟩
  refine List.forall_mem_cons.mpr ⟨q6_78, ?_⟩
  refine List.forall_mem_cons.mpr ⟨q6_111, ?_⟩
  refine List.forall_mem_cons.mpr ⟨q6_112, ?_⟩
  refine List.forall_mem_cons.mpr ⟨q6_113, ?_⟩
  refine List.forall_mem_cons.mpr ⟨q6_114, ?_⟩
  refine List.forall_mem_cons.mpr ⟨q6_115, ?_⟩
  refine List.forall_mem_cons.mpr ⟨q6_116, ?_⟩
  refine List.forall_mem_cons.mpr ⟨q6_117, ?_⟩
  refine List.forall_mem_cons.mpr ⟨q6_118, ?_⟩
  refine List.forall_mem_cons.mpr ⟨q6_119, ?_⟩
  refine List.forall_mem_cons.mpr ⟨q6_120, ?_⟩
  refine List.forall_mem_cons.mpr ⟨q6_232, ?_⟩
  exact fun _ h => absurd h List.not_mem_nil
end
