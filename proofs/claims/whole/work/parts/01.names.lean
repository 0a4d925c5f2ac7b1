-- ===== PART A: goes FIRST, ahead of the names: the tables' words, and 'selects' of the private methods out of them =====
/-- a private method of a class that the tables say can be made, by its rows of tables_1 -/
def lw_okq (q : MethodName × Nat) : Prop := (q.1.cls ≠ "java/lang/invoke/MethodHandle" ∧ q.1.cls ≠ "java/lang/invoke/VarHandle") ∧ Cond.instantiable q.1.cls q.2 ∈ tables_1 ∧ Cond.privateMethod q.1 ∈ tables_1 ∧ Cond.instanceMethod q.1 ∈ tables_1
theorem lw_p0 : lw_okq (⟨"PaidByPoorer$TownReader", "readLine", "(LPaidByPoorer$Text;LPaidByPoorer$Town;)Z"⟩, 2) := ⟨⟨by decide +kernel, by decide +kernel⟩, List.mem_of_getElem? (i := 176) (by decide +kernel), List.mem_of_getElem? (i := 447) (by decide +kernel), List.mem_of_getElem? (i := 448) (by decide +kernel)⟩
theorem lw_p1 : lw_okq (⟨"PaidByPoorer$TownReader", "peek", "(LPaidByPoorer$Text;)I"⟩, 2) := ⟨⟨by decide +kernel, by decide +kernel⟩, List.mem_of_getElem? (i := 176) (by decide +kernel), List.mem_of_getElem? (i := 451) (by decide +kernel), List.mem_of_getElem? (i := 452) (by decide +kernel)⟩
theorem lw_p2 : lw_okq (⟨"PaidByPoorer$TownReader", "readPerson", "(LPaidByPoorer$Text;LPaidByPoorer$Town;)Z"⟩, 2) := ⟨⟨by decide +kernel, by decide +kernel⟩, List.mem_of_getElem? (i := 176) (by decide +kernel), List.mem_of_getElem? (i := 462) (by decide +kernel), List.mem_of_getElem? (i := 463) (by decide +kernel)⟩
theorem lw_p3 : lw_okq (⟨"PaidByPoorer$TownReader", "number", "(LPaidByPoorer$Text;I)I"⟩, 2) := ⟨⟨by decide +kernel, by decide +kernel⟩, List.mem_of_getElem? (i := 176) (by decide +kernel), List.mem_of_getElem? (i := 466) (by decide +kernel), List.mem_of_getElem? (i := 467) (by decide +kernel)⟩
theorem lw_p4 : lw_okq (⟨"PaidByPoorer$TownReader", "takes", "(LPaidByPoorer$Text;C)Z"⟩, 2) := ⟨⟨by decide +kernel, by decide +kernel⟩, List.mem_of_getElem? (i := 176) (by decide +kernel), List.mem_of_getElem? (i := 473) (by decide +kernel), List.mem_of_getElem? (i := 474) (by decide +kernel)⟩
theorem lw_p5 : lw_okq (⟨"PaidByPoorer$TownReader", "readDebt", "(LPaidByPoorer$Text;LPaidByPoorer$Town;)Z"⟩, 2) := ⟨⟨by decide +kernel, by decide +kernel⟩, List.mem_of_getElem? (i := 176) (by decide +kernel), List.mem_of_getElem? (i := 481) (by decide +kernel), List.mem_of_getElem? (i := 482) (by decide +kernel)⟩
theorem lw_p6 : lw_okq (⟨"PaidByPoorer$TownReader", "person", "(LPaidByPoorer$Text;LPaidByPoorer$Town;I)I"⟩, 2) := ⟨⟨by decide +kernel, by decide +kernel⟩, List.mem_of_getElem? (i := 176) (by decide +kernel), List.mem_of_getElem? (i := 485) (by decide +kernel), List.mem_of_getElem? (i := 486) (by decide +kernel)⟩
theorem lw_p7 : lw_okq (⟨"PaidByPoorer", "forgetPayments", "()V"⟩, 17) := ⟨⟨by decide +kernel, by decide +kernel⟩, List.mem_of_getElem? (i := 27) (by decide +kernel), List.mem_of_getElem? (i := 501) (by decide +kernel), List.mem_of_getElem? (i := 502) (by decide +kernel)⟩
theorem lw_p8 : lw_okq (⟨"PaidByPoorer$RuleReader", "start", "()V"⟩, 8) := ⟨⟨by decide +kernel, by decide +kernel⟩, List.mem_of_getElem? (i := 205) (by decide +kernel), List.mem_of_getElem? (i := 513) (by decide +kernel), List.mem_of_getElem? (i := 514) (by decide +kernel)⟩
theorem lw_p9 : lw_okq (⟨"PaidByPoorer$RuleReader", "takesThing", "(I)Z"⟩, 8) := ⟨⟨by decide +kernel, by decide +kernel⟩, List.mem_of_getElem? (i := 205) (by decide +kernel), List.mem_of_getElem? (i := 520) (by decide +kernel), List.mem_of_getElem? (i := 521) (by decide +kernel)⟩
theorem lw_p10 : lw_okq (⟨"PaidByPoorer$RuleReader", "await", "(I)V"⟩, 8) := ⟨⟨by decide +kernel, by decide +kernel⟩, List.mem_of_getElem? (i := 205) (by decide +kernel), List.mem_of_getElem? (i := 524) (by decide +kernel), List.mem_of_getElem? (i := 525) (by decide +kernel)⟩
theorem lw_p11 : lw_okq (⟨"PaidByPoorer$RuleReader", "opens", "()Z"⟩, 8) := ⟨⟨by decide +kernel, by decide +kernel⟩, List.mem_of_getElem? (i := 205) (by decide +kernel), List.mem_of_getElem? (i := 528) (by decide +kernel), List.mem_of_getElem? (i := 529) (by decide +kernel)⟩
theorem lw_p12 : lw_okq (⟨"PaidByPoorer$RuleReader", "put", "(I)V"⟩, 8) := ⟨⟨by decide +kernel, by decide +kernel⟩, List.mem_of_getElem? (i := 205) (by decide +kernel), List.mem_of_getElem? (i := 616) (by decide +kernel), List.mem_of_getElem? (i := 617) (by decide +kernel)⟩
theorem lw_p13 : lw_okq (⟨"PaidByPoorer$RuleReader", "takesBehind", "(I)Z"⟩, 8) := ⟨⟨by decide +kernel, by decide +kernel⟩, List.mem_of_getElem? (i := 205) (by decide +kernel), List.mem_of_getElem? (i := 620) (by decide +kernel), List.mem_of_getElem? (i := 621) (by decide +kernel)⟩
theorem lw_p14 : lw_okq (⟨"PaidByPoorer$RuleReader", "lengthens", "(I)Z"⟩, 8) := ⟨⟨by decide +kernel, by decide +kernel⟩, List.mem_of_getElem? (i := 205) (by decide +kernel), List.mem_of_getElem? (i := 624) (by decide +kernel), List.mem_of_getElem? (i := 625) (by decide +kernel)⟩
theorem lw_p15 : lw_okq (⟨"PaidByPoorer$RuleReader", "closes", "()Z"⟩, 8) := ⟨⟨by decide +kernel, by decide +kernel⟩, List.mem_of_getElem? (i := 205) (by decide +kernel), List.mem_of_getElem? (i := 628) (by decide +kernel), List.mem_of_getElem? (i := 629) (by decide +kernel)⟩
def lw_privs_1 : List (MethodName × Nat) := [(⟨"PaidByPoorer$TownReader", "readLine", "(LPaidByPoorer$Text;LPaidByPoorer$Town;)Z"⟩, 2), (⟨"PaidByPoorer$TownReader", "peek", "(LPaidByPoorer$Text;)I"⟩, 2), (⟨"PaidByPoorer$TownReader", "readPerson", "(LPaidByPoorer$Text;LPaidByPoorer$Town;)Z"⟩, 2), (⟨"PaidByPoorer$TownReader", "number", "(LPaidByPoorer$Text;I)I"⟩, 2), (⟨"PaidByPoorer$TownReader", "takes", "(LPaidByPoorer$Text;C)Z"⟩, 2), (⟨"PaidByPoorer$TownReader", "readDebt", "(LPaidByPoorer$Text;LPaidByPoorer$Town;)Z"⟩, 2), (⟨"PaidByPoorer$TownReader", "person", "(LPaidByPoorer$Text;LPaidByPoorer$Town;I)I"⟩, 2), (⟨"PaidByPoorer", "forgetPayments", "()V"⟩, 17), (⟨"PaidByPoorer$RuleReader", "start", "()V"⟩, 8), (⟨"PaidByPoorer$RuleReader", "takesThing", "(I)Z"⟩, 8), (⟨"PaidByPoorer$RuleReader", "await", "(I)V"⟩, 8), (⟨"PaidByPoorer$RuleReader", "opens", "()Z"⟩, 8), (⟨"PaidByPoorer$RuleReader", "put", "(I)V"⟩, 8), (⟨"PaidByPoorer$RuleReader", "takesBehind", "(I)Z"⟩, 8), (⟨"PaidByPoorer$RuleReader", "lengthens", "(I)Z"⟩, 8), (⟨"PaidByPoorer$RuleReader", "closes", "()Z"⟩, 8)]
theorem lw_r1 : ∀ q ∈ lw_privs_1, lw_okq q := List.forall_mem_cons.mpr ⟨lw_p0, List.forall_mem_cons.mpr ⟨lw_p1, List.forall_mem_cons.mpr ⟨lw_p2, List.forall_mem_cons.mpr ⟨lw_p3, List.forall_mem_cons.mpr ⟨lw_p4, List.forall_mem_cons.mpr ⟨lw_p5, List.forall_mem_cons.mpr ⟨lw_p6, List.forall_mem_cons.mpr ⟨lw_p7, List.forall_mem_cons.mpr ⟨lw_p8, List.forall_mem_cons.mpr ⟨lw_p9, List.forall_mem_cons.mpr ⟨lw_p10, List.forall_mem_cons.mpr ⟨lw_p11, List.forall_mem_cons.mpr ⟨lw_p12, List.forall_mem_cons.mpr ⟨lw_p13, List.forall_mem_cons.mpr ⟨lw_p14, List.forall_mem_cons.mpr ⟨lw_p15, fun _ h => absurd h List.not_mem_nil⟩⟩⟩⟩⟩⟩⟩⟩⟩⟩⟩⟩⟩⟩⟩⟩
theorem lw_p16 : lw_okq (⟨"PaidByPoorer$RuleReader", "settle", "(I)V"⟩, 8) := ⟨⟨by decide +kernel, by decide +kernel⟩, List.mem_of_getElem? (i := 205) (by decide +kernel), List.mem_of_getElem? (i := 632) (by decide +kernel), List.mem_of_getElem? (i := 633) (by decide +kernel)⟩
theorem lw_p17 : lw_okq (⟨"PaidByPoorer$Town", "greatestUnder", "(I)I"⟩, 20) := ⟨⟨by decide +kernel, by decide +kernel⟩, List.mem_of_getElem? (i := 65) (by decide +kernel), List.mem_of_getElem? (i := 703) (by decide +kernel), List.mem_of_getElem? (i := 704) (by decide +kernel)⟩
theorem lw_p18 : lw_okq (⟨"PaidByPoorer", "tellCheapest", "(II)V"⟩, 17) := ⟨⟨by decide +kernel, by decide +kernel⟩, List.mem_of_getElem? (i := 27) (by decide +kernel), List.mem_of_getElem? (i := 738) (by decide +kernel), List.mem_of_getElem? (i := 739) (by decide +kernel)⟩
theorem lw_p19 : lw_okq (⟨"PaidByPoorer$Gifts", "payersAfter", "(IIII)I"⟩, 3) := ⟨⟨by decide +kernel, by decide +kernel⟩, List.mem_of_getElem? (i := 239) (by decide +kernel), List.mem_of_getElem? (i := 894) (by decide +kernel), List.mem_of_getElem? (i := 895) (by decide +kernel)⟩
theorem lw_p20 : lw_okq (⟨"PaidByPoorer", "visit", "(I)Z"⟩, 17) := ⟨⟨by decide +kernel, by decide +kernel⟩, List.mem_of_getElem? (i := 27) (by decide +kernel), List.mem_of_getElem? (i := 917) (by decide +kernel), List.mem_of_getElem? (i := 918) (by decide +kernel)⟩
theorem lw_p21 : lw_okq (⟨"PaidByPoorer$States", "start", "()V"⟩, 15) := ⟨⟨by decide +kernel, by decide +kernel⟩, List.mem_of_getElem? (i := 259) (by decide +kernel), List.mem_of_getElem? (i := 938) (by decide +kernel), List.mem_of_getElem? (i := 939) (by decide +kernel)⟩
theorem lw_p22 : lw_okq (⟨"PaidByPoorer$States", "find", "(IJJ)I"⟩, 15) := ⟨⟨by decide +kernel, by decide +kernel⟩, List.mem_of_getElem? (i := 259) (by decide +kernel), List.mem_of_getElem? (i := 948) (by decide +kernel), List.mem_of_getElem? (i := 949) (by decide +kernel)⟩
theorem lw_p23 : lw_okq (⟨"PaidByPoorer$States", "newState", "(IIJJ)I"⟩, 15) := ⟨⟨by decide +kernel, by decide +kernel⟩, List.mem_of_getElem? (i := 259) (by decide +kernel), List.mem_of_getElem? (i := 955) (by decide +kernel), List.mem_of_getElem? (i := 956) (by decide +kernel)⟩
theorem lw_p24 : lw_okq (⟨"PaidByPoorer$States", "load", "(I)V"⟩, 15) := ⟨⟨by decide +kernel, by decide +kernel⟩, List.mem_of_getElem? (i := 259) (by decide +kernel), List.mem_of_getElem? (i := 960) (by decide +kernel), List.mem_of_getElem? (i := 961) (by decide +kernel)⟩
theorem lw_p25 : lw_okq (⟨"PaidByPoorer$States", "coinIn", "(II)I"⟩, 15) := ⟨⟨by decide +kernel, by decide +kernel⟩, List.mem_of_getElem? (i := 259) (by decide +kernel), List.mem_of_getElem? (i := 964) (by decide +kernel), List.mem_of_getElem? (i := 965) (by decide +kernel)⟩
theorem lw_p26 : lw_okq (⟨"PaidByPoorer$States", "leave", "(I)V"⟩, 15) := ⟨⟨by decide +kernel, by decide +kernel⟩, List.mem_of_getElem? (i := 259) (by decide +kernel), List.mem_of_getElem? (i := 969) (by decide +kernel), List.mem_of_getElem? (i := 970) (by decide +kernel)⟩
theorem lw_p27 : lw_okq (⟨"PaidByPoorer$States", "step", "(III)V"⟩, 15) := ⟨⟨by decide +kernel, by decide +kernel⟩, List.mem_of_getElem? (i := 259) (by decide +kernel), List.mem_of_getElem? (i := 975) (by decide +kernel), List.mem_of_getElem? (i := 976) (by decide +kernel)⟩
theorem lw_p28 : lw_okq (⟨"PaidByPoorer$States", "rank", "(II)I"⟩, 15) := ⟨⟨by decide +kernel, by decide +kernel⟩, List.mem_of_getElem? (i := 259) (by decide +kernel), List.mem_of_getElem? (i := 980) (by decide +kernel), List.mem_of_getElem? (i := 981) (by decide +kernel)⟩
theorem lw_p29 : lw_okq (⟨"PaidByPoorer", "tellPayments", "(I)V"⟩, 17) := ⟨⟨by decide +kernel, by decide +kernel⟩, List.mem_of_getElem? (i := 27) (by decide +kernel), List.mem_of_getElem? (i := 1008) (by decide +kernel), List.mem_of_getElem? (i := 1009) (by decide +kernel)⟩
theorem lw_p30 : lw_okq (⟨"PaidByPoorer$States", "payersTo", "(I)I"⟩, 15) := ⟨⟨by decide +kernel, by decide +kernel⟩, List.mem_of_getElem? (i := 259) (by decide +kernel), List.mem_of_getElem? (i := 1039) (by decide +kernel), List.mem_of_getElem? (i := 1040) (by decide +kernel)⟩
theorem lw_p31 : lw_okq (⟨"PaidByPoorer$States", "got", "(II)I"⟩, 15) := ⟨⟨by decide +kernel, by decide +kernel⟩, List.mem_of_getElem? (i := 259) (by decide +kernel), List.mem_of_getElem? (i := 1043) (by decide +kernel), List.mem_of_getElem? (i := 1044) (by decide +kernel)⟩
def lw_privs_2 : List (MethodName × Nat) := [(⟨"PaidByPoorer$RuleReader", "settle", "(I)V"⟩, 8), (⟨"PaidByPoorer$Town", "greatestUnder", "(I)I"⟩, 20), (⟨"PaidByPoorer", "tellCheapest", "(II)V"⟩, 17), (⟨"PaidByPoorer$Gifts", "payersAfter", "(IIII)I"⟩, 3), (⟨"PaidByPoorer", "visit", "(I)Z"⟩, 17), (⟨"PaidByPoorer$States", "start", "()V"⟩, 15), (⟨"PaidByPoorer$States", "find", "(IJJ)I"⟩, 15), (⟨"PaidByPoorer$States", "newState", "(IIJJ)I"⟩, 15), (⟨"PaidByPoorer$States", "load", "(I)V"⟩, 15), (⟨"PaidByPoorer$States", "coinIn", "(II)I"⟩, 15), (⟨"PaidByPoorer$States", "leave", "(I)V"⟩, 15), (⟨"PaidByPoorer$States", "step", "(III)V"⟩, 15), (⟨"PaidByPoorer$States", "rank", "(II)I"⟩, 15), (⟨"PaidByPoorer", "tellPayments", "(I)V"⟩, 17), (⟨"PaidByPoorer$States", "payersTo", "(I)I"⟩, 15), (⟨"PaidByPoorer$States", "got", "(II)I"⟩, 15)]
theorem lw_r2 : ∀ q ∈ lw_privs_2, lw_okq q := List.forall_mem_cons.mpr ⟨lw_p16, List.forall_mem_cons.mpr ⟨lw_p17, List.forall_mem_cons.mpr ⟨lw_p18, List.forall_mem_cons.mpr ⟨lw_p19, List.forall_mem_cons.mpr ⟨lw_p20, List.forall_mem_cons.mpr ⟨lw_p21, List.forall_mem_cons.mpr ⟨lw_p22, List.forall_mem_cons.mpr ⟨lw_p23, List.forall_mem_cons.mpr ⟨lw_p24, List.forall_mem_cons.mpr ⟨lw_p25, List.forall_mem_cons.mpr ⟨lw_p26, List.forall_mem_cons.mpr ⟨lw_p27, List.forall_mem_cons.mpr ⟨lw_p28, List.forall_mem_cons.mpr ⟨lw_p29, List.forall_mem_cons.mpr ⟨lw_p30, List.forall_mem_cons.mpr ⟨lw_p31, fun _ h => absurd h List.not_mem_nil⟩⟩⟩⟩⟩⟩⟩⟩⟩⟩⟩⟩⟩⟩⟩⟩
theorem lw_p32 : lw_okq (⟨"PaidByPoorer$Parts", "countedOf", "(I)I"⟩, 3) := ⟨⟨by decide +kernel, by decide +kernel⟩, List.mem_of_getElem? (i := 319) (by decide +kernel), List.mem_of_getElem? (i := 1083) (by decide +kernel), List.mem_of_getElem? (i := 1084) (by decide +kernel)⟩
theorem lw_p33 : lw_okq (⟨"PaidByPoorer$Days", "sortDue", "(LPaidByPoorer$Town;)I"⟩, 5) := ⟨⟨by decide +kernel, by decide +kernel⟩, List.mem_of_getElem? (i := 337) (by decide +kernel), List.mem_of_getElem? (i := 1135) (by decide +kernel), List.mem_of_getElem? (i := 1136) (by decide +kernel)⟩
theorem lw_p34 : lw_okq (⟨"PaidByPoorer", "tellFraction", "(JJ)V"⟩, 17) := ⟨⟨by decide +kernel, by decide +kernel⟩, List.mem_of_getElem? (i := 27) (by decide +kernel), List.mem_of_getElem? (i := 1159) (by decide +kernel), List.mem_of_getElem? (i := 1160) (by decide +kernel)⟩
theorem lw_p35 : lw_okq (⟨"PaidByPoorer", "takeAgain", "(LPaidByPoorer$Town;)Z"⟩, 17) := ⟨⟨by decide +kernel, by decide +kernel⟩, List.mem_of_getElem? (i := 27) (by decide +kernel), List.mem_of_getElem? (i := 1182) (by decide +kernel), List.mem_of_getElem? (i := 1183) (by decide +kernel)⟩
theorem lw_p36 : lw_okq (⟨"java/lang/Throwable", "fillInStackTrace", "(I)Ljava/lang/Throwable;"⟩, 6) := ⟨⟨by decide +kernel, by decide +kernel⟩, List.mem_of_getElem? (i := 1235) (by decide +kernel), List.mem_of_getElem? (i := 1233) (by decide +kernel), List.mem_of_getElem? (i := 1234) (by decide +kernel)⟩
theorem lw_p37 : lw_okq (⟨"PaidByPoorer", "wealthBehind", "(III)I"⟩, 17) := ⟨⟨by decide +kernel, by decide +kernel⟩, List.mem_of_getElem? (i := 27) (by decide +kernel), List.mem_of_getElem? (i := 1284) (by decide +kernel), List.mem_of_getElem? (i := 1285) (by decide +kernel)⟩
theorem lw_p38 : lw_okq (⟨"PaidByPoorerModel", "begin", "([BII)V"⟩, 59) := ⟨⟨by decide +kernel, by decide +kernel⟩, List.mem_of_getElem? (i := 1295) (by decide +kernel), List.mem_of_getElem? (i := 1499) (by decide +kernel), List.mem_of_getElem? (i := 1500) (by decide +kernel)⟩
theorem lw_p39 : lw_okq (⟨"PaidByPoorerModel", "fine", "()Z"⟩, 59) := ⟨⟨by decide +kernel, by decide +kernel⟩, List.mem_of_getElem? (i := 1295) (by decide +kernel), List.mem_of_getElem? (i := 1503) (by decide +kernel), List.mem_of_getElem? (i := 1504) (by decide +kernel)⟩
theorem lw_p40 : lw_okq (⟨"PaidByPoorerModel", "here", "()I"⟩, 59) := ⟨⟨by decide +kernel, by decide +kernel⟩, List.mem_of_getElem? (i := 1295) (by decide +kernel), List.mem_of_getElem? (i := 1507) (by decide +kernel), List.mem_of_getElem? (i := 1508) (by decide +kernel)⟩
theorem lw_p41 : lw_okq (⟨"PaidByPoorerModel", "fault", "(I)V"⟩, 59) := ⟨⟨by decide +kernel, by decide +kernel⟩, List.mem_of_getElem? (i := 1295) (by decide +kernel), List.mem_of_getElem? (i := 1511) (by decide +kernel), List.mem_of_getElem? (i := 1512) (by decide +kernel)⟩
theorem lw_p42 : lw_okq (⟨"PaidByPoorerModel", "readDebt", "(II)V"⟩, 59) := ⟨⟨by decide +kernel, by decide +kernel⟩, List.mem_of_getElem? (i := 1295) (by decide +kernel), List.mem_of_getElem? (i := 1515) (by decide +kernel), List.mem_of_getElem? (i := 1516) (by decide +kernel)⟩
theorem lw_p43 : lw_okq (⟨"PaidByPoorerModel", "number", "(III)I"⟩, 59) := ⟨⟨by decide +kernel, by decide +kernel⟩, List.mem_of_getElem? (i := 1295) (by decide +kernel), List.mem_of_getElem? (i := 1519) (by decide +kernel), List.mem_of_getElem? (i := 1520) (by decide +kernel)⟩
theorem lw_p44 : lw_okq (⟨"PaidByPoorerModel", "need", "(C)V"⟩, 59) := ⟨⟨by decide +kernel, by decide +kernel⟩, List.mem_of_getElem? (i := 1295) (by decide +kernel), List.mem_of_getElem? (i := 1525) (by decide +kernel), List.mem_of_getElem? (i := 1526) (by decide +kernel)⟩
theorem lw_p45 : lw_okq (⟨"PaidByPoorerModel", "passes", "(C)Z"⟩, 59) := ⟨⟨by decide +kernel, by decide +kernel⟩, List.mem_of_getElem? (i := 1295) (by decide +kernel), List.mem_of_getElem? (i := 1529) (by decide +kernel), List.mem_of_getElem? (i := 1530) (by decide +kernel)⟩
theorem lw_p46 : lw_okq (⟨"PaidByPoorerModel", "readOne", "(I)V"⟩, 59) := ⟨⟨by decide +kernel, by decide +kernel⟩, List.mem_of_getElem? (i := 1295) (by decide +kernel), List.mem_of_getElem? (i := 1533) (by decide +kernel), List.mem_of_getElem? (i := 1534) (by decide +kernel)⟩
theorem lw_p47 : lw_okq (⟨"PaidByPoorerModel", "held", "(I)I"⟩, 59) := ⟨⟨by decide +kernel, by decide +kernel⟩, List.mem_of_getElem? (i := 1295) (by decide +kernel), List.mem_of_getElem? (i := 1541) (by decide +kernel), List.mem_of_getElem? (i := 1542) (by decide +kernel)⟩
def lw_privs_3 : List (MethodName × Nat) := [(⟨"PaidByPoorer$Parts", "countedOf", "(I)I"⟩, 3), (⟨"PaidByPoorer$Days", "sortDue", "(LPaidByPoorer$Town;)I"⟩, 5), (⟨"PaidByPoorer", "tellFraction", "(JJ)V"⟩, 17), (⟨"PaidByPoorer", "takeAgain", "(LPaidByPoorer$Town;)Z"⟩, 17), (⟨"java/lang/Throwable", "fillInStackTrace", "(I)Ljava/lang/Throwable;"⟩, 6), (⟨"PaidByPoorer", "wealthBehind", "(III)I"⟩, 17), (⟨"PaidByPoorerModel", "begin", "([BII)V"⟩, 59), (⟨"PaidByPoorerModel", "fine", "()Z"⟩, 59), (⟨"PaidByPoorerModel", "here", "()I"⟩, 59), (⟨"PaidByPoorerModel", "fault", "(I)V"⟩, 59), (⟨"PaidByPoorerModel", "readDebt", "(II)V"⟩, 59), (⟨"PaidByPoorerModel", "number", "(III)I"⟩, 59), (⟨"PaidByPoorerModel", "need", "(C)V"⟩, 59), (⟨"PaidByPoorerModel", "passes", "(C)Z"⟩, 59), (⟨"PaidByPoorerModel", "readOne", "(I)V"⟩, 59), (⟨"PaidByPoorerModel", "held", "(I)I"⟩, 59)]
theorem lw_r3 : ∀ q ∈ lw_privs_3, lw_okq q := List.forall_mem_cons.mpr ⟨lw_p32, List.forall_mem_cons.mpr ⟨lw_p33, List.forall_mem_cons.mpr ⟨lw_p34, List.forall_mem_cons.mpr ⟨lw_p35, List.forall_mem_cons.mpr ⟨lw_p36, List.forall_mem_cons.mpr ⟨lw_p37, List.forall_mem_cons.mpr ⟨lw_p38, List.forall_mem_cons.mpr ⟨lw_p39, List.forall_mem_cons.mpr ⟨lw_p40, List.forall_mem_cons.mpr ⟨lw_p41, List.forall_mem_cons.mpr ⟨lw_p42, List.forall_mem_cons.mpr ⟨lw_p43, List.forall_mem_cons.mpr ⟨lw_p44, List.forall_mem_cons.mpr ⟨lw_p45, List.forall_mem_cons.mpr ⟨lw_p46, List.forall_mem_cons.mpr ⟨lw_p47, fun _ h => absurd h List.not_mem_nil⟩⟩⟩⟩⟩⟩⟩⟩⟩⟩⟩⟩⟩⟩⟩⟩
theorem lw_p48 : lw_okq (⟨"PaidByPoorerModel", "sum", "(I)I"⟩, 59) := ⟨⟨by decide +kernel, by decide +kernel⟩, List.mem_of_getElem? (i := 1295) (by decide +kernel), List.mem_of_getElem? (i := 1545) (by decide +kernel), List.mem_of_getElem? (i := 1546) (by decide +kernel)⟩
theorem lw_p49 : lw_okq (⟨"PaidByPoorerModel", "product", "(I)I"⟩, 59) := ⟨⟨by decide +kernel, by decide +kernel⟩, List.mem_of_getElem? (i := 1295) (by decide +kernel), List.mem_of_getElem? (i := 1549) (by decide +kernel), List.mem_of_getElem? (i := 1550) (by decide +kernel)⟩
theorem lw_p50 : lw_okq (⟨"PaidByPoorerModel", "thing", "(I)I"⟩, 59) := ⟨⟨by decide +kernel, by decide +kernel⟩, List.mem_of_getElem? (i := 1295) (by decide +kernel), List.mem_of_getElem? (i := 1553) (by decide +kernel), List.mem_of_getElem? (i := 1554) (by decide +kernel)⟩
theorem lw_p51 : lw_okq (⟨"PaidByPoorerModel", "letter", "(I)I"⟩, 59) := ⟨⟨by decide +kernel, by decide +kernel⟩, List.mem_of_getElem? (i := 1295) (by decide +kernel), List.mem_of_getElem? (i := 1557) (by decide +kernel), List.mem_of_getElem? (i := 1558) (by decide +kernel)⟩
theorem lw_p52 : lw_okq (⟨"PaidByPoorerModel", "counted", "(I)I"⟩, 59) := ⟨⟨by decide +kernel, by decide +kernel⟩, List.mem_of_getElem? (i := 1295) (by decide +kernel), List.mem_of_getElem? (i := 1561) (by decide +kernel), List.mem_of_getElem? (i := 1562) (by decide +kernel)⟩
theorem lw_p53 : lw_okq (⟨"PaidByPoorerModel", "priceOf", "(II)I"⟩, 59) := ⟨⟨by decide +kernel, by decide +kernel⟩, List.mem_of_getElem? (i := 1295) (by decide +kernel), List.mem_of_getElem? (i := 1565) (by decide +kernel), List.mem_of_getElem? (i := 1566) (by decide +kernel)⟩
theorem lw_p54 : lw_okq (⟨"PaidByPoorerModel", "favoursOwed", "(I)I"⟩, 59) := ⟨⟨by decide +kernel, by decide +kernel⟩, List.mem_of_getElem? (i := 1295) (by decide +kernel), List.mem_of_getElem? (i := 1569) (by decide +kernel), List.mem_of_getElem? (i := 1570) (by decide +kernel)⟩
theorem lw_p55 : lw_okq (⟨"PaidByPoorerModel", "openOf", "(I)I"⟩, 59) := ⟨⟨by decide +kernel, by decide +kernel⟩, List.mem_of_getElem? (i := 1295) (by decide +kernel), List.mem_of_getElem? (i := 1573) (by decide +kernel), List.mem_of_getElem? (i := 1574) (by decide +kernel)⟩
theorem lw_p56 : lw_okq (⟨"PaidByPoorerModel", "isOne", "(I)Z"⟩, 59) := ⟨⟨by decide +kernel, by decide +kernel⟩, List.mem_of_getElem? (i := 1295) (by decide +kernel), List.mem_of_getElem? (i := 1581) (by decide +kernel), List.mem_of_getElem? (i := 1582) (by decide +kernel)⟩
theorem lw_p57 : lw_okq (⟨"PaidByPoorerModel", "lost", "()I"⟩, 59) := ⟨⟨by decide +kernel, by decide +kernel⟩, List.mem_of_getElem? (i := 1295) (by decide +kernel), List.mem_of_getElem? (i := 1586) (by decide +kernel), List.mem_of_getElem? (i := 1587) (by decide +kernel)⟩
theorem lw_p58 : lw_okq (⟨"PaidByPoorerModel", "onList", "(I)I"⟩, 59) := ⟨⟨by decide +kernel, by decide +kernel⟩, List.mem_of_getElem? (i := 1295) (by decide +kernel), List.mem_of_getElem? (i := 1590) (by decide +kernel), List.mem_of_getElem? (i := 1591) (by decide +kernel)⟩
theorem lw_p59 : lw_okq (⟨"PaidByPoorerModel", "openTo", "(I)I"⟩, 59) := ⟨⟨by decide +kernel, by decide +kernel⟩, List.mem_of_getElem? (i := 1295) (by decide +kernel), List.mem_of_getElem? (i := 1594) (by decide +kernel), List.mem_of_getElem? (i := 1595) (by decide +kernel)⟩
theorem lw_p60 : lw_okq (⟨"PaidByPoorerModel", "favoursOwing", "(I)I"⟩, 59) := ⟨⟨by decide +kernel, by decide +kernel⟩, List.mem_of_getElem? (i := 1295) (by decide +kernel), List.mem_of_getElem? (i := 1598) (by decide +kernel), List.mem_of_getElem? (i := 1599) (by decide +kernel)⟩
theorem lw_p61 : lw_okq (⟨"PaidByPoorerModel", "isDebt", "(I)Z"⟩, 59) := ⟨⟨by decide +kernel, by decide +kernel⟩, List.mem_of_getElem? (i := 1295) (by decide +kernel), List.mem_of_getElem? (i := 1606) (by decide +kernel), List.mem_of_getElem? (i := 1607) (by decide +kernel)⟩
theorem lw_p62 : lw_okq (⟨"PaidByPoorerModel", "takeNoon", "()V"⟩, 59) := ⟨⟨by decide +kernel, by decide +kernel⟩, List.mem_of_getElem? (i := 1295) (by decide +kernel), List.mem_of_getElem? (i := 1627) (by decide +kernel), List.mem_of_getElem? (i := 1628) (by decide +kernel)⟩
theorem lw_p63 : lw_okq (⟨"PaidByPoorerModel", "isBelow", "(II)Z"⟩, 59) := ⟨⟨by decide +kernel, by decide +kernel⟩, List.mem_of_getElem? (i := 1295) (by decide +kernel), List.mem_of_getElem? (i := 1645) (by decide +kernel), List.mem_of_getElem? (i := 1646) (by decide +kernel)⟩
def lw_privs_4 : List (MethodName × Nat) := [(⟨"PaidByPoorerModel", "sum", "(I)I"⟩, 59), (⟨"PaidByPoorerModel", "product", "(I)I"⟩, 59), (⟨"PaidByPoorerModel", "thing", "(I)I"⟩, 59), (⟨"PaidByPoorerModel", "letter", "(I)I"⟩, 59), (⟨"PaidByPoorerModel", "counted", "(I)I"⟩, 59), (⟨"PaidByPoorerModel", "priceOf", "(II)I"⟩, 59), (⟨"PaidByPoorerModel", "favoursOwed", "(I)I"⟩, 59), (⟨"PaidByPoorerModel", "openOf", "(I)I"⟩, 59), (⟨"PaidByPoorerModel", "isOne", "(I)Z"⟩, 59), (⟨"PaidByPoorerModel", "lost", "()I"⟩, 59), (⟨"PaidByPoorerModel", "onList", "(I)I"⟩, 59), (⟨"PaidByPoorerModel", "openTo", "(I)I"⟩, 59), (⟨"PaidByPoorerModel", "favoursOwing", "(I)I"⟩, 59), (⟨"PaidByPoorerModel", "isDebt", "(I)Z"⟩, 59), (⟨"PaidByPoorerModel", "takeNoon", "()V"⟩, 59), (⟨"PaidByPoorerModel", "isBelow", "(II)Z"⟩, 59)]
theorem lw_r4 : ∀ q ∈ lw_privs_4, lw_okq q := List.forall_mem_cons.mpr ⟨lw_p48, List.forall_mem_cons.mpr ⟨lw_p49, List.forall_mem_cons.mpr ⟨lw_p50, List.forall_mem_cons.mpr ⟨lw_p51, List.forall_mem_cons.mpr ⟨lw_p52, List.forall_mem_cons.mpr ⟨lw_p53, List.forall_mem_cons.mpr ⟨lw_p54, List.forall_mem_cons.mpr ⟨lw_p55, List.forall_mem_cons.mpr ⟨lw_p56, List.forall_mem_cons.mpr ⟨lw_p57, List.forall_mem_cons.mpr ⟨lw_p58, List.forall_mem_cons.mpr ⟨lw_p59, List.forall_mem_cons.mpr ⟨lw_p60, List.forall_mem_cons.mpr ⟨lw_p61, List.forall_mem_cons.mpr ⟨lw_p62, List.forall_mem_cons.mpr ⟨lw_p63, fun _ h => absurd h List.not_mem_nil⟩⟩⟩⟩⟩⟩⟩⟩⟩⟩⟩⟩⟩⟩⟩⟩
theorem lw_p64 : lw_okq (⟨"PaidByPoorerModel", "mayPay", "(I)I"⟩, 59) := ⟨⟨by decide +kernel, by decide +kernel⟩, List.mem_of_getElem? (i := 1295) (by decide +kernel), List.mem_of_getElem? (i := 1653) (by decide +kernel), List.mem_of_getElem? (i := 1654) (by decide +kernel)⟩
theorem lw_p65 : lw_okq (⟨"PaidByPoorerModel", "may", "(II)Z"⟩, 59) := ⟨⟨by decide +kernel, by decide +kernel⟩, List.mem_of_getElem? (i := 1295) (by decide +kernel), List.mem_of_getElem? (i := 1657) (by decide +kernel), List.mem_of_getElem? (i := 1658) (by decide +kernel)⟩
theorem lw_p66 : lw_okq (⟨"PaidByPoorerModel", "tell", "(J)V"⟩, 59) := ⟨⟨by decide +kernel, by decide +kernel⟩, List.mem_of_getElem? (i := 1295) (by decide +kernel), List.mem_of_getElem? (i := 1664) (by decide +kernel), List.mem_of_getElem? (i := 1665) (by decide +kernel)⟩
theorem lw_p67 : lw_okq (⟨"PaidByPoorerModel", "willingTo", "(I)I"⟩, 59) := ⟨⟨by decide +kernel, by decide +kernel⟩, List.mem_of_getElem? (i := 1295) (by decide +kernel), List.mem_of_getElem? (i := 1672) (by decide +kernel), List.mem_of_getElem? (i := 1673) (by decide +kernel)⟩
theorem lw_p68 : lw_okq (⟨"PaidByPoorerModel", "ruleFor", "(II)I"⟩, 59) := ⟨⟨by decide +kernel, by decide +kernel⟩, List.mem_of_getElem? (i := 1295) (by decide +kernel), List.mem_of_getElem? (i := 1676) (by decide +kernel), List.mem_of_getElem? (i := 1677) (by decide +kernel)⟩
theorem lw_p69 : lw_okq (⟨"PaidByPoorerModel", "make", "(II)I"⟩, 59) := ⟨⟨by decide +kernel, by decide +kernel⟩, List.mem_of_getElem? (i := 1295) (by decide +kernel), List.mem_of_getElem? (i := 1684) (by decide +kernel), List.mem_of_getElem? (i := 1685) (by decide +kernel)⟩
theorem lw_p70 : lw_okq (⟨"PaidByPoorerModel", "unmake", "(I)V"⟩, 59) := ⟨⟨by decide +kernel, by decide +kernel⟩, List.mem_of_getElem? (i := 1295) (by decide +kernel), List.mem_of_getElem? (i := 1692) (by decide +kernel), List.mem_of_getElem? (i := 1693) (by decide +kernel)⟩
theorem lw_p71 : lw_okq (⟨"PaidByPoorerModel", "isOpen", "(I)Z"⟩, 59) := ⟨⟨by decide +kernel, by decide +kernel⟩, List.mem_of_getElem? (i := 1295) (by decide +kernel), List.mem_of_getElem? (i := 1701) (by decide +kernel), List.mem_of_getElem? (i := 1702) (by decide +kernel)⟩
theorem lw_p72 : lw_okq (⟨"PaidByPoorerModel", "canGive", "(III)Z"⟩, 59) := ⟨⟨by decide +kernel, by decide +kernel⟩, List.mem_of_getElem? (i := 1295) (by decide +kernel), List.mem_of_getElem? (i := 1717) (by decide +kernel), List.mem_of_getElem? (i := 1718) (by decide +kernel)⟩
theorem lw_p73 : lw_okq (⟨"PaidByPoorerModel", "findStates", "(I)Z"⟩, 59) := ⟨⟨by decide +kernel, by decide +kernel⟩, List.mem_of_getElem? (i := 1295) (by decide +kernel), List.mem_of_getElem? (i := 1744) (by decide +kernel), List.mem_of_getElem? (i := 1745) (by decide +kernel)⟩
theorem lw_p74 : lw_okq (⟨"PaidByPoorerModel", "dueBy", "(I)I"⟩, 59) := ⟨⟨by decide +kernel, by decide +kernel⟩, List.mem_of_getElem? (i := 1295) (by decide +kernel), List.mem_of_getElem? (i := 1748) (by decide +kernel), List.mem_of_getElem? (i := 1749) (by decide +kernel)⟩
theorem lw_p75 : lw_okq (⟨"PaidByPoorerModel", "stateOf", "(I)I"⟩, 59) := ⟨⟨by decide +kernel, by decide +kernel⟩, List.mem_of_getElem? (i := 1295) (by decide +kernel), List.mem_of_getElem? (i := 1752) (by decide +kernel), List.mem_of_getElem? (i := 1753) (by decide +kernel)⟩
theorem lw_p76 : lw_okq (⟨"PaidByPoorerModel", "isState", "(II)Z"⟩, 59) := ⟨⟨by decide +kernel, by decide +kernel⟩, List.mem_of_getElem? (i := 1295) (by decide +kernel), List.mem_of_getElem? (i := 1756) (by decide +kernel), List.mem_of_getElem? (i := 1757) (by decide +kernel)⟩
theorem lw_p77 : lw_okq (⟨"PaidByPoorerModel", "orderLayer", "(I)V"⟩, 59) := ⟨⟨by decide +kernel, by decide +kernel⟩, List.mem_of_getElem? (i := 1295) (by decide +kernel), List.mem_of_getElem? (i := 1761) (by decide +kernel), List.mem_of_getElem? (i := 1762) (by decide +kernel)⟩
theorem lw_p78 : lw_okq (⟨"PaidByPoorerModel", "isRowLess", "(II)Z"⟩, 59) := ⟨⟨by decide +kernel, by decide +kernel⟩, List.mem_of_getElem? (i := 1295) (by decide +kernel), List.mem_of_getElem? (i := 1765) (by decide +kernel), List.mem_of_getElem? (i := 1766) (by decide +kernel)⟩
theorem lw_p79 : lw_okq (⟨"PaidByPoorerModel", "load", "(I)V"⟩, 59) := ⟨⟨by decide +kernel, by decide +kernel⟩, List.mem_of_getElem? (i := 1295) (by decide +kernel), List.mem_of_getElem? (i := 1769) (by decide +kernel), List.mem_of_getElem? (i := 1770) (by decide +kernel)⟩
def lw_privs_5 : List (MethodName × Nat) := [(⟨"PaidByPoorerModel", "mayPay", "(I)I"⟩, 59), (⟨"PaidByPoorerModel", "may", "(II)Z"⟩, 59), (⟨"PaidByPoorerModel", "tell", "(J)V"⟩, 59), (⟨"PaidByPoorerModel", "willingTo", "(I)I"⟩, 59), (⟨"PaidByPoorerModel", "ruleFor", "(II)I"⟩, 59), (⟨"PaidByPoorerModel", "make", "(II)I"⟩, 59), (⟨"PaidByPoorerModel", "unmake", "(I)V"⟩, 59), (⟨"PaidByPoorerModel", "isOpen", "(I)Z"⟩, 59), (⟨"PaidByPoorerModel", "canGive", "(III)Z"⟩, 59), (⟨"PaidByPoorerModel", "findStates", "(I)Z"⟩, 59), (⟨"PaidByPoorerModel", "dueBy", "(I)I"⟩, 59), (⟨"PaidByPoorerModel", "stateOf", "(I)I"⟩, 59), (⟨"PaidByPoorerModel", "isState", "(II)Z"⟩, 59), (⟨"PaidByPoorerModel", "orderLayer", "(I)V"⟩, 59), (⟨"PaidByPoorerModel", "isRowLess", "(II)Z"⟩, 59), (⟨"PaidByPoorerModel", "load", "(I)V"⟩, 59)]
theorem lw_r5 : ∀ q ∈ lw_privs_5, lw_okq q := List.forall_mem_cons.mpr ⟨lw_p64, List.forall_mem_cons.mpr ⟨lw_p65, List.forall_mem_cons.mpr ⟨lw_p66, List.forall_mem_cons.mpr ⟨lw_p67, List.forall_mem_cons.mpr ⟨lw_p68, List.forall_mem_cons.mpr ⟨lw_p69, List.forall_mem_cons.mpr ⟨lw_p70, List.forall_mem_cons.mpr ⟨lw_p71, List.forall_mem_cons.mpr ⟨lw_p72, List.forall_mem_cons.mpr ⟨lw_p73, List.forall_mem_cons.mpr ⟨lw_p74, List.forall_mem_cons.mpr ⟨lw_p75, List.forall_mem_cons.mpr ⟨lw_p76, List.forall_mem_cons.mpr ⟨lw_p77, List.forall_mem_cons.mpr ⟨lw_p78, List.forall_mem_cons.mpr ⟨lw_p79, fun _ h => absurd h List.not_mem_nil⟩⟩⟩⟩⟩⟩⟩⟩⟩⟩⟩⟩⟩⟩⟩⟩
theorem lw_p80 : lw_okq (⟨"PaidByPoorerModel", "lead", "(IIII)V"⟩, 59) := ⟨⟨by decide +kernel, by decide +kernel⟩, List.mem_of_getElem? (i := 1295) (by decide +kernel), List.mem_of_getElem? (i := 1773) (by decide +kernel), List.mem_of_getElem? (i := 1774) (by decide +kernel)⟩
theorem lw_p81 : lw_okq (⟨"PaidByPoorerModel", "sumOf", "(I)I"⟩, 59) := ⟨⟨by decide +kernel, by decide +kernel⟩, List.mem_of_getElem? (i := 1295) (by decide +kernel), List.mem_of_getElem? (i := 1777) (by decide +kernel), List.mem_of_getElem? (i := 1778) (by decide +kernel)⟩
theorem lw_p82 : lw_okq (⟨"PaidByPoorerModel", "mostPaid", "()I"⟩, 59) := ⟨⟨by decide +kernel, by decide +kernel⟩, List.mem_of_getElem? (i := 1295) (by decide +kernel), List.mem_of_getElem? (i := 1781) (by decide +kernel), List.mem_of_getElem? (i := 1782) (by decide +kernel)⟩
theorem lw_p83 : lw_okq (⟨"PaidByPoorerModel", "canAll", "(I)Z"⟩, 59) := ⟨⟨by decide +kernel, by decide +kernel⟩, List.mem_of_getElem? (i := 1295) (by decide +kernel), List.mem_of_getElem? (i := 1807) (by decide +kernel), List.mem_of_getElem? (i := 1808) (by decide +kernel)⟩
theorem lw_p84 : lw_okq (⟨"PaidByPoorerModel", "partsBy", "(I)I"⟩, 59) := ⟨⟨by decide +kernel, by decide +kernel⟩, List.mem_of_getElem? (i := 1295) (by decide +kernel), List.mem_of_getElem? (i := 1819) (by decide +kernel), List.mem_of_getElem? (i := 1820) (by decide +kernel)⟩
theorem lw_p85 : lw_okq (⟨"PaidByPoorerModel", "countedOf", "(I)I"⟩, 59) := ⟨⟨by decide +kernel, by decide +kernel⟩, List.mem_of_getElem? (i := 1295) (by decide +kernel), List.mem_of_getElem? (i := 1823) (by decide +kernel), List.mem_of_getElem? (i := 1824) (by decide +kernel)⟩
theorem lw_p86 : lw_okq (⟨"PaidByPoorerModel", "flowOf", "(I)I"⟩, 59) := ⟨⟨by decide +kernel, by decide +kernel⟩, List.mem_of_getElem? (i := 1295) (by decide +kernel), List.mem_of_getElem? (i := 1827) (by decide +kernel), List.mem_of_getElem? (i := 1828) (by decide +kernel)⟩
theorem lw_p87 : lw_okq (⟨"PaidByPoorerModel", "boundOf", "(II)I"⟩, 59) := ⟨⟨by decide +kernel, by decide +kernel⟩, List.mem_of_getElem? (i := 1295) (by decide +kernel), List.mem_of_getElem? (i := 1832) (by decide +kernel), List.mem_of_getElem? (i := 1833) (by decide +kernel)⟩
theorem lw_p88 : lw_okq (⟨"PaidByPoorerModel", "leftTo", "(II)I"⟩, 59) := ⟨⟨by decide +kernel, by decide +kernel⟩, List.mem_of_getElem? (i := 1295) (by decide +kernel), List.mem_of_getElem? (i := 1836) (by decide +kernel), List.mem_of_getElem? (i := 1837) (by decide +kernel)⟩
theorem lw_p89 : lw_okq (⟨"PaidByPoorerModel", "goDays", "(I)V"⟩, 59) := ⟨⟨by decide +kernel, by decide +kernel⟩, List.mem_of_getElem? (i := 1295) (by decide +kernel), List.mem_of_getElem? (i := 1853) (by decide +kernel), List.mem_of_getElem? (i := 1854) (by decide +kernel)⟩
theorem lw_p90 : lw_okq (⟨"PaidByPoorerModel", "goDebt", "(I)V"⟩, 59) := ⟨⟨by decide +kernel, by decide +kernel⟩, List.mem_of_getElem? (i := 1295) (by decide +kernel), List.mem_of_getElem? (i := 1857) (by decide +kernel), List.mem_of_getElem? (i := 1858) (by decide +kernel)⟩
theorem lw_p91 : lw_okq (⟨"PaidByPoorerModel", "lay", "([II)V"⟩, 59) := ⟨⟨by decide +kernel, by decide +kernel⟩, List.mem_of_getElem? (i := 1295) (by decide +kernel), List.mem_of_getElem? (i := 1865) (by decide +kernel), List.mem_of_getElem? (i := 1866) (by decide +kernel)⟩
theorem lw_p92 : lw_okq (⟨"PaidByPoorerModel", "bring", "([II)V"⟩, 59) := ⟨⟨by decide +kernel, by decide +kernel⟩, List.mem_of_getElem? (i := 1295) (by decide +kernel), List.mem_of_getElem? (i := 1869) (by decide +kernel), List.mem_of_getElem? (i := 1870) (by decide +kernel)⟩
theorem lw_p93 : lw_okq (⟨"PaidByPoorerModel", "hasBehind", "(II)I"⟩, 59) := ⟨⟨by decide +kernel, by decide +kernel⟩, List.mem_of_getElem? (i := 1295) (by decide +kernel), List.mem_of_getElem? (i := 1877) (by decide +kernel), List.mem_of_getElem? (i := 1878) (by decide +kernel)⟩
def lw_privs_6 : List (MethodName × Nat) := [(⟨"PaidByPoorerModel", "lead", "(IIII)V"⟩, 59), (⟨"PaidByPoorerModel", "sumOf", "(I)I"⟩, 59), (⟨"PaidByPoorerModel", "mostPaid", "()I"⟩, 59), (⟨"PaidByPoorerModel", "canAll", "(I)Z"⟩, 59), (⟨"PaidByPoorerModel", "partsBy", "(I)I"⟩, 59), (⟨"PaidByPoorerModel", "countedOf", "(I)I"⟩, 59), (⟨"PaidByPoorerModel", "flowOf", "(I)I"⟩, 59), (⟨"PaidByPoorerModel", "boundOf", "(II)I"⟩, 59), (⟨"PaidByPoorerModel", "leftTo", "(II)I"⟩, 59), (⟨"PaidByPoorerModel", "goDays", "(I)V"⟩, 59), (⟨"PaidByPoorerModel", "goDebt", "(I)V"⟩, 59), (⟨"PaidByPoorerModel", "lay", "([II)V"⟩, 59), (⟨"PaidByPoorerModel", "bring", "([II)V"⟩, 59), (⟨"PaidByPoorerModel", "hasBehind", "(II)I"⟩, 59)]
theorem lw_r6 : ∀ q ∈ lw_privs_6, lw_okq q := List.forall_mem_cons.mpr ⟨lw_p80, List.forall_mem_cons.mpr ⟨lw_p81, List.forall_mem_cons.mpr ⟨lw_p82, List.forall_mem_cons.mpr ⟨lw_p83, List.forall_mem_cons.mpr ⟨lw_p84, List.forall_mem_cons.mpr ⟨lw_p85, List.forall_mem_cons.mpr ⟨lw_p86, List.forall_mem_cons.mpr ⟨lw_p87, List.forall_mem_cons.mpr ⟨lw_p88, List.forall_mem_cons.mpr ⟨lw_p89, List.forall_mem_cons.mpr ⟨lw_p90, List.forall_mem_cons.mpr ⟨lw_p91, List.forall_mem_cons.mpr ⟨lw_p92, List.forall_mem_cons.mpr ⟨lw_p93, fun _ h => absurd h List.not_mem_nil⟩⟩⟩⟩⟩⟩⟩⟩⟩⟩⟩⟩⟩⟩
def lw_privs : List (MethodName × Nat) := lw_privs_1 ++ (lw_privs_2 ++ (lw_privs_3 ++ (lw_privs_4 ++ (lw_privs_5 ++ (lw_privs_6)))))
def lw_tbl : List Cond := k2_sels lw_privs ++ tables_1
theorem lw_privs_ok : ∀ q ∈ lw_privs, lw_okq q := by
  show ∀ q ∈ lw_privs_1 ++ (lw_privs_2 ++ (lw_privs_3 ++ (lw_privs_4 ++ (lw_privs_5 ++ (lw_privs_6))))), lw_okq q
  exact List.forall_mem_append.mpr ⟨lw_r1, List.forall_mem_append.mpr ⟨lw_r2, List.forall_mem_append.mpr ⟨lw_r3, List.forall_mem_append.mpr ⟨lw_r4, List.forall_mem_append.mpr ⟨lw_r5, lw_r6⟩⟩⟩⟩⟩
-- ===== end of PART A; then your names; then what follows =====
def RX0 : String := "PaidByPoorer$Days"
def TX0 : u_T := fun k => match k with
  | 0 => ("PaidByPoorer$Days", "order", "[I", true)
  | 1 => ("PaidByPoorer$Days", "payments", "I", false)
  | 2 => ("PaidByPoorer$Days", "prices", "I", false)
  | 3 => ("PaidByPoorer$Days", "sums", "I", false)
  | _ => ("PaidByPoorer$Days", "lapsed", "I", false)
def tyX0 : Nat → FieldType := fun k => match k with
  | 0 => .array .int
  | 1 => .int
  | 2 => .int
  | 3 => .int
  | _ => .int
abbrev wsX00 : List Cond := u_ws RX0 TX0 5
theorem nmX0 : ∀ a, a < 5 → ∀ b, b < 5 → a ≠ b → (TX0 a).2.1 ≠ (TX0 b).2.1 := by decide +kernel
theorem tyX0_ok : ∀ k, k < 5 → parseFieldDescriptor (TX0 k).2.2.1 = some (tyX0 k) := by decide +kernel
abbrev cX0_init : ByteArray := prog_2_method_1_code
def yX0_init : MethodName := ⟨RX0, "<init>", "()V"⟩
abbrev cX0_pass : ByteArray := prog_2_method_2_code
def yX0_pass : MethodName := ⟨RX0, "pass", "(LPaidByPoorer$Town;LPaidByPoorer$Rule;I)V"⟩
abbrev cX0_sortDue : ByteArray := prog_2_method_3_code
def yX0_sortDue : MethodName := ⟨RX0, "sortDue", "(LPaidByPoorer$Town;)I"⟩
def RX1 : String := "PaidByPoorer$Gifts"
def TX1 : u_T := fun k => match k with
  | 0 => ("PaidByPoorer$Gifts", "town", "LPaidByPoorer$Town;", true)
  | 1 => ("PaidByPoorer$Gifts", "who", "I", false)
  | _ => ("PaidByPoorer$Gifts", "payers", "I", false)
def tyX1 : Nat → FieldType := fun k => match k with
  | 0 => .object "PaidByPoorer$Town"
  | 1 => .int
  | _ => .int
abbrev wsX10 : List Cond := u_ws RX1 TX1 3
theorem nmX1 : ∀ a, a < 3 → ∀ b, b < 3 → a ≠ b → (TX1 a).2.1 ≠ (TX1 b).2.1 := by decide +kernel
theorem tyX1_ok : ∀ k, k < 3 → parseFieldDescriptor (TX1 k).2.2.1 = some (tyX1 k) := by decide +kernel
abbrev cX1_init : ByteArray := prog_3_method_1_code
def yX1_init : MethodName := ⟨RX1, "<init>", "()V"⟩
abbrev cX1_leastGift : ByteArray := prog_3_method_2_code
def yX1_leastGift : MethodName := ⟨RX1, "leastGift", "(LPaidByPoorer$Town;I)I"⟩
abbrev cX1_leastLoss : ByteArray := prog_3_method_3_code
def yX1_leastLoss : MethodName := ⟨RX1, "leastLoss", "(LPaidByPoorer$Town;II)I"⟩
abbrev cX1_payersAfter : ByteArray := prog_3_method_4_code
def yX1_payersAfter : MethodName := ⟨RX1, "payersAfter", "(IIII)I"⟩
def RX2 : String := "PaidByPoorer$Parts"
def TX2 : u_T := fun k => match k with
  | 0 => ("PaidByPoorer$Parts", "town", "LPaidByPoorer$Town;", true)
  | 1 => ("PaidByPoorer$Parts", "payers", "[I", true)
  | _ => ("PaidByPoorer$Parts", "these", "I", false)
def tyX2 : Nat → FieldType := fun k => match k with
  | 0 => .object "PaidByPoorer$Town"
  | 1 => .array .int
  | _ => .int
abbrev wsX20 : List Cond := u_ws RX2 TX2 3
theorem nmX2 : ∀ a, a < 3 → ∀ b, b < 3 → a ≠ b → (TX2 a).2.1 ≠ (TX2 b).2.1 := by decide +kernel
theorem tyX2_ok : ∀ k, k < 3 → parseFieldDescriptor (TX2 k).2.2.1 = some (tyX2 k) := by decide +kernel
abbrev cX2_init : ByteArray := prog_4_method_1_code
def yX2_init : MethodName := ⟨RX2, "<init>", "()V"⟩
abbrev cX2_look : ByteArray := prog_4_method_2_code
def yX2_look : MethodName := ⟨RX2, "look", "(LPaidByPoorer$Town;II)V"⟩
abbrev cX2_countedOf : ByteArray := prog_4_method_3_code
def yX2_countedOf : MethodName := ⟨RX2, "countedOf", "(I)I"⟩
abbrev cX2_debtsBehind : ByteArray := prog_4_method_4_code
def yX2_debtsBehind : MethodName := ⟨RX2, "debtsBehind", "(I)I"⟩
abbrev cX2_sumsBehind : ByteArray := prog_4_method_5_code
def yX2_sumsBehind : MethodName := ⟨RX2, "sumsBehind", "(I)I"⟩
abbrev cX2_leastBar : ByteArray := prog_4_method_6_code
def yX2_leastBar : MethodName := ⟨RX2, "leastBar", "()I"⟩
abbrev cX2_greatestFlow : ByteArray := prog_4_method_7_code
def yX2_greatestFlow : MethodName := ⟨RX2, "greatestFlow", "()I"⟩
abbrev cX2_tooGreat : ByteArray := prog_4_method_8_code
def yX2_tooGreat : MethodName := ⟨RX2, "tooGreat", "()I"⟩
def RX3 : String := "PaidByPoorer$Rule"
def TX3 : u_T := fun k => match k with
  | 0 => ("PaidByPoorer$Rule", "steps", "[I", true)
  | 1 => ("PaidByPoorer$Rule", "values", "[I", true)
  | _ => ("PaidByPoorer$Rule", "size", "I", false)
def tyX3 : Nat → FieldType := fun k => match k with
  | 0 => .array .int
  | 1 => .array .int
  | _ => .int
abbrev wsX30 : List Cond := u_ws RX3 TX3 3
theorem nmX3 : ∀ a, a < 3 → ∀ b, b < 3 → a ≠ b → (TX3 a).2.1 ≠ (TX3 b).2.1 := by decide +kernel
theorem tyX3_ok : ∀ k, k < 3 → parseFieldDescriptor (TX3 k).2.2.1 = some (tyX3 k) := by decide +kernel
abbrev cX3_init : ByteArray := prog_5_method_1_code
def yX3_init : MethodName := ⟨RX3, "<init>", "()V"⟩
abbrev cX3_take : ByteArray := prog_5_method_2_code
def yX3_take : MethodName := ⟨RX3, "take", "(LPaidByPoorer$RuleReader;)V"⟩
abbrev cX3_chosen : ByteArray := prog_5_method_3_code
def yX3_chosen : MethodName := ⟨RX3, "chosen", "(LPaidByPoorer$Town;I)I"⟩
abbrev cX3_worth : ByteArray := prog_5_method_4_code
def yX3_worth : MethodName := ⟨RX3, "worth", "(LPaidByPoorer$Town;II)I"⟩
abbrev cX3_thing : ByteArray := prog_5_method_5_code
def yX3_thing : MethodName := ⟨RX3, "thing", "(ILPaidByPoorer$Town;II)I"⟩
abbrev cX3_done : ByteArray := prog_5_method_6_code
def yX3_done : MethodName := ⟨RX3, "done", "(III)I"⟩
def RX4 : String := "PaidByPoorer$RuleReader"
def TX4 : u_T := fun k => match k with
  | 0 => ("PaidByPoorer$RuleReader", "steps", "[I", true)
  | 1 => ("PaidByPoorer$RuleReader", "waiting", "[I", true)
  | 2 => ("PaidByPoorer$RuleReader", "isCompared", "[Z", true)
  | 3 => ("PaidByPoorer$RuleReader", "size", "I", false)
  | 4 => ("PaidByPoorer$RuleReader", "waitings", "I", false)
  | 5 => ("PaidByPoorer$RuleReader", "depth", "I", false)
  | 6 => ("PaidByPoorer$RuleReader", "digits", "I", false)
  | _ => ("PaidByPoorer$RuleReader", "wantsThing", "Z", false)
def tyX4 : Nat → FieldType := fun k => match k with
  | 0 => .array .int
  | 1 => .array .int
  | 2 => .array .boolean
  | 3 => .int
  | 4 => .int
  | 5 => .int
  | 6 => .int
  | _ => .boolean
abbrev wsX40 : List Cond := u_ws RX4 TX4 8
theorem nmX4 : ∀ a, a < 8 → ∀ b, b < 8 → a ≠ b → (TX4 a).2.1 ≠ (TX4 b).2.1 := by decide +kernel
theorem tyX4_ok : ∀ k, k < 8 → parseFieldDescriptor (TX4 k).2.2.1 = some (tyX4 k) := by decide +kernel
abbrev cX4_init : ByteArray := prog_6_method_1_code
def yX4_init : MethodName := ⟨RX4, "<init>", "()V"⟩
abbrev cX4_read : ByteArray := prog_6_method_2_code
def yX4_read : MethodName := ⟨RX4, "read", "(LPaidByPoorer$Text;)I"⟩
abbrev cX4_start : ByteArray := prog_6_method_3_code
def yX4_start : MethodName := ⟨RX4, "start", "()V"⟩
abbrev cX4_takesThing : ByteArray := prog_6_method_4_code
def yX4_takesThing : MethodName := ⟨RX4, "takesThing", "(I)Z"⟩
abbrev cX4_takesBehind : ByteArray := prog_6_method_5_code
def yX4_takesBehind : MethodName := ⟨RX4, "takesBehind", "(I)Z"⟩
abbrev cX4_lengthens : ByteArray := prog_6_method_6_code
def yX4_lengthens : MethodName := ⟨RX4, "lengthens", "(I)Z"⟩
abbrev cX4_opens : ByteArray := prog_6_method_7_code
def yX4_opens : MethodName := ⟨RX4, "opens", "()Z"⟩
abbrev cX4_closes : ByteArray := prog_6_method_8_code
def yX4_closes : MethodName := ⟨RX4, "closes", "()Z"⟩
abbrev cX4_strength : ByteArray := prog_6_method_9_code
def yX4_strength : MethodName := ⟨RX4, "strength", "(I)I"⟩
abbrev cX4_settle : ByteArray := prog_6_method_10_code
def yX4_settle : MethodName := ⟨RX4, "settle", "(I)V"⟩
abbrev cX4_await : ByteArray := prog_6_method_11_code
def yX4_await : MethodName := ⟨RX4, "await", "(I)V"⟩
abbrev cX4_put : ByteArray := prog_6_method_12_code
def yX4_put : MethodName := ⟨RX4, "put", "(I)V"⟩
def RX5 : String := "PaidByPoorer$States"
def TX5 : u_T := fun k => match k with
  | 0 => ("PaidByPoorer$States", "town", "LPaidByPoorer$Town;", true)
  | 1 => ("PaidByPoorer$States", "low", "[J", true)
  | 2 => ("PaidByPoorer$States", "high", "[J", true)
  | 3 => ("PaidByPoorer$States", "ways", "[J", true)
  | 4 => ("PaidByPoorer$States", "rows", "[J", true)
  | 5 => ("PaidByPoorer$States", "paid", "[I", true)
  | 6 => ("PaidByPoorer$States", "prices", "[I", true)
  | 7 => ("PaidByPoorer$States", "places", "[I", true)
  | 8 => ("PaidByPoorer$States", "before", "[I", true)
  | 9 => ("PaidByPoorer$States", "size", "I", false)
  | 10 => ("PaidByPoorer$States", "these", "I", false)
  | 11 => ("PaidByPoorer$States", "payable", "I", false)
  | 12 => ("PaidByPoorer$States", "due", "I", false)
  | 13 => ("PaidByPoorer$States", "isVisited", "Z", false)
  | _ => ("PaidByPoorer$States", "isTooMany", "Z", false)
def tyX5 : Nat → FieldType := fun k => match k with
  | 0 => .object "PaidByPoorer$Town"
  | 1 => .array .long
  | 2 => .array .long
  | 3 => .array .long
  | 4 => .array .long
  | 5 => .array .int
  | 6 => .array .int
  | 7 => .array .int
  | 8 => .array .int
  | 9 => .int
  | 10 => .int
  | 11 => .int
  | 12 => .int
  | 13 => .boolean
  | _ => .boolean
abbrev wsX50 : List Cond := u_ws RX5 TX5 15
theorem nmX5 : ∀ a, a < 15 → ∀ b, b < 15 → a ≠ b → (TX5 a).2.1 ≠ (TX5 b).2.1 := by decide +kernel
theorem tyX5_ok : ∀ k, k < 15 → parseFieldDescriptor (TX5 k).2.2.1 = some (tyX5 k) := by decide +kernel
abbrev cX5_init : ByteArray := prog_7_method_1_code
def yX5_init : MethodName := ⟨RX5, "<init>", "()V"⟩
abbrev cX5_visit : ByteArray := prog_7_method_2_code
def yX5_visit : MethodName := ⟨RX5, "visit", "(LPaidByPoorer$Town;II)Z"⟩
abbrev cX5_start : ByteArray := prog_7_method_3_code
def yX5_start : MethodName := ⟨RX5, "start", "()V"⟩
abbrev cX5_part : ByteArray := prog_7_method_4_code
def yX5_part : MethodName := ⟨RX5, "part", "(III)J"⟩
abbrev cX5_coinIn : ByteArray := prog_7_method_5_code
def yX5_coinIn : MethodName := ⟨RX5, "coinIn", "(II)I"⟩
abbrev cX5_load : ByteArray := prog_7_method_6_code
def yX5_load : MethodName := ⟨RX5, "load", "(I)V"⟩
abbrev cX5_leave : ByteArray := prog_7_method_7_code
def yX5_leave : MethodName := ⟨RX5, "leave", "(I)V"⟩
abbrev cX5_step : ByteArray := prog_7_method_8_code
def yX5_step : MethodName := ⟨RX5, "step", "(III)V"⟩
abbrev cX5_rank : ByteArray := prog_7_method_9_code
def yX5_rank : MethodName := ⟨RX5, "rank", "(II)I"⟩
abbrev cX5_find : ByteArray := prog_7_method_10_code
def yX5_find : MethodName := ⟨RX5, "find", "(IJJ)I"⟩
abbrev cX5_newState : ByteArray := prog_7_method_11_code
def yX5_newState : MethodName := ⟨RX5, "newState", "(IIJJ)I"⟩
abbrev cX5_mostPaid : ByteArray := prog_7_method_12_code
def yX5_mostPaid : MethodName := ⟨RX5, "mostPaid", "()I"⟩
abbrev cX5_greatestSum : ByteArray := prog_7_method_13_code
def yX5_greatestSum : MethodName := ⟨RX5, "greatestSum", "()I"⟩
abbrev cX5_cheapestEnd : ByteArray := prog_7_method_14_code
def yX5_cheapestEnd : MethodName := ⟨RX5, "cheapestEnd", "()I"⟩
abbrev cX5_payment : ByteArray := prog_7_method_15_code
def yX5_payment : MethodName := ⟨RX5, "payment", "(II)I"⟩
abbrev cX5_fullWays : ByteArray := prog_7_method_16_code
def yX5_fullWays : MethodName := ⟨RX5, "fullWays", "()J"⟩
abbrev cX5_allPayers : ByteArray := prog_7_method_17_code
def yX5_allPayers : MethodName := ⟨RX5, "allPayers", "()I"⟩
abbrev cX5_fewestPayers : ByteArray := prog_7_method_18_code
def yX5_fewestPayers : MethodName := ⟨RX5, "fewestPayers", "()I"⟩
abbrev cX5_isFewer : ByteArray := prog_7_method_19_code
def yX5_isFewer : MethodName := ⟨RX5, "isFewer", "(II)Z"⟩
abbrev cX5_payersTo : ByteArray := prog_7_method_20_code
def yX5_payersTo : MethodName := ⟨RX5, "payersTo", "(I)I"⟩
abbrev cX5_got : ByteArray := prog_7_method_21_code
def yX5_got : MethodName := ⟨RX5, "got", "(II)I"⟩
def RX6 : String := "PaidByPoorer$Text"
def TX6 : u_T := fun k => match k with
  | 0 => ("PaidByPoorer$Text", "signs", "[I", true)
  | _ => ("PaidByPoorer$Text", "length", "I", false)
def tyX6 : Nat → FieldType := fun k => match k with
  | 0 => .array .int
  | _ => .int
abbrev wsX60 : List Cond := u_ws RX6 TX6 2
theorem nmX6 : ∀ a, a < 2 → ∀ b, b < 2 → a ≠ b → (TX6 a).2.1 ≠ (TX6 b).2.1 := by decide +kernel
theorem tyX6_ok : ∀ k, k < 2 → parseFieldDescriptor (TX6 k).2.2.1 = some (tyX6 k) := by decide +kernel
abbrev cX6_init : ByteArray := prog_8_method_1_code
def yX6_init : MethodName := ⟨RX6, "<init>", "()V"⟩
abbrev cX6_addFour : ByteArray := prog_8_method_2_code
def yX6_addFour : MethodName := ⟨RX6, "addFour", "(I)Z"⟩
abbrev cX6_cut : ByteArray := prog_8_method_3_code
def yX6_cut : MethodName := ⟨RX6, "cut", "(I)Z"⟩
abbrev cX6_clear : ByteArray := prog_8_method_4_code
def yX6_clear : MethodName := ⟨RX6, "clear", "()V"⟩
abbrev cX6_length : ByteArray := prog_8_method_5_code
def yX6_length : MethodName := ⟨RX6, "length", "()I"⟩
abbrev cX6_at : ByteArray := prog_8_method_6_code
def yX6_at : MethodName := ⟨RX6, "at", "(I)I"⟩
def RX7 : String := "PaidByPoorer$Told"
def TX7 : u_T := fun k => match k with
  | 0 => ("PaidByPoorer$Told", "numbers", "[J", true)
  | _ => ("PaidByPoorer$Told", "size", "I", false)
def tyX7 : Nat → FieldType := fun k => match k with
  | 0 => .array .long
  | _ => .int
abbrev wsX70 : List Cond := u_ws RX7 TX7 2
theorem nmX7 : ∀ a, a < 2 → ∀ b, b < 2 → a ≠ b → (TX7 a).2.1 ≠ (TX7 b).2.1 := by decide +kernel
theorem tyX7_ok : ∀ k, k < 2 → parseFieldDescriptor (TX7 k).2.2.1 = some (tyX7 k) := by decide +kernel
abbrev cX7_init : ByteArray := prog_9_method_1_code
def yX7_init : MethodName := ⟨RX7, "<init>", "()V"⟩
abbrev cX7_clear : ByteArray := prog_9_method_2_code
def yX7_clear : MethodName := ⟨RX7, "clear", "()V"⟩
abbrev cX7_add : ByteArray := prog_9_method_3_code
def yX7_add : MethodName := ⟨RX7, "add", "(J)V"⟩
abbrev cX7_tell : ByteArray := prog_9_method_4_code
def yX7_tell : MethodName := ⟨RX7, "tell", "(J)V"⟩
abbrev cX7_tell_ : ByteArray := prog_9_method_5_code
def yX7_tell_ : MethodName := ⟨RX7, "tell", "(JJ)V"⟩
def RX8 : String := "PaidByPoorer$Town"
def TX8 : u_T := fun k => match k with
  | 0 => ("PaidByPoorer$Town", "coin", "[I", true)
  | 1 => ("PaidByPoorer$Town", "asks", "[I", true)
  | 2 => ("PaidByPoorer$Town", "kind", "[I", true)
  | 3 => ("PaidByPoorer$Town", "hidden", "[I", true)
  | 4 => ("PaidByPoorer$Town", "atNoon", "[I", true)
  | 5 => ("PaidByPoorer$Town", "list", "[I", true)
  | 6 => ("PaidByPoorer$Town", "owes", "[I", true)
  | 7 => ("PaidByPoorer$Town", "gets", "[I", true)
  | 8 => ("PaidByPoorer$Town", "sums", "[I", true)
  | 9 => ("PaidByPoorer$Town", "dues", "[I", true)
  | 10 => ("PaidByPoorer$Town", "stand", "[I", true)
  | 11 => ("PaidByPoorer$Town", "payer", "[I", true)
  | 12 => ("PaidByPoorer$Town", "favours", "[I", true)
  | 13 => ("PaidByPoorer$Town", "lent", "[I", true)
  | 14 => ("PaidByPoorer$Town", "laws", "[I", true)
  | 15 => ("PaidByPoorer$Town", "people", "I", false)
  | 16 => ("PaidByPoorer$Town", "debts", "I", false)
  | 17 => ("PaidByPoorer$Town", "lentCount", "I", false)
  | 18 => ("PaidByPoorer$Town", "day", "I", false)
  | _ => ("PaidByPoorer$Town", "r", "I", false)
def tyX8 : Nat → FieldType := fun k => match k with
  | 0 => .array .int
  | 1 => .array .int
  | 2 => .array .int
  | 3 => .array .int
  | 4 => .array .int
  | 5 => .array .int
  | 6 => .array .int
  | 7 => .array .int
  | 8 => .array .int
  | 9 => .array .int
  | 10 => .array .int
  | 11 => .array .int
  | 12 => .array .int
  | 13 => .array .int
  | 14 => .array .int
  | 15 => .int
  | 16 => .int
  | 17 => .int
  | 18 => .int
  | _ => .int
abbrev wsX80 : List Cond := u_ws RX8 TX8 20
theorem nmX8 : ∀ a, a < 20 → ∀ b, b < 20 → a ≠ b → (TX8 a).2.1 ≠ (TX8 b).2.1 := by decide +kernel
theorem tyX8_ok : ∀ k, k < 20 → parseFieldDescriptor (TX8 k).2.2.1 = some (tyX8 k) := by decide +kernel
abbrev cX8_init : ByteArray := prog_10_method_1_code
def yX8_init : MethodName := ⟨RX8, "<init>", "()V"⟩
abbrev cX8_copyFrom : ByteArray := prog_10_method_2_code
def yX8_copyFrom : MethodName := ⟨RX8, "copyFrom", "(LPaidByPoorer$Town;)V"⟩
abbrev cX8_isPerson : ByteArray := prog_10_method_3_code
def yX8_isPerson : MethodName := ⟨RX8, "isPerson", "(I)Z"⟩
abbrev cX8_isDebt : ByteArray := prog_10_method_4_code
def yX8_isDebt : MethodName := ⟨RX8, "isDebt", "(I)Z"⟩
abbrev cX8_isOpen : ByteArray := prog_10_method_5_code
def yX8_isOpen : MethodName := ⟨RX8, "isOpen", "(I)Z"⟩
abbrev cX8_addPerson : ByteArray := prog_10_method_6_code
def yX8_addPerson : MethodName := ⟨RX8, "addPerson", "(IIZ)Z"⟩
abbrev cX8_addDebt : ByteArray := prog_10_method_7_code
def yX8_addDebt : MethodName := ⟨RX8, "addDebt", "(IIII)Z"⟩
abbrev cX8_everybody : ByteArray := prog_10_method_8_code
def yX8_everybody : MethodName := ⟨RX8, "everybody", "()I"⟩
abbrev cX8_counted : ByteArray := prog_10_method_9_code
def yX8_counted : MethodName := ⟨RX8, "counted", "(I)I"⟩
abbrev cX8_countList : ByteArray := prog_10_method_10_code
def yX8_countList : MethodName := ⟨RX8, "countList", "()I"⟩
abbrev cX8_makeList : ByteArray := prog_10_method_11_code
def yX8_makeList : MethodName := ⟨RX8, "makeList", "()V"⟩
abbrev cX8_belowBits : ByteArray := prog_10_method_12_code
def yX8_belowBits : MethodName := ⟨RX8, "belowBits", "(I)I"⟩
abbrev cX8_greatestUnder : ByteArray := prog_10_method_13_code
def yX8_greatestUnder : MethodName := ⟨RX8, "greatestUnder", "(I)I"⟩
abbrev cX8_outsiders : ByteArray := prog_10_method_14_code
def yX8_outsiders : MethodName := ⟨RX8, "outsiders", "(I)I"⟩
abbrev cX8_payers : ByteArray := prog_10_method_15_code
def yX8_payers : MethodName := ⟨RX8, "payers", "(I)I"⟩
abbrev cX8_canPay : ByteArray := prog_10_method_16_code
def yX8_canPay : MethodName := ⟨RX8, "canPay", "(II)Z"⟩
abbrev cX8_price : ByteArray := prog_10_method_17_code
def yX8_price : MethodName := ⟨RX8, "price", "(II)I"⟩
abbrev cX8_shift : ByteArray := prog_10_method_18_code
def yX8_shift : MethodName := ⟨RX8, "shift", "(III)V"⟩
abbrev cX8_makePayment : ByteArray := prog_10_method_19_code
def yX8_makePayment : MethodName := ⟨RX8, "makePayment", "(II)I"⟩
abbrev cX8_unmakePayment : ByteArray := prog_10_method_20_code
def yX8_unmakePayment : MethodName := ⟨RX8, "unmakePayment", "(I)V"⟩
abbrev cX8_setOff : ByteArray := prog_10_method_21_code
def yX8_setOff : MethodName := ⟨RX8, "setOff", "(II)I"⟩
abbrev cX8_canGive : ByteArray := prog_10_method_22_code
def yX8_canGive : MethodName := ⟨RX8, "canGive", "(III)Z"⟩
abbrev cX8_noteLent : ByteArray := prog_10_method_23_code
def yX8_noteLent : MethodName := ⟨RX8, "noteLent", "(III)V"⟩
abbrev cX8_giveLastBack : ByteArray := prog_10_method_24_code
def yX8_giveLastBack : MethodName := ⟨RX8, "giveLastBack", "()Z"⟩
abbrev cX8_draw : ByteArray := prog_10_method_25_code
def yX8_draw : MethodName := ⟨RX8, "draw", "(I)I"⟩
abbrev cX8_openOwedBy : ByteArray := prog_10_method_26_code
def yX8_openOwedBy : MethodName := ⟨RX8, "openOwedBy", "(I)I"⟩
abbrev cX8_openOwedTo : ByteArray := prog_10_method_27_code
def yX8_openOwedTo : MethodName := ⟨RX8, "openOwedTo", "(I)I"⟩
abbrev cX8_openDebtsOf : ByteArray := prog_10_method_28_code
def yX8_openDebtsOf : MethodName := ⟨RX8, "openDebtsOf", "(I)I"⟩
abbrev cX8_openDebts : ByteArray := prog_10_method_29_code
def yX8_openDebts : MethodName := ⟨RX8, "openDebts", "()I"⟩
abbrev cX8_openDueBy : ByteArray := prog_10_method_30_code
def yX8_openDueBy : MethodName := ⟨RX8, "openDueBy", "(I)I"⟩
abbrev cX8_hasOpenDebt : ByteArray := prog_10_method_31_code
def yX8_hasOpenDebt : MethodName := ⟨RX8, "hasOpenDebt", "(II)Z"⟩
abbrev cX8_sumOf : ByteArray := prog_10_method_32_code
def yX8_sumOf : MethodName := ⟨RX8, "sumOf", "(I)I"⟩
abbrev cX8_favoursOwedBy : ByteArray := prog_10_method_33_code
def yX8_favoursOwedBy : MethodName := ⟨RX8, "favoursOwedBy", "(I)I"⟩
abbrev cX8_favoursOwedTo : ByteArray := prog_10_method_34_code
def yX8_favoursOwedTo : MethodName := ⟨RX8, "favoursOwedTo", "(I)I"⟩
abbrev cX8_allCoin : ByteArray := prog_10_method_35_code
def yX8_allCoin : MethodName := ⟨RX8, "allCoin", "()I"⟩
abbrev cX8_isLike : ByteArray := prog_10_method_36_code
def yX8_isLike : MethodName := ⟨RX8, "isLike", "(LPaidByPoorer$Town;)Z"⟩
def RX9 : String := "PaidByPoorer$TownReader"
def TX9 : u_T := fun k => match k with
  | 0 => ("PaidByPoorer$TownReader", "limit", "I", false)
  | _ => ("PaidByPoorer$TownReader", "place", "I", false)
def tyX9 : Nat → FieldType := fun k => match k with
  | 0 => .int
  | _ => .int
abbrev wsX90 : List Cond := u_ws RX9 TX9 2
theorem nmX9 : ∀ a, a < 2 → ∀ b, b < 2 → a ≠ b → (TX9 a).2.1 ≠ (TX9 b).2.1 := by decide +kernel
theorem tyX9_ok : ∀ k, k < 2 → parseFieldDescriptor (TX9 k).2.2.1 = some (tyX9 k) := by decide +kernel
abbrev cX9_init : ByteArray := prog_11_method_1_code
def yX9_init : MethodName := ⟨RX9, "<init>", "()V"⟩
abbrev cX9_read : ByteArray := prog_11_method_2_code
def yX9_read : MethodName := ⟨RX9, "read", "(LPaidByPoorer$Text;LPaidByPoorer$Town;)I"⟩
abbrev cX9_peek : ByteArray := prog_11_method_3_code
def yX9_peek : MethodName := ⟨RX9, "peek", "(LPaidByPoorer$Text;)I"⟩
abbrev cX9_takes : ByteArray := prog_11_method_4_code
def yX9_takes : MethodName := ⟨RX9, "takes", "(LPaidByPoorer$Text;C)Z"⟩
abbrev cX9_isDigit : ByteArray := prog_11_method_5_code
def yX9_isDigit : MethodName := ⟨RX9, "isDigit", "(I)Z"⟩
abbrev cX9_readLine : ByteArray := prog_11_method_6_code
def yX9_readLine : MethodName := ⟨RX9, "readLine", "(LPaidByPoorer$Text;LPaidByPoorer$Town;)Z"⟩
abbrev cX9_readPerson : ByteArray := prog_11_method_7_code
def yX9_readPerson : MethodName := ⟨RX9, "readPerson", "(LPaidByPoorer$Text;LPaidByPoorer$Town;)Z"⟩
abbrev cX9_readDebt : ByteArray := prog_11_method_8_code
def yX9_readDebt : MethodName := ⟨RX9, "readDebt", "(LPaidByPoorer$Text;LPaidByPoorer$Town;)Z"⟩
abbrev cX9_person : ByteArray := prog_11_method_9_code
def yX9_person : MethodName := ⟨RX9, "person", "(LPaidByPoorer$Text;LPaidByPoorer$Town;I)I"⟩
abbrev cX9_number : ByteArray := prog_11_method_10_code
def yX9_number : MethodName := ⟨RX9, "number", "(LPaidByPoorer$Text;I)I"⟩
def RX10 : String := "PaidByPoorer"
def TX10 : u_T := fun k => match k with
  | 0 => ("PaidByPoorer", "text", "LPaidByPoorer$Text;", true)
  | 1 => ("PaidByPoorer", "told", "LPaidByPoorer$Told;", true)
  | 2 => ("PaidByPoorer", "now", "LPaidByPoorer$Town;", true)
  | 3 => ("PaidByPoorer", "trial", "LPaidByPoorer$Town;", true)
  | 4 => ("PaidByPoorer", "keptFirst", "LPaidByPoorer$Town;", true)
  | 5 => ("PaidByPoorer", "keptSecond", "LPaidByPoorer$Town;", true)
  | 6 => ("PaidByPoorer", "townReader", "LPaidByPoorer$TownReader;", true)
  | 7 => ("PaidByPoorer", "rule", "LPaidByPoorer$Rule;", true)
  | 8 => ("PaidByPoorer", "ruleReader", "LPaidByPoorer$RuleReader;", true)
  | 9 => ("PaidByPoorer", "gifts", "LPaidByPoorer$Gifts;", true)
  | 10 => ("PaidByPoorer", "states", "LPaidByPoorer$States;", true)
  | 11 => ("PaidByPoorer", "parts", "LPaidByPoorer$Parts;", true)
  | 12 => ("PaidByPoorer", "days", "LPaidByPoorer$Days;", true)
  | 13 => ("PaidByPoorer", "undoable", "[I", true)
  | 14 => ("PaidByPoorer", "undoables", "I", false)
  | 15 => ("PaidByPoorer", "isFirstKept", "Z", false)
  | _ => ("PaidByPoorer", "isSecondKept", "Z", false)
def tyX10 : Nat → FieldType := fun k => match k with
  | 0 => .object "PaidByPoorer$Text"
  | 1 => .object "PaidByPoorer$Told"
  | 2 => .object "PaidByPoorer$Town"
  | 3 => .object "PaidByPoorer$Town"
  | 4 => .object "PaidByPoorer$Town"
  | 5 => .object "PaidByPoorer$Town"
  | 6 => .object "PaidByPoorer$TownReader"
  | 7 => .object "PaidByPoorer$Rule"
  | 8 => .object "PaidByPoorer$RuleReader"
  | 9 => .object "PaidByPoorer$Gifts"
  | 10 => .object "PaidByPoorer$States"
  | 11 => .object "PaidByPoorer$Parts"
  | 12 => .object "PaidByPoorer$Days"
  | 13 => .array .int
  | 14 => .int
  | 15 => .boolean
  | _ => .boolean
abbrev wsX100 : List Cond := u_ws RX10 TX10 17
theorem nmX10 : ∀ a, a < 17 → ∀ b, b < 17 → a ≠ b → (TX10 a).2.1 ≠ (TX10 b).2.1 := by decide +kernel
theorem tyX10_ok : ∀ k, k < 17 → parseFieldDescriptor (TX10 k).2.2.1 = some (tyX10 k) := by decide +kernel
abbrev cX10_init : ByteArray := prog_1_method_1_code
def yX10_init : MethodName := ⟨RX10, "<init>", "()V"⟩
abbrev cX10_sign : ByteArray := prog_1_method_2_code
def yX10_sign : MethodName := ⟨RX10, "sign", "(I)I"⟩
abbrev cX10_end : ByteArray := prog_1_method_3_code
def yX10_end : MethodName := ⟨RX10, "end", "(I)Z"⟩
abbrev cX10_town : ByteArray := prog_1_method_4_code
def yX10_town : MethodName := ⟨RX10, "town", "()I"⟩
abbrev cX10_rule : ByteArray := prog_1_method_5_code
def yX10_rule : MethodName := ⟨RX10, "rule", "()I"⟩
abbrev cX10_of : ByteArray := prog_1_method_6_code
def yX10_of : MethodName := ⟨RX10, "of", "(II)I"⟩
abbrev cX10_debt : ByteArray := prog_1_method_7_code
def yX10_debt : MethodName := ⟨RX10, "debt", "(II)I"⟩
abbrev cX10_law : ByteArray := prog_1_method_8_code
def yX10_law : MethodName := ⟨RX10, "law", "(II)I"⟩
abbrev cX10_greatestLaw : ByteArray := prog_1_method_9_code
def yX10_greatestLaw : MethodName := ⟨RX10, "greatestLaw", "(I)I"⟩
abbrev cX10_sheet : ByteArray := prog_1_method_10_code
def yX10_sheet : MethodName := ⟨RX10, "sheet", "(IIII)I"⟩
abbrev cX10_entry : ByteArray := prog_1_method_11_code
def yX10_entry : MethodName := ⟨RX10, "entry", "(II)I"⟩
abbrev cX10_noon : ByteArray := prog_1_method_12_code
def yX10_noon : MethodName := ⟨RX10, "noon", "()I"⟩
abbrev cX10_hide : ByteArray := prog_1_method_13_code
def yX10_hide : MethodName := ⟨RX10, "hide", "(II)I"⟩
abbrev cX10_search : ByteArray := prog_1_method_14_code
def yX10_search : MethodName := ⟨RX10, "search", "(II)I"⟩
abbrev cX10_below : ByteArray := prog_1_method_15_code
def yX10_below : MethodName := ⟨RX10, "below", "(I)I"⟩
abbrev cX10_may : ByteArray := prog_1_method_16_code
def yX10_may : MethodName := ⟨RX10, "may", "(I)I"⟩
abbrev cX10_tellCheapest : ByteArray := prog_1_method_17_code
def yX10_tellCheapest : MethodName := ⟨RX10, "tellCheapest", "(II)V"⟩
abbrev cX10_willing : ByteArray := prog_1_method_18_code
def yX10_willing : MethodName := ⟨RX10, "willing", "(I)I"⟩
abbrev cX10_pay : ByteArray := prog_1_method_19_code
def yX10_pay : MethodName := ⟨RX10, "pay", "(II)I"⟩
abbrev cX10_undo : ByteArray := prog_1_method_20_code
def yX10_undo : MethodName := ⟨RX10, "undo", "()I"⟩
abbrev cX10_forgetPayments : ByteArray := prog_1_method_21_code
def yX10_forgetPayments : MethodName := ⟨RX10, "forgetPayments", "()V"⟩
abbrev cX10_judge : ByteArray := prog_1_method_22_code
def yX10_judge : MethodName := ⟨RX10, "judge", "(II)I"⟩
abbrev cX10_favour : ByteArray := prog_1_method_23_code
def yX10_favour : MethodName := ⟨RX10, "favour", "(II)I"⟩
abbrev cX10_nets : ByteArray := prog_1_method_24_code
def yX10_nets : MethodName := ⟨RX10, "nets", "()I"⟩
abbrev cX10_give : ByteArray := prog_1_method_25_code
def yX10_give : MethodName := ⟨RX10, "give", "(III)Z"⟩
abbrev cX10_lend : ByteArray := prog_1_method_26_code
def yX10_lend : MethodName := ⟨RX10, "lend", "(III)I"⟩
abbrev cX10_back : ByteArray := prog_1_method_27_code
def yX10_back : MethodName := ⟨RX10, "back", "()I"⟩
abbrev cX10_gift : ByteArray := prog_1_method_28_code
def yX10_gift : MethodName := ⟨RX10, "gift", "(I)I"⟩
abbrev cX10_poorer : ByteArray := prog_1_method_29_code
def yX10_poorer : MethodName := ⟨RX10, "poorer", "(II)I"⟩
abbrev cX10_isDay : ByteArray := prog_1_method_30_code
def yX10_isDay : MethodName := ⟨RX10, "isDay", "(I)Z"⟩
abbrev cX10_visit : ByteArray := prog_1_method_31_code
def yX10_visit : MethodName := ⟨RX10, "visit", "(I)Z"⟩
abbrev cX10_most : ByteArray := prog_1_method_32_code
def yX10_most : MethodName := ⟨RX10, "most", "(I)I"⟩
abbrev cX10_all : ByteArray := prog_1_method_33_code
def yX10_all : MethodName := ⟨RX10, "all", "(I)I"⟩
abbrev cX10_tellPayments : ByteArray := prog_1_method_34_code
def yX10_tellPayments : MethodName := ⟨RX10, "tellPayments", "(I)V"⟩
abbrev cX10_never : ByteArray := prog_1_method_35_code
def yX10_never : MethodName := ⟨RX10, "never", "(I)I"⟩
abbrev cX10_ways : ByteArray := prog_1_method_36_code
def yX10_ways : MethodName := ⟨RX10, "ways", "(I)J"⟩
abbrev cX10_ahead : ByteArray := prog_1_method_37_code
def yX10_ahead : MethodName := ⟨RX10, "ahead", "(II)I"⟩
abbrev cX10_fewest : ByteArray := prog_1_method_38_code
def yX10_fewest : MethodName := ⟨RX10, "fewest", "(I)I"⟩
abbrev cX10_sorts : ByteArray := prog_1_method_39_code
def yX10_sorts : MethodName := ⟨RX10, "sorts", "(I)I"⟩
abbrev cX10_flow : ByteArray := prog_1_method_40_code
def yX10_flow : MethodName := ⟨RX10, "flow", "(I)I"⟩
abbrev cX10_proof : ByteArray := prog_1_method_41_code
def yX10_proof : MethodName := ⟨RX10, "proof", "(I)I"⟩
abbrev cX10_gap : ByteArray := prog_1_method_42_code
def yX10_gap : MethodName := ⟨RX10, "gap", "(II)I"⟩
abbrev cX10_lowest : ByteArray := prog_1_method_43_code
def yX10_lowest : MethodName := ⟨RX10, "lowest", "()I"⟩
abbrev cX10_lapse : ByteArray := prog_1_method_44_code
def yX10_lapse : MethodName := ⟨RX10, "lapse", "(I)I"⟩
abbrev cX10_isSpan : ByteArray := prog_1_method_45_code
def yX10_isSpan : MethodName := ⟨RX10, "isSpan", "(I)Z"⟩
abbrev cX10_days : ByteArray := prog_1_method_46_code
def yX10_days : MethodName := ⟨RX10, "days", "(I)I"⟩
abbrev cX10_best : ByteArray := prog_1_method_47_code
def yX10_best : MethodName := ⟨RX10, "best", "(I)I"⟩
abbrev cX10_pays : ByteArray := prog_1_method_48_code
def yX10_pays : MethodName := ⟨RX10, "pays", "(III)I"⟩
abbrev cX10_wealthBehind : ByteArray := prog_1_method_49_code
def yX10_wealthBehind : MethodName := ⟨RX10, "wealthBehind", "(III)I"⟩
abbrev cX10_spread : ByteArray := prog_1_method_50_code
def yX10_spread : MethodName := ⟨RX10, "spread", "()I"⟩
abbrev cX10_tellFraction : ByteArray := prog_1_method_51_code
def yX10_tellFraction : MethodName := ⟨RX10, "tellFraction", "(JJ)V"⟩
abbrev cX10_commonMeasure : ByteArray := prog_1_method_52_code
def yX10_commonMeasure : MethodName := ⟨RX10, "commonMeasure", "(JJ)J"⟩
abbrev cX10_today : ByteArray := prog_1_method_53_code
def yX10_today : MethodName := ⟨RX10, "today", "()I"⟩
abbrev cX10_seed : ByteArray := prog_1_method_54_code
def yX10_seed : MethodName := ⟨RX10, "seed", "(I)I"⟩
abbrev cX10_keep : ByteArray := prog_1_method_55_code
def yX10_keep : MethodName := ⟨RX10, "keep", "(I)Z"⟩
abbrev cX10_again : ByteArray := prog_1_method_56_code
def yX10_again : MethodName := ⟨RX10, "again", "(I)Z"⟩
abbrev cX10_takeAgain : ByteArray := prog_1_method_57_code
def yX10_takeAgain : MethodName := ⟨RX10, "takeAgain", "(LPaidByPoorer$Town;)Z"⟩
abbrev cX10_count : ByteArray := prog_1_method_58_code
def yX10_count : MethodName := ⟨RX10, "count", "(I)I"⟩
abbrev cX10_row : ByteArray := prog_1_method_59_code
def yX10_row : MethodName := ⟨RX10, "row", "(I)J"⟩
def RX11 : String := "PaidByPoorerModel"
def TX11 : u_T := fun k => match k with
  | 0 => ("PaidByPoorerModel", "people", "I", false)
  | 1 => ("PaidByPoorerModel", "coin", "[I", true)
  | 2 => ("PaidByPoorerModel", "asks", "[I", true)
  | 3 => ("PaidByPoorerModel", "isKind", "[Z", true)
  | 4 => ("PaidByPoorerModel", "hidden", "[I", true)
  | 5 => ("PaidByPoorerModel", "noon", "[I", true)
  | 6 => ("PaidByPoorerModel", "favours", "[I", true)
  | 7 => ("PaidByPoorerModel", "debts", "I", false)
  | 8 => ("PaidByPoorerModel", "owes", "[I", true)
  | 9 => ("PaidByPoorerModel", "gets", "[I", true)
  | 10 => ("PaidByPoorerModel", "sums", "[I", true)
  | 11 => ("PaidByPoorerModel", "due", "[I", true)
  | 12 => ("PaidByPoorerModel", "state", "[I", true)
  | 13 => ("PaidByPoorerModel", "payer", "[I", true)
  | 14 => ("PaidByPoorerModel", "laws", "[I", true)
  | 15 => ("PaidByPoorerModel", "today", "I", false)
  | 16 => ("PaidByPoorerModel", "random", "I", false)
  | 17 => ("PaidByPoorerModel", "text", "[B", true)
  | 18 => ("PaidByPoorerModel", "typed", "I", false)
  | 19 => ("PaidByPoorerModel", "row", "[J", true)
  | 20 => ("PaidByPoorerModel", "rowMany", "I", false)
  | 21 => ("PaidByPoorerModel", "thrown", "I", false)
  | 22 => ("PaidByPoorerModel", "read", "[B", false)
  | 23 => ("PaidByPoorerModel", "size", "I", false)
  | 24 => ("PaidByPoorerModel", "top", "I", false)
  | 25 => ("PaidByPoorerModel", "at", "I", false)
  | 26 => ("PaidByPoorerModel", "wrong", "I", false)
  | 27 => ("PaidByPoorerModel", "rule", "[B", true)
  | 28 => ("PaidByPoorerModel", "ruleSize", "I", false)
  | 29 => ("PaidByPoorerModel", "askedOne", "I", false)
  | 30 => ("PaidByPoorerModel", "askedDebt", "I", false)
  | 31 => ("PaidByPoorerModel", "undos", "[I", true)
  | 32 => ("PaidByPoorerModel", "undoMany", "I", false)
  | 33 => ("PaidByPoorerModel", "lent", "[I", true)
  | 34 => ("PaidByPoorerModel", "lentMany", "I", false)
  | 35 => ("PaidByPoorerModel", "paidIn", "[I", true)
  | 36 => ("PaidByPoorerModel", "coinIn", "[I", true)
  | 37 => ("PaidByPoorerModel", "leads", "[I", true)
  | 38 => ("PaidByPoorerModel", "least", "[I", true)
  | 39 => ("PaidByPoorerModel", "parent", "[I", true)
  | 40 => ("PaidByPoorerModel", "by", "[I", true)
  | 41 => ("PaidByPoorerModel", "rank", "[I", true)
  | 42 => ("PaidByPoorerModel", "ways", "[J", true)
  | 43 => ("PaidByPoorerModel", "isOnWay", "[Z", true)
  | 44 => ("PaidByPoorerModel", "states", "I", false)
  | 45 => ("PaidByPoorerModel", "table", "[I", true)
  | 46 => ("PaidByPoorerModel", "wanted", "I", false)
  | 47 => ("PaidByPoorerModel", "coinBy", "[I", true)
  | 48 => ("PaidByPoorerModel", "way", "[I", true)
  | 49 => ("PaidByPoorerModel", "bySort", "[I", true)
  | 50 => ("PaidByPoorerModel", "prices", "I", false)
  | 51 => ("PaidByPoorerModel", "paidSums", "I", false)
  | 52 => ("PaidByPoorerModel", "payments", "I", false)
  | 53 => ("PaidByPoorerModel", "lapsed", "I", false)
  | 54 => ("PaidByPoorerModel", "put", "[I", true)
  | 55 => ("PaidByPoorerModel", "told", "I", false)
  | 56 => ("PaidByPoorerModel", "kept", "[I", true)
  | 57 => ("PaidByPoorerModel", "isKept", "[Z", true)
  | _ => ("PaidByPoorerModel", "keptTold", "[I", true)
def tyX11 : Nat → FieldType := fun k => match k with
  | 0 => .int
  | 1 => .array .int
  | 2 => .array .int
  | 3 => .array .boolean
  | 4 => .array .int
  | 5 => .array .int
  | 6 => .array .int
  | 7 => .int
  | 8 => .array .int
  | 9 => .array .int
  | 10 => .array .int
  | 11 => .array .int
  | 12 => .array .int
  | 13 => .array .int
  | 14 => .array .int
  | 15 => .int
  | 16 => .int
  | 17 => .array .byte
  | 18 => .int
  | 19 => .array .long
  | 20 => .int
  | 21 => .int
  | 22 => .array .byte
  | 23 => .int
  | 24 => .int
  | 25 => .int
  | 26 => .int
  | 27 => .array .byte
  | 28 => .int
  | 29 => .int
  | 30 => .int
  | 31 => .array .int
  | 32 => .int
  | 33 => .array .int
  | 34 => .int
  | 35 => .array .int
  | 36 => .array .int
  | 37 => .array .int
  | 38 => .array .int
  | 39 => .array .int
  | 40 => .array .int
  | 41 => .array .int
  | 42 => .array .long
  | 43 => .array .boolean
  | 44 => .int
  | 45 => .array .int
  | 46 => .int
  | 47 => .array .int
  | 48 => .array .int
  | 49 => .array .int
  | 50 => .int
  | 51 => .int
  | 52 => .int
  | 53 => .int
  | 54 => .array .int
  | 55 => .int
  | 56 => .array .int
  | 57 => .array .boolean
  | _ => .array .int
abbrev wsX110 : List Cond := u_ws RX11 TX11 59
theorem nmX11 : ∀ a, a < 59 → ∀ b, b < 59 → a ≠ b → (TX11 a).2.1 ≠ (TX11 b).2.1 := by decide +kernel
theorem tyX11_ok : ∀ k, k < 59 → parseFieldDescriptor (TX11 k).2.2.1 = some (tyX11 k) := by decide +kernel
abbrev cX11_init : ByteArray := prog_13_method_1_code
def yX11_init : MethodName := ⟨RX11, "<init>", "()V"⟩
abbrev cX11_thrown : ByteArray := prog_13_method_2_code
def yX11_thrown : MethodName := ⟨RX11, "thrown", "()I"⟩
abbrev cX11_in : ByteArray := prog_13_method_3_code
def yX11_in : MethodName := ⟨RX11, "in", "(JJJ)Z"⟩
abbrev cX11_has : ByteArray := prog_13_method_4_code
def yX11_has : MethodName := ⟨RX11, "has", "(II)Z"⟩
abbrev cX11_lost : ByteArray := prog_13_method_5_code
def yX11_lost : MethodName := ⟨RX11, "lost", "()I"⟩
abbrev cX11_tell : ByteArray := prog_13_method_6_code
def yX11_tell : MethodName := ⟨RX11, "tell", "(J)V"⟩
abbrev cX11_isOne : ByteArray := prog_13_method_7_code
def yX11_isOne : MethodName := ⟨RX11, "isOne", "(I)Z"⟩
abbrev cX11_isDebt : ByteArray := prog_13_method_8_code
def yX11_isDebt : MethodName := ⟨RX11, "isDebt", "(I)Z"⟩
abbrev cX11_isOpen : ByteArray := prog_13_method_9_code
def yX11_isOpen : MethodName := ⟨RX11, "isOpen", "(I)Z"⟩
abbrev cX11_counted : ByteArray := prog_13_method_10_code
def yX11_counted : MethodName := ⟨RX11, "counted", "(I)I"⟩
abbrev cX11_sign : ByteArray := prog_13_method_11_code
def yX11_sign : MethodName := ⟨RX11, "sign", "(I)I"⟩
abbrev cX11_end : ByteArray := prog_13_method_12_code
def yX11_end : MethodName := ⟨RX11, "end", "(I)Z"⟩
abbrev cX11_begin : ByteArray := prog_13_method_13_code
def yX11_begin : MethodName := ⟨RX11, "begin", "([BII)V"⟩
abbrev cX11_here : ByteArray := prog_13_method_14_code
def yX11_here : MethodName := ⟨RX11, "here", "()I"⟩
abbrev cX11_fine : ByteArray := prog_13_method_15_code
def yX11_fine : MethodName := ⟨RX11, "fine", "()Z"⟩
abbrev cX11_fault : ByteArray := prog_13_method_16_code
def yX11_fault : MethodName := ⟨RX11, "fault", "(I)V"⟩
abbrev cX11_passes : ByteArray := prog_13_method_17_code
def yX11_passes : MethodName := ⟨RX11, "passes", "(C)Z"⟩
abbrev cX11_need : ByteArray := prog_13_method_18_code
def yX11_need : MethodName := ⟨RX11, "need", "(C)V"⟩
abbrev cX11_number : ByteArray := prog_13_method_19_code
def yX11_number : MethodName := ⟨RX11, "number", "(III)I"⟩
abbrev cX11_town : ByteArray := prog_13_method_20_code
def yX11_town : MethodName := ⟨RX11, "town", "()I"⟩
abbrev cX11_readOne : ByteArray := prog_13_method_21_code
def yX11_readOne : MethodName := ⟨RX11, "readOne", "(I)V"⟩
abbrev cX11_readDebt : ByteArray := prog_13_method_22_code
def yX11_readDebt : MethodName := ⟨RX11, "readDebt", "(II)V"⟩
abbrev cX11_held : ByteArray := prog_13_method_23_code
def yX11_held : MethodName := ⟨RX11, "held", "(I)I"⟩
abbrev cX11_sum : ByteArray := prog_13_method_24_code
def yX11_sum : MethodName := ⟨RX11, "sum", "(I)I"⟩
abbrev cX11_product : ByteArray := prog_13_method_25_code
def yX11_product : MethodName := ⟨RX11, "product", "(I)I"⟩
abbrev cX11_thing : ByteArray := prog_13_method_26_code
def yX11_thing : MethodName := ⟨RX11, "thing", "(I)I"⟩
abbrev cX11_letter : ByteArray := prog_13_method_27_code
def yX11_letter : MethodName := ⟨RX11, "letter", "(I)I"⟩
abbrev cX11_rule : ByteArray := prog_13_method_28_code
def yX11_rule : MethodName := ⟨RX11, "rule", "()I"⟩
abbrev cX11_ruleFor : ByteArray := prog_13_method_29_code
def yX11_ruleFor : MethodName := ⟨RX11, "ruleFor", "(II)I"⟩
abbrev cX11_openOf : ByteArray := prog_13_method_30_code
def yX11_openOf : MethodName := ⟨RX11, "openOf", "(I)I"⟩
abbrev cX11_openTo : ByteArray := prog_13_method_31_code
def yX11_openTo : MethodName := ⟨RX11, "openTo", "(I)I"⟩
abbrev cX11_favoursOwed : ByteArray := prog_13_method_32_code
def yX11_favoursOwed : MethodName := ⟨RX11, "favoursOwed", "(I)I"⟩
abbrev cX11_favoursOwing : ByteArray := prog_13_method_33_code
def yX11_favoursOwing : MethodName := ⟨RX11, "favoursOwing", "(I)I"⟩
abbrev cX11_onList : ByteArray := prog_13_method_34_code
def yX11_onList : MethodName := ⟨RX11, "onList", "(I)I"⟩
abbrev cX11_of : ByteArray := prog_13_method_35_code
def yX11_of : MethodName := ⟨RX11, "of", "(II)I"⟩
abbrev cX11_debt : ByteArray := prog_13_method_36_code
def yX11_debt : MethodName := ⟨RX11, "debt", "(II)I"⟩
abbrev cX11_law : ByteArray := prog_13_method_37_code
def yX11_law : MethodName := ⟨RX11, "law", "(II)I"⟩
abbrev cX11_sheet : ByteArray := prog_13_method_38_code
def yX11_sheet : MethodName := ⟨RX11, "sheet", "(IIII)I"⟩
abbrev cX11_takeNoon : ByteArray := prog_13_method_39_code
def yX11_takeNoon : MethodName := ⟨RX11, "takeNoon", "()V"⟩
abbrev cX11_noon : ByteArray := prog_13_method_40_code
def yX11_noon : MethodName := ⟨RX11, "noon", "()I"⟩
abbrev cX11_hide : ByteArray := prog_13_method_41_code
def yX11_hide : MethodName := ⟨RX11, "hide", "(II)I"⟩
abbrev cX11_search : ByteArray := prog_13_method_42_code
def yX11_search : MethodName := ⟨RX11, "search", "(II)I"⟩
abbrev cX11_isBelow : ByteArray := prog_13_method_43_code
def yX11_isBelow : MethodName := ⟨RX11, "isBelow", "(II)Z"⟩
abbrev cX11_below : ByteArray := prog_13_method_44_code
def yX11_below : MethodName := ⟨RX11, "below", "(I)I"⟩
abbrev cX11_priceOf : ByteArray := prog_13_method_45_code
def yX11_priceOf : MethodName := ⟨RX11, "priceOf", "(II)I"⟩
abbrev cX11_may : ByteArray := prog_13_method_46_code
def yX11_may : MethodName := ⟨RX11, "may", "(II)Z"⟩
abbrev cX11_mayPay : ByteArray := prog_13_method_47_code
def yX11_mayPay : MethodName := ⟨RX11, "mayPay", "(I)I"⟩
abbrev cX11_may_ : ByteArray := prog_13_method_48_code
def yX11_may_ : MethodName := ⟨RX11, "may", "(I)I"⟩
abbrev cX11_willingTo : ByteArray := prog_13_method_49_code
def yX11_willingTo : MethodName := ⟨RX11, "willingTo", "(I)I"⟩
abbrev cX11_willing : ByteArray := prog_13_method_50_code
def yX11_willing : MethodName := ⟨RX11, "willing", "(I)I"⟩
abbrev cX11_make : ByteArray := prog_13_method_51_code
def yX11_make : MethodName := ⟨RX11, "make", "(II)I"⟩
abbrev cX11_pay : ByteArray := prog_13_method_52_code
def yX11_pay : MethodName := ⟨RX11, "pay", "(II)I"⟩
abbrev cX11_unmake : ByteArray := prog_13_method_53_code
def yX11_unmake : MethodName := ⟨RX11, "unmake", "(I)V"⟩
abbrev cX11_undo : ByteArray := prog_13_method_54_code
def yX11_undo : MethodName := ⟨RX11, "undo", "()I"⟩
abbrev cX11_judge : ByteArray := prog_13_method_55_code
def yX11_judge : MethodName := ⟨RX11, "judge", "(II)I"⟩
abbrev cX11_favour : ByteArray := prog_13_method_56_code
def yX11_favour : MethodName := ⟨RX11, "favour", "(II)I"⟩
abbrev cX11_nets : ByteArray := prog_13_method_57_code
def yX11_nets : MethodName := ⟨RX11, "nets", "()I"⟩
abbrev cX11_canGive : ByteArray := prog_13_method_58_code
def yX11_canGive : MethodName := ⟨RX11, "canGive", "(III)Z"⟩
abbrev cX11_give : ByteArray := prog_13_method_59_code
def yX11_give : MethodName := ⟨RX11, "give", "(III)Z"⟩
abbrev cX11_lend : ByteArray := prog_13_method_60_code
def yX11_lend : MethodName := ⟨RX11, "lend", "(III)I"⟩
abbrev cX11_back : ByteArray := prog_13_method_61_code
def yX11_back : MethodName := ⟨RX11, "back", "()I"⟩
abbrev cX11_gift : ByteArray := prog_13_method_62_code
def yX11_gift : MethodName := ⟨RX11, "gift", "(I)I"⟩
abbrev cX11_poorer : ByteArray := prog_13_method_63_code
def yX11_poorer : MethodName := ⟨RX11, "poorer", "(II)I"⟩
abbrev cX11_load : ByteArray := prog_13_method_64_code
def yX11_load : MethodName := ⟨RX11, "load", "(I)V"⟩
abbrev cX11_isState : ByteArray := prog_13_method_65_code
def yX11_isState : MethodName := ⟨RX11, "isState", "(II)Z"⟩
abbrev cX11_stateOf : ByteArray := prog_13_method_66_code
def yX11_stateOf : MethodName := ⟨RX11, "stateOf", "(I)I"⟩
abbrev cX11_isDay : ByteArray := prog_13_method_67_code
def yX11_isDay : MethodName := ⟨RX11, "isDay", "(I)Z"⟩
abbrev cX11_dueBy : ByteArray := prog_13_method_68_code
def yX11_dueBy : MethodName := ⟨RX11, "dueBy", "(I)I"⟩
abbrev cX11_findStates : ByteArray := prog_13_method_69_code
def yX11_findStates : MethodName := ⟨RX11, "findStates", "(I)Z"⟩
abbrev cX11_lead : ByteArray := prog_13_method_70_code
def yX11_lead : MethodName := ⟨RX11, "lead", "(IIII)V"⟩
abbrev cX11_isRowLess : ByteArray := prog_13_method_71_code
def yX11_isRowLess : MethodName := ⟨RX11, "isRowLess", "(II)Z"⟩
abbrev cX11_orderLayer : ByteArray := prog_13_method_72_code
def yX11_orderLayer : MethodName := ⟨RX11, "orderLayer", "(I)V"⟩
abbrev cX11_sumOf : ByteArray := prog_13_method_73_code
def yX11_sumOf : MethodName := ⟨RX11, "sumOf", "(I)I"⟩
abbrev cX11_mostPaid : ByteArray := prog_13_method_74_code
def yX11_mostPaid : MethodName := ⟨RX11, "mostPaid", "()I"⟩
abbrev cX11_most : ByteArray := prog_13_method_75_code
def yX11_most : MethodName := ⟨RX11, "most", "(I)I"⟩
abbrev cX11_all : ByteArray := prog_13_method_76_code
def yX11_all : MethodName := ⟨RX11, "all", "(I)I"⟩
abbrev cX11_never : ByteArray := prog_13_method_77_code
def yX11_never : MethodName := ⟨RX11, "never", "(I)I"⟩
abbrev cX11_ways : ByteArray := prog_13_method_78_code
def yX11_ways : MethodName := ⟨RX11, "ways", "(I)J"⟩
abbrev cX11_ahead : ByteArray := prog_13_method_79_code
def yX11_ahead : MethodName := ⟨RX11, "ahead", "(II)I"⟩
abbrev cX11_canAll : ByteArray := prog_13_method_80_code
def yX11_canAll : MethodName := ⟨RX11, "canAll", "(I)Z"⟩
abbrev cX11_fewest : ByteArray := prog_13_method_81_code
def yX11_fewest : MethodName := ⟨RX11, "fewest", "(I)I"⟩
abbrev cX11_sorts : ByteArray := prog_13_method_82_code
def yX11_sorts : MethodName := ⟨RX11, "sorts", "(I)I"⟩
abbrev cX11_partsBy : ByteArray := prog_13_method_83_code
def yX11_partsBy : MethodName := ⟨RX11, "partsBy", "(I)I"⟩
abbrev cX11_countedOf : ByteArray := prog_13_method_84_code
def yX11_countedOf : MethodName := ⟨RX11, "countedOf", "(I)I"⟩
abbrev cX11_leftTo : ByteArray := prog_13_method_85_code
def yX11_leftTo : MethodName := ⟨RX11, "leftTo", "(II)I"⟩
abbrev cX11_boundOf : ByteArray := prog_13_method_86_code
def yX11_boundOf : MethodName := ⟨RX11, "boundOf", "(II)I"⟩
abbrev cX11_flowOf : ByteArray := prog_13_method_87_code
def yX11_flowOf : MethodName := ⟨RX11, "flowOf", "(I)I"⟩
abbrev cX11_flow : ByteArray := prog_13_method_88_code
def yX11_flow : MethodName := ⟨RX11, "flow", "(I)I"⟩
abbrev cX11_proof : ByteArray := prog_13_method_89_code
def yX11_proof : MethodName := ⟨RX11, "proof", "(I)I"⟩
abbrev cX11_gap : ByteArray := prog_13_method_90_code
def yX11_gap : MethodName := ⟨RX11, "gap", "(II)I"⟩
abbrev cX11_goDays : ByteArray := prog_13_method_91_code
def yX11_goDays : MethodName := ⟨RX11, "goDays", "(I)V"⟩
abbrev cX11_goDebt : ByteArray := prog_13_method_92_code
def yX11_goDebt : MethodName := ⟨RX11, "goDebt", "(I)V"⟩
abbrev cX11_days : ByteArray := prog_13_method_93_code
def yX11_days : MethodName := ⟨RX11, "days", "(I)I"⟩
abbrev cX11_lay : ByteArray := prog_13_method_94_code
def yX11_lay : MethodName := ⟨RX11, "lay", "([II)V"⟩
abbrev cX11_bring : ByteArray := prog_13_method_95_code
def yX11_bring : MethodName := ⟨RX11, "bring", "([II)V"⟩
abbrev cX11_best : ByteArray := prog_13_method_96_code
def yX11_best : MethodName := ⟨RX11, "best", "(I)I"⟩
abbrev cX11_hasBehind : ByteArray := prog_13_method_97_code
def yX11_hasBehind : MethodName := ⟨RX11, "hasBehind", "(II)I"⟩
abbrev cX11_pays : ByteArray := prog_13_method_98_code
def yX11_pays : MethodName := ⟨RX11, "pays", "(III)I"⟩
abbrev cX11_lapse : ByteArray := prog_13_method_99_code
def yX11_lapse : MethodName := ⟨RX11, "lapse", "(I)I"⟩
abbrev cX11_lowest : ByteArray := prog_13_method_100_code
def yX11_lowest : MethodName := ⟨RX11, "lowest", "()I"⟩
abbrev cX11_common : ByteArray := prog_13_method_101_code
def yX11_common : MethodName := ⟨RX11, "common", "(JJ)J"⟩
abbrev cX11_spread : ByteArray := prog_13_method_102_code
def yX11_spread : MethodName := ⟨RX11, "spread", "()I"⟩
abbrev cX11_today : ByteArray := prog_13_method_103_code
def yX11_today : MethodName := ⟨RX11, "today", "()I"⟩
abbrev cX11_seed : ByteArray := prog_13_method_104_code
def yX11_seed : MethodName := ⟨RX11, "seed", "(I)I"⟩
abbrev cX11_keep : ByteArray := prog_13_method_105_code
def yX11_keep : MethodName := ⟨RX11, "keep", "(I)Z"⟩
abbrev cX11_again : ByteArray := prog_13_method_106_code
def yX11_again : MethodName := ⟨RX11, "again", "(I)Z"⟩
abbrev cX11_count : ByteArray := prog_13_method_107_code
def yX11_count : MethodName := ⟨RX11, "count", "(I)I"⟩
abbrev cX11_row : ByteArray := prog_13_method_108_code
def yX11_row : MethodName := ⟨RX11, "row", "(I)J"⟩
def RJx145de : String := "java/io/Serializable"
def RJx9f9b0 : String := "java/lang/CharSequence"
def RJ11 : String := "java/lang/Character"
abbrev cJ11_isValidCodePoint_9a6ad : ByteArray := prog_16_method_11_code
def yJ11_isValidCodePoint_9a6ad : MethodName := ⟨RJ11, "isValidCodePoint", "(I)Z"⟩
abbrev cJ11_highSurrogate_5068e : ByteArray := prog_16_method_28_code
def yJ11_highSurrogate_5068e : MethodName := ⟨RJ11, "highSurrogate", "(I)C"⟩
abbrev cJ11_lowSurrogate_5068e : ByteArray := prog_16_method_29_code
def yJ11_lowSurrogate_5068e : MethodName := ⟨RJ11, "lowSurrogate", "(I)C"⟩
def RJxb160c : String := "java/lang/Comparable"
def RJ6 : String := "java/lang/Integer"
abbrev cJ6_bitCount_0f7a4 : ByteArray := prog_19_method_49_code
def yJ6_bitCount_0f7a4 : MethodName := ⟨RJ6, "bitCount", "(I)I"⟩
def RJ9 : String := "java/lang/Math"
abbrev cJ9_abs_0f7a4 : ByteArray := prog_20_method_59_code
def yJ9_abs_0f7a4 : MethodName := ⟨RJ9, "abs", "(I)I"⟩
abbrev cJ9_max_7cf53 : ByteArray := prog_20_method_65_code
def yJ9_max_7cf53 : MethodName := ⟨RJ9, "max", "(II)I"⟩
abbrev cJ9_min_7cf53 : ByteArray := prog_20_method_69_code
def yJ9_min_7cf53 : MethodName := ⟨RJ9, "min", "(II)I"⟩
def RJ0 : String := "java/lang/String"
abbrev cJ0_length_8abf5 : ByteArray := prog_22_method_54_code
def yJ0_length_8abf5 : MethodName := ⟨RJ0, "length", "()I"⟩
abbrev cJ0_indexOf_0f7a4 : ByteArray := prog_22_method_79_code
def yJ0_indexOf_0f7a4 : MethodName := ⟨RJ0, "indexOf", "(I)I"⟩
abbrev cJ0_indexOf_7cf53 : ByteArray := prog_22_method_80_code
def yJ0_indexOf_7cf53 : MethodName := ⟨RJ0, "indexOf", "(II)I"⟩
abbrev cJ0_coder_7d493 : ByteArray := prog_22_method_152_code
def yJ0_coder_7d493 : MethodName := ⟨RJ0, "coder", "()B"⟩
abbrev cJ0_isLatin1_aae02 : ByteArray := prog_22_method_154_code
def yJ0_isLatin1_aae02 : MethodName := ⟨RJ0, "isLatin1", "()Z"⟩
abbrev cJ0_checkBoundsBeginEnd_23922 : ByteArray := prog_22_method_158_code
def yJ0_checkBoundsBeginEnd_23922 : MethodName := ⟨RJ0, "checkBoundsBeginEnd", "(III)V"⟩
def RJ1 : String := "java/lang/StringLatin1"
abbrev cJ1_canEncode_9a6ad : ByteArray := prog_23_method_4_code
def yJ1_canEncode_9a6ad : MethodName := ⟨RJ1, "canEncode", "(I)Z"⟩
abbrev cJ1_indexOf_4cfef : ByteArray := prog_23_method_22_code
def yJ1_indexOf_4cfef : MethodName := ⟨RJ1, "indexOf", "([BIII)I"⟩
abbrev cJ1_indexOfChar_4cfef : ByteArray := prog_23_method_23_code
def yJ1_indexOfChar_4cfef : MethodName := ⟨RJ1, "indexOfChar", "([BIII)I"⟩
def RJ2 : String := "java/lang/StringUTF16"
abbrev cJ2_getChar_3b067 : ByteArray := prog_24_method_5_code
def yJ2_getChar_3b067 : MethodName := ⟨RJ2, "getChar", "([BI)C"⟩
abbrev cJ2_length_9d52b : ByteArray := prog_24_method_6_code
def yJ2_length_9d52b : MethodName := ⟨RJ2, "length", "([B)I"⟩
abbrev cJ2_indexOf_4cfef : ByteArray := prog_24_method_40_code
def yJ2_indexOf_4cfef : MethodName := ⟨RJ2, "indexOf", "([BIII)I"⟩
abbrev cJ2_indexOfChar_4cfef : ByteArray := prog_24_method_47_code
def yJ2_indexOfChar_4cfef : MethodName := ⟨RJ2, "indexOfChar", "([BIII)I"⟩
abbrev cJ2_indexOfCharUnsafe_4cfef : ByteArray := prog_24_method_48_code
def yJ2_indexOfCharUnsafe_4cfef : MethodName := ⟨RJ2, "indexOfCharUnsafe", "([BIII)I"⟩
abbrev cJ2_indexOfSupplementary_4cfef : ByteArray := prog_24_method_49_code
def yJ2_indexOfSupplementary_4cfef : MethodName := ⟨RJ2, "indexOfSupplementary", "([BIII)I"⟩
abbrev cJ2_checkBoundsBeginEnd_d044e : ByteArray := prog_24_method_93_code
def yJ2_checkBoundsBeginEnd_d044e : MethodName := ⟨RJ2, "checkBoundsBeginEnd", "(II[B)V"⟩
def RJ10 : String := "java/lang/System"
def RJxfd54e : String := "java/lang/constant/Constable"
def RJx3cf43 : String := "java/lang/constant/ConstantDesc"
def RJ7 : String := "java/util/Arrays"
abbrev cJ7_fill_53178 : ByteArray := prog_29_method_103_code
def yJ7_fill_53178 : MethodName := ⟨RJ7, "fill", "([II)V"⟩
def RJ3 : String := "jdk/internal/util/Preconditions"
abbrev cJ3_checkFromToIndex_8c36e : ByteArray := prog_31_method_12_code
def yJ3_checkFromToIndex_8c36e : MethodName := ⟨RJ3, "checkFromToIndex", "(IIILjava/util/function/BiFunction;)I"⟩
def RL : String := "PaidByPoorerLaw"
abbrev cL_of : ByteArray := method_3_code
def yL_of : MethodName := ⟨RL, "of", "(LPaidByPoorer;II[J)I"⟩
abbrev cL_debt : ByteArray := method_4_code
def yL_debt : MethodName := ⟨RL, "debt", "(LPaidByPoorer;II[J)I"⟩
abbrev cL_pays : ByteArray := method_5_code
def yL_pays : MethodName := ⟨RL, "pays", "(LPaidByPoorer;III[J)I"⟩
abbrev cL_row : ByteArray := method_6_code
def yL_row : MethodName := ⟨RL, "row", "(LPaidByPoorer;I[J)I"⟩
abbrev cL_law : ByteArray := code
def yL_law : MethodName := ⟨RL, "law", "([I)Z"⟩
abbrev vwCl : List vw_C := [(RX0, TX0, 5), (RX1, TX1, 3), (RX2, TX2, 3), (RX3, TX3, 3), (RX4, TX4, 8), (RX5, TX5, 15), (RX6, TX6, 2), (RX7, TX7, 2), (RX8, TX8, 20), (RX9, TX9, 2), (RX10, TX10, 17), (RX11, TX11, 59)]
