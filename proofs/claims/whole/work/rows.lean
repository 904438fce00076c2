section
-- ===== PART A: goes FIRST, ahead of the names: the tables' words, and 'selects' of the private methods out of them =====
/-- a private method of a class that the tables say can be made, by its rows of tables_1 -/
def lw_okq (q : MethodName × Nat) : Prop := (q.1.cls ≠ "java/lang/invoke/MethodHandle" ∧ q.1.cls ≠ "java/lang/invoke/VarHandle") ∧ Cond.instantiable q.1.cls q.2 ∈ tables_1 ∧ Cond.privateMethod q.1 ∈ tables_1 ∧ Cond.instanceMethod q.1 ∈ tables_1
theorem lw_p0 : lw_okq (⟨"StileAccounts", "layFirstText", "()V"⟩, 11) := ⟨⟨by decide +kernel, by decide +kernel⟩, List.mem_of_getElem? (i := 20) (by decide +kernel), List.mem_of_getElem? (i := 252) (by decide +kernel), List.mem_of_getElem? (i := 253) (by decide +kernel)⟩
theorem lw_p1 : lw_okq (⟨"StileAccounts$Text", "readNumbers", "(I)I"⟩, 6) := ⟨⟨by decide +kernel, by decide +kernel⟩, List.mem_of_getElem? (i := 28) (by decide +kernel), List.mem_of_getElem? (i := 317) (by decide +kernel), List.mem_of_getElem? (i := 318) (by decide +kernel)⟩
theorem lw_p2 : lw_okq (⟨"StileAccounts$Text", "takeItem", "(C)Z"⟩, 6) := ⟨⟨by decide +kernel, by decide +kernel⟩, List.mem_of_getElem? (i := 28) (by decide +kernel), List.mem_of_getElem? (i := 321) (by decide +kernel), List.mem_of_getElem? (i := 322) (by decide +kernel)⟩
theorem lw_p3 : lw_okq (⟨"StileAccounts$Text", "takeFields", "()Z"⟩, 6) := ⟨⟨by decide +kernel, by decide +kernel⟩, List.mem_of_getElem? (i := 28) (by decide +kernel), List.mem_of_getElem? (i := 325) (by decide +kernel), List.mem_of_getElem? (i := 326) (by decide +kernel)⟩
theorem lw_p4 : lw_okq (⟨"StileAccounts$Text", "takeLimit", "()Z"⟩, 6) := ⟨⟨by decide +kernel, by decide +kernel⟩, List.mem_of_getElem? (i := 28) (by decide +kernel), List.mem_of_getElem? (i := 341) (by decide +kernel), List.mem_of_getElem? (i := 342) (by decide +kernel)⟩
theorem lw_p5 : lw_okq (⟨"StileAccounts", "layTold", "()V"⟩, 11) := ⟨⟨by decide +kernel, by decide +kernel⟩, List.mem_of_getElem? (i := 20) (by decide +kernel), List.mem_of_getElem? (i := 345) (by decide +kernel), List.mem_of_getElem? (i := 346) (by decide +kernel)⟩
theorem lw_p6 : lw_okq (⟨"StileAccounts$States", "loseOldest", "()V"⟩, 2) := ⟨⟨by decide +kernel, by decide +kernel⟩, List.mem_of_getElem? (i := 161) (by decide +kernel), List.mem_of_getElem? (i := 473) (by decide +kernel), List.mem_of_getElem? (i := 474) (by decide +kernel)⟩
theorem lw_p7 : lw_okq (⟨"StileAccounts$Distances", "join", "(II)V"⟩, 2) := ⟨⟨by decide +kernel, by decide +kernel⟩, List.mem_of_getElem? (i := 198) (by decide +kernel), List.mem_of_getElem? (i := 533) (by decide +kernel), List.mem_of_getElem? (i := 534) (by decide +kernel)⟩
theorem lw_p8 : lw_okq (⟨"StileAccounts$Distances", "shortenBy", "(I)V"⟩, 2) := ⟨⟨by decide +kernel, by decide +kernel⟩, List.mem_of_getElem? (i := 198) (by decide +kernel), List.mem_of_getElem? (i := 537) (by decide +kernel), List.mem_of_getElem? (i := 538) (by decide +kernel)⟩
theorem lw_p9 : lw_okq (⟨"StileAccounts", "firstStile", "(II)I"⟩, 11) := ⟨⟨by decide +kernel, by decide +kernel⟩, List.mem_of_getElem? (i := 20) (by decide +kernel), List.mem_of_getElem? (i := 546) (by decide +kernel), List.mem_of_getElem? (i := 547) (by decide +kernel)⟩
theorem lw_p10 : lw_okq (⟨"StileAccounts$Leveller", "takeLeaves", "(LStileAccounts$State;I)V"⟩, 1) := ⟨⟨by decide +kernel, by decide +kernel⟩, List.mem_of_getElem? (i := 211) (by decide +kernel), List.mem_of_getElem? (i := 561) (by decide +kernel), List.mem_of_getElem? (i := 562) (by decide +kernel)⟩
theorem lw_p11 : lw_okq (⟨"StileAccounts$Leveller", "isOneWalkFrom", "(II)Z"⟩, 1) := ⟨⟨by decide +kernel, by decide +kernel⟩, List.mem_of_getElem? (i := 211) (by decide +kernel), List.mem_of_getElem? (i := 566) (by decide +kernel), List.mem_of_getElem? (i := 567) (by decide +kernel)⟩
theorem lw_p12 : lw_okq (⟨"StileAccounts$Leveller", "fewestOthers", "(LStileAccounts$Plan;II)I"⟩, 1) := ⟨⟨by decide +kernel, by decide +kernel⟩, List.mem_of_getElem? (i := 211) (by decide +kernel), List.mem_of_getElem? (i := 570) (by decide +kernel), List.mem_of_getElem? (i := 571) (by decide +kernel)⟩
theorem lw_p13 : lw_okq (⟨"StileAccounts$Leveller", "comesToAll", "(LStileAccounts$Plan;II)Z"⟩, 1) := ⟨⟨by decide +kernel, by decide +kernel⟩, List.mem_of_getElem? (i := 211) (by decide +kernel), List.mem_of_getElem? (i := 580) (by decide +kernel), List.mem_of_getElem? (i := 581) (by decide +kernel)⟩
theorem lw_p14 : lw_okq (⟨"StileAccounts$Leveller", "treadsOwed", "(LStileAccounts$State;I)I"⟩, 1) := ⟨⟨by decide +kernel, by decide +kernel⟩, List.mem_of_getElem? (i := 211) (by decide +kernel), List.mem_of_getElem? (i := 584) (by decide +kernel), List.mem_of_getElem? (i := 585) (by decide +kernel)⟩
theorem lw_p15 : lw_okq (⟨"StileAccounts$Measurer", "tellsAll", "(II)Z"⟩, 1) := ⟨⟨by decide +kernel, by decide +kernel⟩, List.mem_of_getElem? (i := 221) (by decide +kernel), List.mem_of_getElem? (i := 601) (by decide +kernel), List.mem_of_getElem? (i := 602) (by decide +kernel)⟩
def lw_privs_1 : List (MethodName × Nat) := [(⟨"StileAccounts", "layFirstText", "()V"⟩, 11), (⟨"StileAccounts$Text", "readNumbers", "(I)I"⟩, 6), (⟨"StileAccounts$Text", "takeItem", "(C)Z"⟩, 6), (⟨"StileAccounts$Text", "takeFields", "()Z"⟩, 6), (⟨"StileAccounts$Text", "takeLimit", "()Z"⟩, 6), (⟨"StileAccounts", "layTold", "()V"⟩, 11), (⟨"StileAccounts$States", "loseOldest", "()V"⟩, 2), (⟨"StileAccounts$Distances", "join", "(II)V"⟩, 2), (⟨"StileAccounts$Distances", "shortenBy", "(I)V"⟩, 2), (⟨"StileAccounts", "firstStile", "(II)I"⟩, 11), (⟨"StileAccounts$Leveller", "takeLeaves", "(LStileAccounts$State;I)V"⟩, 1), (⟨"StileAccounts$Leveller", "isOneWalkFrom", "(II)Z"⟩, 1), (⟨"StileAccounts$Leveller", "fewestOthers", "(LStileAccounts$Plan;II)I"⟩, 1), (⟨"StileAccounts$Leveller", "comesToAll", "(LStileAccounts$Plan;II)Z"⟩, 1), (⟨"StileAccounts$Leveller", "treadsOwed", "(LStileAccounts$State;I)I"⟩, 1), (⟨"StileAccounts$Measurer", "tellsAll", "(II)Z"⟩, 1)]
theorem lw_r1 : ∀ q ∈ lw_privs_1, lw_okq q := List.forall_mem_cons.mpr ⟨lw_p0, List.forall_mem_cons.mpr ⟨lw_p1, List.forall_mem_cons.mpr ⟨lw_p2, List.forall_mem_cons.mpr ⟨lw_p3, List.forall_mem_cons.mpr ⟨lw_p4, List.forall_mem_cons.mpr ⟨lw_p5, List.forall_mem_cons.mpr ⟨lw_p6, List.forall_mem_cons.mpr ⟨lw_p7, List.forall_mem_cons.mpr ⟨lw_p8, List.forall_mem_cons.mpr ⟨lw_p9, List.forall_mem_cons.mpr ⟨lw_p10, List.forall_mem_cons.mpr ⟨lw_p11, List.forall_mem_cons.mpr ⟨lw_p12, List.forall_mem_cons.mpr ⟨lw_p13, List.forall_mem_cons.mpr ⟨lw_p14, List.forall_mem_cons.mpr ⟨lw_p15, fun _ h => absurd h List.not_mem_nil⟩⟩⟩⟩⟩⟩⟩⟩⟩⟩⟩⟩⟩⟩⟩⟩
theorem lw_p16 : lw_okq (⟨"StileAccounts", "bestNewPair", "()I"⟩, 11) := ⟨⟨by decide +kernel, by decide +kernel⟩, List.mem_of_getElem? (i := 20) (by decide +kernel), List.mem_of_getElem? (i := 610) (by decide +kernel), List.mem_of_getElem? (i := 611) (by decide +kernel)⟩
theorem lw_p17 : lw_okq (⟨"StileAccounts$Drunkard", "goOnFrom", "(LStileAccounts$State;II)V"⟩, 4) := ⟨⟨by decide +kernel, by decide +kernel⟩, List.mem_of_getElem? (i := 231) (by decide +kernel), List.mem_of_getElem? (i := 675) (by decide +kernel), List.mem_of_getElem? (i := 676) (by decide +kernel)⟩
theorem lw_p18 : lw_okq (⟨"StileAccounts$Drunkard", "reduceBy2", "()V"⟩, 4) := ⟨⟨by decide +kernel, by decide +kernel⟩, List.mem_of_getElem? (i := 231) (by decide +kernel), List.mem_of_getElem? (i := 693) (by decide +kernel), List.mem_of_getElem? (i := 694) (by decide +kernel)⟩
theorem lw_p19 : lw_okq (⟨"StileAccounts$Drunkard", "reduceBy5", "()V"⟩, 4) := ⟨⟨by decide +kernel, by decide +kernel⟩, List.mem_of_getElem? (i := 231) (by decide +kernel), List.mem_of_getElem? (i := 697) (by decide +kernel), List.mem_of_getElem? (i := 698) (by decide +kernel)⟩
theorem lw_p20 : lw_okq (⟨"StileAccounts", "drawOf", "(II)I"⟩, 11) := ⟨⟨by decide +kernel, by decide +kernel⟩, List.mem_of_getElem? (i := 20) (by decide +kernel), List.mem_of_getElem? (i := 706) (by decide +kernel), List.mem_of_getElem? (i := 707) (by decide +kernel)⟩
theorem lw_p21 : lw_okq (⟨"StileAccounts", "dreamTread", "(I)V"⟩, 11) := ⟨⟨by decide +kernel, by decide +kernel⟩, List.mem_of_getElem? (i := 20) (by decide +kernel), List.mem_of_getElem? (i := 713) (by decide +kernel), List.mem_of_getElem? (i := 714) (by decide +kernel)⟩
theorem lw_p22 : lw_okq (⟨"StileAccountsModel", "addsStile", "(III)V"⟩, 28) := ⟨⟨by decide +kernel, by decide +kernel⟩, List.mem_of_getElem? (i := 748) (by decide +kernel), List.mem_of_getElem? (i := 754) (by decide +kernel), List.mem_of_getElem? (i := 755) (by decide +kernel)⟩
theorem lw_p23 : lw_okq (⟨"StileAccountsModel", "addsWalker", "(III)V"⟩, 28) := ⟨⟨by decide +kernel, by decide +kernel⟩, List.mem_of_getElem? (i := 748) (by decide +kernel), List.mem_of_getElem? (i := 758) (by decide +kernel), List.mem_of_getElem? (i := 759) (by decide +kernel)⟩
theorem lw_p24 : lw_okq (⟨"StileAccountsModel", "begins", "()V"⟩, 28) := ⟨⟨by decide +kernel, by decide +kernel⟩, List.mem_of_getElem? (i := 748) (by decide +kernel), List.mem_of_getElem? (i := 762) (by decide +kernel), List.mem_of_getElem? (i := 763) (by decide +kernel)⟩
theorem lw_p25 : lw_okq (⟨"StileAccountsModel", "faultOf", "()I"⟩, 28) := ⟨⟨by decide +kernel, by decide +kernel⟩, List.mem_of_getElem? (i := 748) (by decide +kernel), List.mem_of_getElem? (i := 868) (by decide +kernel), List.mem_of_getElem? (i := 869) (by decide +kernel)⟩
theorem lw_p26 : lw_okq (⟨"StileAccountsModel", "takesItem", "()Z"⟩, 28) := ⟨⟨by decide +kernel, by decide +kernel⟩, List.mem_of_getElem? (i := 748) (by decide +kernel), List.mem_of_getElem? (i := 872) (by decide +kernel), List.mem_of_getElem? (i := 873) (by decide +kernel)⟩
theorem lw_p27 : lw_okq (⟨"StileAccountsModel", "letterAt", "(I)I"⟩, 28) := ⟨⟨by decide +kernel, by decide +kernel⟩, List.mem_of_getElem? (i := 748) (by decide +kernel), List.mem_of_getElem? (i := 876) (by decide +kernel), List.mem_of_getElem? (i := 877) (by decide +kernel)⟩
theorem lw_p28 : lw_okq (⟨"StileAccountsModel", "takesFields", "()Z"⟩, 28) := ⟨⟨by decide +kernel, by decide +kernel⟩, List.mem_of_getElem? (i := 748) (by decide +kernel), List.mem_of_getElem? (i := 880) (by decide +kernel), List.mem_of_getElem? (i := 881) (by decide +kernel)⟩
theorem lw_p29 : lw_okq (⟨"StileAccountsModel", "takesNumber", "(III)Z"⟩, 28) := ⟨⟨by decide +kernel, by decide +kernel⟩, List.mem_of_getElem? (i := 748) (by decide +kernel), List.mem_of_getElem? (i := 884) (by decide +kernel), List.mem_of_getElem? (i := 885) (by decide +kernel)⟩
theorem lw_p30 : lw_okq (⟨"StileAccountsModel", "takesStile", "()Z"⟩, 28) := ⟨⟨by decide +kernel, by decide +kernel⟩, List.mem_of_getElem? (i := 748) (by decide +kernel), List.mem_of_getElem? (i := 890) (by decide +kernel), List.mem_of_getElem? (i := 891) (by decide +kernel)⟩
theorem lw_p31 : lw_okq (⟨"StileAccountsModel", "takesWalker", "()Z"⟩, 28) := ⟨⟨by decide +kernel, by decide +kernel⟩, List.mem_of_getElem? (i := 748) (by decide +kernel), List.mem_of_getElem? (i := 894) (by decide +kernel), List.mem_of_getElem? (i := 895) (by decide +kernel)⟩
def lw_privs_2 : List (MethodName × Nat) := [(⟨"StileAccounts", "bestNewPair", "()I"⟩, 11), (⟨"StileAccounts$Drunkard", "goOnFrom", "(LStileAccounts$State;II)V"⟩, 4), (⟨"StileAccounts$Drunkard", "reduceBy2", "()V"⟩, 4), (⟨"StileAccounts$Drunkard", "reduceBy5", "()V"⟩, 4), (⟨"StileAccounts", "drawOf", "(II)I"⟩, 11), (⟨"StileAccounts", "dreamTread", "(I)V"⟩, 11), (⟨"StileAccountsModel", "addsStile", "(III)V"⟩, 28), (⟨"StileAccountsModel", "addsWalker", "(III)V"⟩, 28), (⟨"StileAccountsModel", "begins", "()V"⟩, 28), (⟨"StileAccountsModel", "faultOf", "()I"⟩, 28), (⟨"StileAccountsModel", "takesItem", "()Z"⟩, 28), (⟨"StileAccountsModel", "letterAt", "(I)I"⟩, 28), (⟨"StileAccountsModel", "takesFields", "()Z"⟩, 28), (⟨"StileAccountsModel", "takesNumber", "(III)Z"⟩, 28), (⟨"StileAccountsModel", "takesStile", "()Z"⟩, 28), (⟨"StileAccountsModel", "takesWalker", "()Z"⟩, 28)]
theorem lw_r2 : ∀ q ∈ lw_privs_2, lw_okq q := List.forall_mem_cons.mpr ⟨lw_p16, List.forall_mem_cons.mpr ⟨lw_p17, List.forall_mem_cons.mpr ⟨lw_p18, List.forall_mem_cons.mpr ⟨lw_p19, List.forall_mem_cons.mpr ⟨lw_p20, List.forall_mem_cons.mpr ⟨lw_p21, List.forall_mem_cons.mpr ⟨lw_p22, List.forall_mem_cons.mpr ⟨lw_p23, List.forall_mem_cons.mpr ⟨lw_p24, List.forall_mem_cons.mpr ⟨lw_p25, List.forall_mem_cons.mpr ⟨lw_p26, List.forall_mem_cons.mpr ⟨lw_p27, List.forall_mem_cons.mpr ⟨lw_p28, List.forall_mem_cons.mpr ⟨lw_p29, List.forall_mem_cons.mpr ⟨lw_p30, List.forall_mem_cons.mpr ⟨lw_p31, fun _ h => absurd h List.not_mem_nil⟩⟩⟩⟩⟩⟩⟩⟩⟩⟩⟩⟩⟩⟩⟩⟩
theorem lw_p32 : lw_okq (⟨"StileAccountsModel", "takesBreaks", "()Z"⟩, 28) := ⟨⟨by decide +kernel, by decide +kernel⟩, List.mem_of_getElem? (i := 748) (by decide +kernel), List.mem_of_getElem? (i := 898) (by decide +kernel), List.mem_of_getElem? (i := 899) (by decide +kernel)⟩
theorem lw_p33 : lw_okq (⟨"StileAccountsModel", "isStile", "(I)Z"⟩, 28) := ⟨⟨by decide +kernel, by decide +kernel⟩, List.mem_of_getElem? (i := 748) (by decide +kernel), List.mem_of_getElem? (i := 910) (by decide +kernel), List.mem_of_getElem? (i := 911) (by decide +kernel)⟩
theorem lw_p34 : lw_okq (⟨"StileAccountsModel", "isBroken", "(II)Z"⟩, 28) := ⟨⟨by decide +kernel, by decide +kernel⟩, List.mem_of_getElem? (i := 748) (by decide +kernel), List.mem_of_getElem? (i := 914) (by decide +kernel), List.mem_of_getElem? (i := 915) (by decide +kernel)⟩
theorem lw_p35 : lw_okq (⟨"StileAccountsModel", "isWalker", "(I)Z"⟩, 28) := ⟨⟨by decide +kernel, by decide +kernel⟩, List.mem_of_getElem? (i := 748) (by decide +kernel), List.mem_of_getElem? (i := 922) (by decide +kernel), List.mem_of_getElem? (i := 923) (by decide +kernel)⟩
theorem lw_p36 : lw_okq (⟨"StileAccountsModel", "isLevel", "(I)Z"⟩, 28) := ⟨⟨by decide +kernel, by decide +kernel⟩, List.mem_of_getElem? (i := 748) (by decide +kernel), List.mem_of_getElem? (i := 926) (by decide +kernel), List.mem_of_getElem? (i := 927) (by decide +kernel)⟩
theorem lw_p37 : lw_okq (⟨"StileAccountsModel", "isAt", "(II)Z"⟩, 28) := ⟨⟨by decide +kernel, by decide +kernel⟩, List.mem_of_getElem? (i := 748) (by decide +kernel), List.mem_of_getElem? (i := 938) (by decide +kernel), List.mem_of_getElem? (i := 939) (by decide +kernel)⟩
theorem lw_p38 : lw_okq (⟨"StileAccountsModel", "minds", "()V"⟩, 28) := ⟨⟨by decide +kernel, by decide +kernel⟩, List.mem_of_getElem? (i := 748) (by decide +kernel), List.mem_of_getElem? (i := 942) (by decide +kernel), List.mem_of_getElem? (i := 943) (by decide +kernel)⟩
theorem lw_p39 : lw_okq (⟨"StileAccountsModel", "copy", "(II)V"⟩, 28) := ⟨⟨by decide +kernel, by decide +kernel⟩, List.mem_of_getElem? (i := 748) (by decide +kernel), List.mem_of_getElem? (i := 946) (by decide +kernel), List.mem_of_getElem? (i := 947) (by decide +kernel)⟩
theorem lw_p40 : lw_okq (⟨"StileAccountsModel", "goes", "(III)V"⟩, 28) := ⟨⟨by decide +kernel, by decide +kernel⟩, List.mem_of_getElem? (i := 748) (by decide +kernel), List.mem_of_getElem? (i := 950) (by decide +kernel), List.mem_of_getElem? (i := 951) (by decide +kernel)⟩
theorem lw_p41 : lw_okq (⟨"StileAccountsModel", "otherEnd", "(II)I"⟩, 28) := ⟨⟨by decide +kernel, by decide +kernel⟩, List.mem_of_getElem? (i := 748) (by decide +kernel), List.mem_of_getElem? (i := 954) (by decide +kernel), List.mem_of_getElem? (i := 955) (by decide +kernel)⟩
theorem lw_p42 : lw_okq (⟨"StileAccountsModel", "wears", "(II)I"⟩, 28) := ⟨⟨by decide +kernel, by decide +kernel⟩, List.mem_of_getElem? (i := 748) (by decide +kernel), List.mem_of_getElem? (i := 958) (by decide +kernel), List.mem_of_getElem? (i := 959) (by decide +kernel)⟩
theorem lw_p43 : lw_okq (⟨"StileAccountsModel", "wornMore", "(III)V"⟩, 28) := ⟨⟨by decide +kernel, by decide +kernel⟩, List.mem_of_getElem? (i := 748) (by decide +kernel), List.mem_of_getElem? (i := 962) (by decide +kernel), List.mem_of_getElem? (i := 963) (by decide +kernel)⟩
theorem lw_p44 : lw_okq (⟨"StileAccountsModel", "earns", "(II)I"⟩, 28) := ⟨⟨by decide +kernel, by decide +kernel⟩, List.mem_of_getElem? (i := 748) (by decide +kernel), List.mem_of_getElem? (i := 966) (by decide +kernel), List.mem_of_getElem? (i := 967) (by decide +kernel)⟩
theorem lw_p45 : lw_okq (⟨"StileAccountsModel", "isAnew", "(II)V"⟩, 28) := ⟨⟨by decide +kernel, by decide +kernel⟩, List.mem_of_getElem? (i := 748) (by decide +kernel), List.mem_of_getElem? (i := 974) (by decide +kernel), List.mem_of_getElem? (i := 975) (by decide +kernel)⟩
theorem lw_p46 : lw_okq (⟨"StileAccountsModel", "isField", "(I)Z"⟩, 28) := ⟨⟨by decide +kernel, by decide +kernel⟩, List.mem_of_getElem? (i := 748) (by decide +kernel), List.mem_of_getElem? (i := 990) (by decide +kernel), List.mem_of_getElem? (i := 991) (by decide +kernel)⟩
theorem lw_p47 : lw_okq (⟨"StileAccountsModel", "layApart", "()V"⟩, 28) := ⟨⟨by decide +kernel, by decide +kernel⟩, List.mem_of_getElem? (i := 748) (by decide +kernel), List.mem_of_getElem? (i := 994) (by decide +kernel), List.mem_of_getElem? (i := 995) (by decide +kernel)⟩
def lw_privs_3 : List (MethodName × Nat) := [(⟨"StileAccountsModel", "takesBreaks", "()Z"⟩, 28), (⟨"StileAccountsModel", "isStile", "(I)Z"⟩, 28), (⟨"StileAccountsModel", "isBroken", "(II)Z"⟩, 28), (⟨"StileAccountsModel", "isWalker", "(I)Z"⟩, 28), (⟨"StileAccountsModel", "isLevel", "(I)Z"⟩, 28), (⟨"StileAccountsModel", "isAt", "(II)Z"⟩, 28), (⟨"StileAccountsModel", "minds", "()V"⟩, 28), (⟨"StileAccountsModel", "copy", "(II)V"⟩, 28), (⟨"StileAccountsModel", "goes", "(III)V"⟩, 28), (⟨"StileAccountsModel", "otherEnd", "(II)I"⟩, 28), (⟨"StileAccountsModel", "wears", "(II)I"⟩, 28), (⟨"StileAccountsModel", "wornMore", "(III)V"⟩, 28), (⟨"StileAccountsModel", "earns", "(II)I"⟩, 28), (⟨"StileAccountsModel", "isAnew", "(II)V"⟩, 28), (⟨"StileAccountsModel", "isField", "(I)Z"⟩, 28), (⟨"StileAccountsModel", "layApart", "()V"⟩, 28)]
theorem lw_r3 : ∀ q ∈ lw_privs_3, lw_okq q := List.forall_mem_cons.mpr ⟨lw_p32, List.forall_mem_cons.mpr ⟨lw_p33, List.forall_mem_cons.mpr ⟨lw_p34, List.forall_mem_cons.mpr ⟨lw_p35, List.forall_mem_cons.mpr ⟨lw_p36, List.forall_mem_cons.mpr ⟨lw_p37, List.forall_mem_cons.mpr ⟨lw_p38, List.forall_mem_cons.mpr ⟨lw_p39, List.forall_mem_cons.mpr ⟨lw_p40, List.forall_mem_cons.mpr ⟨lw_p41, List.forall_mem_cons.mpr ⟨lw_p42, List.forall_mem_cons.mpr ⟨lw_p43, List.forall_mem_cons.mpr ⟨lw_p44, List.forall_mem_cons.mpr ⟨lw_p45, List.forall_mem_cons.mpr ⟨lw_p46, List.forall_mem_cons.mpr ⟨lw_p47, fun _ h => absurd h List.not_mem_nil⟩⟩⟩⟩⟩⟩⟩⟩⟩⟩⟩⟩⟩⟩⟩⟩
theorem lw_p48 : lw_okq (⟨"StileAccountsModel", "closeApart", "()V"⟩, 28) := ⟨⟨by decide +kernel, by decide +kernel⟩, List.mem_of_getElem? (i := 748) (by decide +kernel), List.mem_of_getElem? (i := 998) (by decide +kernel), List.mem_of_getElem? (i := 999) (by decide +kernel)⟩
theorem lw_p49 : lw_okq (⟨"StileAccountsModel", "isOwed", "(I)Z"⟩, 28) := ⟨⟨by decide +kernel, by decide +kernel⟩, List.mem_of_getElem? (i := 748) (by decide +kernel), List.mem_of_getElem? (i := 1006) (by decide +kernel), List.mem_of_getElem? (i := 1007) (by decide +kernel)⟩
theorem lw_p50 : lw_okq (⟨"StileAccountsModel", "owedOut", "(II)I"⟩, 28) := ⟨⟨by decide +kernel, by decide +kernel⟩, List.mem_of_getElem? (i := 748) (by decide +kernel), List.mem_of_getElem? (i := 1010) (by decide +kernel), List.mem_of_getElem? (i := 1011) (by decide +kernel)⟩
theorem lw_p51 : lw_okq (⟨"StileAccountsModel", "hangs", "(II)Z"⟩, 28) := ⟨⟨by decide +kernel, by decide +kernel⟩, List.mem_of_getElem? (i := 748) (by decide +kernel), List.mem_of_getElem? (i := 1018) (by decide +kernel), List.mem_of_getElem? (i := 1019) (by decide +kernel)⟩
theorem lw_p52 : lw_okq (⟨"StileAccountsModel", "joins", "(I)V"⟩, 28) := ⟨⟨by decide +kernel, by decide +kernel⟩, List.mem_of_getElem? (i := 748) (by decide +kernel), List.mem_of_getElem? (i := 1025) (by decide +kernel), List.mem_of_getElem? (i := 1026) (by decide +kernel)⟩
theorem lw_p53 : lw_okq (⟨"StileAccountsModel", "meets", "(II)Z"⟩, 28) := ⟨⟨by decide +kernel, by decide +kernel⟩, List.mem_of_getElem? (i := 748) (by decide +kernel), List.mem_of_getElem? (i := 1033) (by decide +kernel), List.mem_of_getElem? (i := 1034) (by decide +kernel)⟩
theorem lw_p54 : lw_okq (⟨"StileAccountsModel", "allApart", "()I"⟩, 28) := ⟨⟨by decide +kernel, by decide +kernel⟩, List.mem_of_getElem? (i := 748) (by decide +kernel), List.mem_of_getElem? (i := 1041) (by decide +kernel), List.mem_of_getElem? (i := 1042) (by decide +kernel)⟩
theorem lw_p55 : lw_okq (⟨"StileAccountsModel", "areJoined", "(II)Z"⟩, 28) := ⟨⟨by decide +kernel, by decide +kernel⟩, List.mem_of_getElem? (i := 748) (by decide +kernel), List.mem_of_getElem? (i := 1045) (by decide +kernel), List.mem_of_getElem? (i := 1046) (by decide +kernel)⟩
theorem lw_p56 : lw_okq (⟨"StileAccountsModel", "oftenBy", "(III)I"⟩, 28) := ⟨⟨by decide +kernel, by decide +kernel⟩, List.mem_of_getElem? (i := 748) (by decide +kernel), List.mem_of_getElem? (i := 1070) (by decide +kernel), List.mem_of_getElem? (i := 1071) (by decide +kernel)⟩
theorem lw_p57 : lw_okq (⟨"StileAccountsModel", "manyAt", "(II)I"⟩, 28) := ⟨⟨by decide +kernel, by decide +kernel⟩, List.mem_of_getElem? (i := 748) (by decide +kernel), List.mem_of_getElem? (i := 1084) (by decide +kernel), List.mem_of_getElem? (i := 1085) (by decide +kernel)⟩
theorem lw_p58 : lw_okq (⟨"StileAccountsModel", "nthAt", "(III)I"⟩, 28) := ⟨⟨by decide +kernel, by decide +kernel⟩, List.mem_of_getElem? (i := 748) (by decide +kernel), List.mem_of_getElem? (i := 1088) (by decide +kernel), List.mem_of_getElem? (i := 1089) (by decide +kernel)⟩
theorem lw_p59 : lw_okq (⟨"StileAccountsModel", "lowestAt", "(I)I"⟩, 28) := ⟨⟨by decide +kernel, by decide +kernel⟩, List.mem_of_getElem? (i := 748) (by decide +kernel), List.mem_of_getElem? (i := 1101) (by decide +kernel), List.mem_of_getElem? (i := 1102) (by decide +kernel)⟩
theorem lw_p60 : lw_okq (⟨"StileAccountsModel", "creditIn", "(I)I"⟩, 28) := ⟨⟨by decide +kernel, by decide +kernel⟩, List.mem_of_getElem? (i := 748) (by decide +kernel), List.mem_of_getElem? (i := 1105) (by decide +kernel), List.mem_of_getElem? (i := 1106) (by decide +kernel)⟩
theorem lw_p61 : lw_okq (⟨"StileAccountsModel", "brokenIn", "(I)I"⟩, 28) := ⟨⟨by decide +kernel, by decide +kernel⟩, List.mem_of_getElem? (i := 748) (by decide +kernel), List.mem_of_getElem? (i := 1109) (by decide +kernel), List.mem_of_getElem? (i := 1110) (by decide +kernel)⟩
theorem lw_p62 : lw_okq (⟨"StileAccountsModel", "wornOfAll", "()I"⟩, 28) := ⟨⟨by decide +kernel, by decide +kernel⟩, List.mem_of_getElem? (i := 748) (by decide +kernel), List.mem_of_getElem? (i := 1125) (by decide +kernel), List.mem_of_getElem? (i := 1126) (by decide +kernel)⟩
def lw_privs_4 : List (MethodName × Nat) := [(⟨"StileAccountsModel", "closeApart", "()V"⟩, 28), (⟨"StileAccountsModel", "isOwed", "(I)Z"⟩, 28), (⟨"StileAccountsModel", "owedOut", "(II)I"⟩, 28), (⟨"StileAccountsModel", "hangs", "(II)Z"⟩, 28), (⟨"StileAccountsModel", "joins", "(I)V"⟩, 28), (⟨"StileAccountsModel", "meets", "(II)Z"⟩, 28), (⟨"StileAccountsModel", "allApart", "()I"⟩, 28), (⟨"StileAccountsModel", "areJoined", "(II)Z"⟩, 28), (⟨"StileAccountsModel", "oftenBy", "(III)I"⟩, 28), (⟨"StileAccountsModel", "manyAt", "(II)I"⟩, 28), (⟨"StileAccountsModel", "nthAt", "(III)I"⟩, 28), (⟨"StileAccountsModel", "lowestAt", "(I)I"⟩, 28), (⟨"StileAccountsModel", "creditIn", "(I)I"⟩, 28), (⟨"StileAccountsModel", "brokenIn", "(I)I"⟩, 28), (⟨"StileAccountsModel", "wornOfAll", "()I"⟩, 28)]
theorem lw_r4 : ∀ q ∈ lw_privs_4, lw_okq q := List.forall_mem_cons.mpr ⟨lw_p48, List.forall_mem_cons.mpr ⟨lw_p49, List.forall_mem_cons.mpr ⟨lw_p50, List.forall_mem_cons.mpr ⟨lw_p51, List.forall_mem_cons.mpr ⟨lw_p52, List.forall_mem_cons.mpr ⟨lw_p53, List.forall_mem_cons.mpr ⟨lw_p54, List.forall_mem_cons.mpr ⟨lw_p55, List.forall_mem_cons.mpr ⟨lw_p56, List.forall_mem_cons.mpr ⟨lw_p57, List.forall_mem_cons.mpr ⟨lw_p58, List.forall_mem_cons.mpr ⟨lw_p59, List.forall_mem_cons.mpr ⟨lw_p60, List.forall_mem_cons.mpr ⟨lw_p61, List.forall_mem_cons.mpr ⟨lw_p62, fun _ h => absurd h List.not_mem_nil⟩⟩⟩⟩⟩⟩⟩⟩⟩⟩⟩⟩⟩⟩⟩
def lw_privs : List (MethodName × Nat) := lw_privs_1 ++ (lw_privs_2 ++ (lw_privs_3 ++ (lw_privs_4)))
def lw_tbl : List Cond := k2_sels lw_privs ++ tables_1
theorem lw_privs_ok : ∀ q ∈ lw_privs, lw_okq q := by
  show ∀ q ∈ lw_privs_1 ++ (lw_privs_2 ++ (lw_privs_3 ++ (lw_privs_4))), lw_okq q
  exact List.forall_mem_append.mpr ⟨lw_r1, List.forall_mem_append.mpr ⟨lw_r2, List.forall_mem_append.mpr ⟨lw_r3, lw_r4⟩⟩⟩
-- ===== end of PART A; then your names; then what follows =====
end
section
def RX0 : String := "StileAccounts$Distances"
def TX0 : u_T := fun k => match k with
  | 0 => ("StileAccounts$Distances", "fields", "I", false)
  | _ => ("StileAccounts$Distances", "table", "[I", true)
def tyX0 : Nat → FieldType := fun k => match k with
  | 0 => .int
  | _ => .array .int
theorem nmX0 : ∀ a, a < 2 → ∀ b, b < 2 → a ≠ b → (TX0 a).2.1 ≠ (TX0 b).2.1 := by decide +kernel
theorem tyX0_ok : ∀ k, k < 2 → parseFieldDescriptor (TX0 k).2.2.1 = some (tyX0 k) := by decide +kernel
abbrev cX0_init : ByteArray := prog_2_method_1_code
def yX0_init : MethodName := ⟨RX0, "<init>", "()V"⟩
abbrev cX0_take : ByteArray := prog_2_method_2_code
def yX0_take : MethodName := ⟨RX0, "take", "(LStileAccounts$State;)V"⟩
abbrev cX0_between : ByteArray := prog_2_method_3_code
def yX0_between : MethodName := ⟨RX0, "between", "(II)I"⟩
abbrev cX0_sum : ByteArray := prog_2_method_4_code
def yX0_sum : MethodName := ⟨RX0, "sum", "()I"⟩
abbrev cX0_sumWith : ByteArray := prog_2_method_5_code
def yX0_sumWith : MethodName := ⟨RX0, "sumWith", "(II)I"⟩
abbrev cX0_join : ByteArray := prog_2_method_6_code
def yX0_join : MethodName := ⟨RX0, "join", "(II)V"⟩
abbrev cX0_shortenBy : ByteArray := prog_2_method_7_code
def yX0_shortenBy : MethodName := ⟨RX0, "shortenBy", "(I)V"⟩
def RX1 : String := "StileAccounts$Drunkard"
def TX1 : u_T := fun k => match k with
  | 0 => ("StileAccounts$Drunkard", "above", "I", false)
  | 1 => ("StileAccounts$Drunkard", "below", "I", false)
  | 2 => ("StileAccounts$Drunkard", "chances", "[I", true)
  | _ => ("StileAccounts$Drunkard", "before", "[I", true)
def tyX1 : Nat → FieldType := fun k => match k with
  | 0 => .int
  | 1 => .int
  | 2 => .array .int
  | _ => .array .int
theorem nmX1 : ∀ a, a < 4 → ∀ b, b < 4 → a ≠ b → (TX1 a).2.1 ≠ (TX1 b).2.1 := by decide +kernel
theorem tyX1_ok : ∀ k, k < 4 → parseFieldDescriptor (TX1 k).2.2.1 = some (tyX1 k) := by decide +kernel
abbrev cX1_init : ByteArray := prog_3_method_1_code
def yX1_init : MethodName := ⟨RX1, "<init>", "()V"⟩
abbrev cX1_stagger : ByteArray := prog_3_method_2_code
def yX1_stagger : MethodName := ⟨RX1, "stagger", "(LStileAccounts$State;III)V"⟩
abbrev cX1_goOnFrom : ByteArray := prog_3_method_3_code
def yX1_goOnFrom : MethodName := ⟨RX1, "goOnFrom", "(LStileAccounts$State;II)V"⟩
abbrev cX1_reduceChanceOf : ByteArray := prog_3_method_4_code
def yX1_reduceChanceOf : MethodName := ⟨RX1, "reduceChanceOf", "(II)V"⟩
abbrev cX1_reduceBy2 : ByteArray := prog_3_method_5_code
def yX1_reduceBy2 : MethodName := ⟨RX1, "reduceBy2", "()V"⟩
abbrev cX1_reduceBy5 : ByteArray := prog_3_method_6_code
def yX1_reduceBy5 : MethodName := ⟨RX1, "reduceBy5", "()V"⟩
def RX2 : String := "StileAccounts$Leveller"
def TX2 : u_T := fun k => match k with
  | _ => ("StileAccounts$Leveller", "leaves", "[I", true)
def tyX2 : Nat → FieldType := fun k => match k with
  | _ => .array .int
theorem nmX2 : ∀ a, a < 1 → ∀ b, b < 1 → a ≠ b → (TX2 a).2.1 ≠ (TX2 b).2.1 := by decide +kernel
theorem tyX2_ok : ∀ k, k < 1 → parseFieldDescriptor (TX2 k).2.2.1 = some (tyX2 k) := by decide +kernel
abbrev cX2_init : ByteArray := prog_4_method_1_code
def yX2_init : MethodName := ⟨RX2, "<init>", "()V"⟩
abbrev cX2_fewestTreads : ByteArray := prog_4_method_2_code
def yX2_fewestTreads : MethodName := ⟨RX2, "fewestTreads", "(LStileAccounts$State;I)I"⟩
abbrev cX2_treadsOwed : ByteArray := prog_4_method_3_code
def yX2_treadsOwed : MethodName := ⟨RX2, "treadsOwed", "(LStileAccounts$State;I)I"⟩
abbrev cX2_takeLeaves : ByteArray := prog_4_method_4_code
def yX2_takeLeaves : MethodName := ⟨RX2, "takeLeaves", "(LStileAccounts$State;I)V"⟩
abbrev cX2_isOneWalkFrom : ByteArray := prog_4_method_5_code
def yX2_isOneWalkFrom : MethodName := ⟨RX2, "isOneWalkFrom", "(II)Z"⟩
abbrev cX2_fewestOthers : ByteArray := prog_4_method_6_code
def yX2_fewestOthers : MethodName := ⟨RX2, "fewestOthers", "(LStileAccounts$Plan;II)I"⟩
abbrev cX2_comesToAll : ByteArray := prog_4_method_7_code
def yX2_comesToAll : MethodName := ⟨RX2, "comesToAll", "(LStileAccounts$Plan;II)Z"⟩
def RX3 : String := "StileAccounts$Measurer"
def TX3 : u_T := fun k => match k with
  | _ => ("StileAccounts$Measurer", "uneven", "[I", true)
def tyX3 : Nat → FieldType := fun k => match k with
  | _ => .array .int
theorem nmX3 : ∀ a, a < 1 → ∀ b, b < 1 → a ≠ b → (TX3 a).2.1 ≠ (TX3 b).2.1 := by decide +kernel
theorem tyX3_ok : ∀ k, k < 1 → parseFieldDescriptor (TX3 k).2.2.1 = some (tyX3 k) := by decide +kernel
abbrev cX3_init : ByteArray := prog_5_method_1_code
def yX3_init : MethodName := ⟨RX3, "<init>", "()V"⟩
abbrev cX3_fewestStiles : ByteArray := prog_5_method_2_code
def yX3_fewestStiles : MethodName := ⟨RX3, "fewestStiles", "(LStileAccounts$State;)I"⟩
abbrev cX3_tellsAll : ByteArray := prog_5_method_3_code
def yX3_tellsAll : MethodName := ⟨RX3, "tellsAll", "(II)Z"⟩
def RX4 : String := "StileAccounts$Plan"
def TX4 : u_T := fun k => match k with
  | 0 => ("StileAccounts$Plan", "fields", "I", false)
  | 1 => ("StileAccounts$Plan", "limit", "I", false)
  | 2 => ("StileAccounts$Plan", "stiles", "I", false)
  | 3 => ("StileAccounts$Plan", "walkers", "I", false)
  | 4 => ("StileAccounts$Plan", "stileKind", "[I", true)
  | 5 => ("StileAccounts$Plan", "from", "[I", true)
  | 6 => ("StileAccounts$Plan", "to", "[I", true)
  | 7 => ("StileAccounts$Plan", "walkerKind", "[I", true)
  | 8 => ("StileAccounts$Plan", "start", "[I", true)
  | _ => ("StileAccounts$Plan", "weight", "[I", true)
def tyX4 : Nat → FieldType := fun k => match k with
  | 0 => .int
  | 1 => .int
  | 2 => .int
  | 3 => .int
  | 4 => .array .int
  | 5 => .array .int
  | 6 => .array .int
  | 7 => .array .int
  | 8 => .array .int
  | _ => .array .int
theorem nmX4 : ∀ a, a < 10 → ∀ b, b < 10 → a ≠ b → (TX4 a).2.1 ≠ (TX4 b).2.1 := by decide +kernel
theorem tyX4_ok : ∀ k, k < 10 → parseFieldDescriptor (TX4 k).2.2.1 = some (tyX4 k) := by decide +kernel
abbrev cX4_init : ByteArray := prog_6_method_1_code
def yX4_init : MethodName := ⟨RX4, "<init>", "()V"⟩
abbrev cX4_clear : ByteArray := prog_6_method_2_code
def yX4_clear : MethodName := ⟨RX4, "clear", "()V"⟩
abbrev cX4_copyFrom : ByteArray := prog_6_method_3_code
def yX4_copyFrom : MethodName := ⟨RX4, "copyFrom", "(LStileAccounts$Plan;)V"⟩
abbrev cX4_addStile : ByteArray := prog_6_method_4_code
def yX4_addStile : MethodName := ⟨RX4, "addStile", "(III)Z"⟩
abbrev cX4_addWalker : ByteArray := prog_6_method_5_code
def yX4_addWalker : MethodName := ⟨RX4, "addWalker", "(III)Z"⟩
abbrev cX4_hasField : ByteArray := prog_6_method_6_code
def yX4_hasField : MethodName := ⟨RX4, "hasField", "(I)Z"⟩
abbrev cX4_hasStile : ByteArray := prog_6_method_7_code
def yX4_hasStile : MethodName := ⟨RX4, "hasStile", "(I)Z"⟩
abbrev cX4_hasWalker : ByteArray := prog_6_method_8_code
def yX4_hasWalker : MethodName := ⟨RX4, "hasWalker", "(I)Z"⟩
abbrev cX4_isAt : ByteArray := prog_6_method_9_code
def yX4_isAt : MethodName := ⟨RX4, "isAt", "(II)Z"⟩
abbrev cX4_across : ByteArray := prog_6_method_10_code
def yX4_across : MethodName := ⟨RX4, "across", "(II)I"⟩
abbrev cX4_hasStileBetween : ByteArray := prog_6_method_11_code
def yX4_hasStileBetween : MethodName := ⟨RX4, "hasStileBetween", "(II)Z"⟩
abbrev cX4_lowestStileAt : ByteArray := prog_6_method_12_code
def yX4_lowestStileAt : MethodName := ⟨RX4, "lowestStileAt", "(I)I"⟩
abbrev cX4_wearOf : ByteArray := prog_6_method_13_code
def yX4_wearOf : MethodName := ⟨RX4, "wearOf", "(II)I"⟩
abbrev cX4_gainOf : ByteArray := prog_6_method_14_code
def yX4_gainOf : MethodName := ⟨RX4, "gainOf", "(II)I"⟩
abbrev cX4_treadsToWear : ByteArray := prog_6_method_15_code
def yX4_treadsToWear : MethodName := ⟨RX4, "treadsToWear", "(III)I"⟩
def RX5 : String := "StileAccounts$Sightings"
def TX5 : u_T := fun k => match k with
  | 0 => ("StileAccounts$Sightings", "size", "I", false)
  | 1 => ("StileAccounts$Sightings", "stiles", "[I", true)
  | _ => ("StileAccounts$Sightings", "wears", "[I", true)
def tyX5 : Nat → FieldType := fun k => match k with
  | 0 => .int
  | 1 => .array .int
  | _ => .array .int
theorem nmX5 : ∀ a, a < 3 → ∀ b, b < 3 → a ≠ b → (TX5 a).2.1 ≠ (TX5 b).2.1 := by decide +kernel
theorem tyX5_ok : ∀ k, k < 3 → parseFieldDescriptor (TX5 k).2.2.1 = some (tyX5 k) := by decide +kernel
abbrev cX5_init : ByteArray := prog_7_method_1_code
def yX5_init : MethodName := ⟨RX5, "<init>", "()V"⟩
abbrev cX5_add : ByteArray := prog_7_method_2_code
def yX5_add : MethodName := ⟨RX5, "add", "(II)Z"⟩
abbrev cX5_canBeOf : ByteArray := prog_7_method_3_code
def yX5_canBeOf : MethodName := ⟨RX5, "canBeOf", "(LStileAccounts$Plan;II)Z"⟩
def RX6 : String := "StileAccounts$State"
def TX6 : u_T := fun k => match k with
  | 0 => ("StileAccounts$State", "treads", "I", false)
  | 1 => ("StileAccounts$State", "worn", "[I", true)
  | 2 => ("StileAccounts$State", "place", "[I", true)
  | 3 => ("StileAccounts$State", "credit", "[I", true)
  | 4 => ("StileAccounts$State", "latest", "[I", true)
  | 5 => ("StileAccounts$State", "accounts", "[I", true)
  | _ => ("StileAccounts$State", "plan", "LStileAccounts$Plan;", true)
def tyX6 : Nat → FieldType := fun k => match k with
  | 0 => .int
  | 1 => .array .int
  | 2 => .array .int
  | 3 => .array .int
  | 4 => .array .int
  | 5 => .array .int
  | _ => .object "StileAccounts$Plan"
theorem nmX6 : ∀ a, a < 7 → ∀ b, b < 7 → a ≠ b → (TX6 a).2.1 ≠ (TX6 b).2.1 := by decide +kernel
theorem tyX6_ok : ∀ k, k < 7 → parseFieldDescriptor (TX6 k).2.2.1 = some (tyX6 k) := by decide +kernel
abbrev cX6_init : ByteArray := prog_8_method_1_code
def yX6_init : MethodName := ⟨RX6, "<init>", "(LStileAccounts$Plan;)V"⟩
abbrev cX6_begin : ByteArray := prog_8_method_2_code
def yX6_begin : MethodName := ⟨RX6, "begin", "()V"⟩
abbrev cX6_copyFrom : ByteArray := prog_8_method_3_code
def yX6_copyFrom : MethodName := ⟨RX6, "copyFrom", "(LStileAccounts$State;)V"⟩
abbrev cX6_goOver : ByteArray := prog_8_method_4_code
def yX6_goOver : MethodName := ⟨RX6, "goOver", "(II)V"⟩
abbrev cX6_wearBy : ByteArray := prog_8_method_5_code
def yX6_wearBy : MethodName := ⟨RX6, "wearBy", "(II)V"⟩
abbrev cX6_renew : ByteArray := prog_8_method_6_code
def yX6_renew : MethodName := ⟨RX6, "renew", "(I)V"⟩
abbrev cX6_accountOf : ByteArray := prog_8_method_7_code
def yX6_accountOf : MethodName := ⟨RX6, "accountOf", "(II)I"⟩
abbrev cX6_unevenStiles : ByteArray := prog_8_method_8_code
def yX6_unevenStiles : MethodName := ⟨RX6, "unevenStiles", "(I)I"⟩
abbrev cX6_isLevel : ByteArray := prog_8_method_9_code
def yX6_isLevel : MethodName := ⟨RX6, "isLevel", "(I)Z"⟩
abbrev cX6_isBroken : ByteArray := prog_8_method_10_code
def yX6_isBroken : MethodName := ⟨RX6, "isBroken", "(I)Z"⟩
abbrev cX6_isOpenAt : ByteArray := prog_8_method_11_code
def yX6_isOpenAt : MethodName := ⟨RX6, "isOpenAt", "(II)Z"⟩
abbrev cX6_openStilesAt : ByteArray := prog_8_method_12_code
def yX6_openStilesAt : MethodName := ⟨RX6, "openStilesAt", "(I)I"⟩
abbrev cX6_openStileAt : ByteArray := prog_8_method_13_code
def yX6_openStileAt : MethodName := ⟨RX6, "openStileAt", "(II)I"⟩
abbrev cX6_brokenStiles : ByteArray := prog_8_method_14_code
def yX6_brokenStiles : MethodName := ⟨RX6, "brokenStiles", "()I"⟩
abbrev cX6_wornOfAll : ByteArray := prog_8_method_15_code
def yX6_wornOfAll : MethodName := ⟨RX6, "wornOfAll", "()I"⟩
abbrev cX6_creditOfAll : ByteArray := prog_8_method_16_code
def yX6_creditOfAll : MethodName := ⟨RX6, "creditOfAll", "()I"⟩
def RX7 : String := "StileAccounts$States"
def TX7 : u_T := fun k => match k with
  | 0 => ("StileAccounts$States", "size", "I", false)
  | _ => ("StileAccounts$States", "rows", "[LStileAccounts$State;", true)
def tyX7 : Nat → FieldType := fun k => match k with
  | 0 => .int
  | _ => .array (.object "StileAccounts$State")
theorem nmX7 : ∀ a, a < 2 → ∀ b, b < 2 → a ≠ b → (TX7 a).2.1 ≠ (TX7 b).2.1 := by decide +kernel
theorem tyX7_ok : ∀ k, k < 2 → parseFieldDescriptor (TX7 k).2.2.1 = some (tyX7 k) := by decide +kernel
abbrev cX7_init : ByteArray := prog_9_method_1_code
def yX7_init : MethodName := ⟨RX7, "<init>", "(ILStileAccounts$Plan;)V"⟩
abbrev cX7_isFull : ByteArray := prog_9_method_2_code
def yX7_isFull : MethodName := ⟨RX7, "isFull", "()Z"⟩
abbrev cX7_push : ByteArray := prog_9_method_3_code
def yX7_push : MethodName := ⟨RX7, "push", "(LStileAccounts$State;)V"⟩
abbrev cX7_popInto : ByteArray := prog_9_method_4_code
def yX7_popInto : MethodName := ⟨RX7, "popInto", "(LStileAccounts$State;)Z"⟩
abbrev cX7_loseOldest : ByteArray := prog_9_method_5_code
def yX7_loseOldest : MethodName := ⟨RX7, "loseOldest", "()V"⟩
def RX8 : String := "StileAccounts$Text"
def TX8 : u_T := fun k => match k with
  | 0 => ("StileAccounts$Text", "length", "I", false)
  | 1 => ("StileAccounts$Text", "told", "LStileAccounts$Plan;", true)
  | 2 => ("StileAccounts$Text", "letters", "[C", true)
  | 3 => ("StileAccounts$Text", "numbers", "[I", true)
  | 4 => ("StileAccounts$Text", "numberCount", "I", false)
  | _ => ("StileAccounts$Text", "fieldsAreFixed", "Z", false)
def tyX8 : Nat → FieldType := fun k => match k with
  | 0 => .int
  | 1 => .object "StileAccounts$Plan"
  | 2 => .array .char
  | 3 => .array .int
  | 4 => .int
  | _ => .boolean
theorem nmX8 : ∀ a, a < 6 → ∀ b, b < 6 → a ≠ b → (TX8 a).2.1 ≠ (TX8 b).2.1 := by decide +kernel
theorem tyX8_ok : ∀ k, k < 6 → parseFieldDescriptor (TX8 k).2.2.1 = some (tyX8 k) := by decide +kernel
abbrev cX8_init : ByteArray := prog_10_method_1_code
def yX8_init : MethodName := ⟨RX8, "<init>", "()V"⟩
abbrev cX8_append : ByteArray := prog_10_method_2_code
def yX8_append : MethodName := ⟨RX8, "append", "(C)Z"⟩
abbrev cX8_firstFault : ByteArray := prog_10_method_3_code
def yX8_firstFault : MethodName := ⟨RX8, "firstFault", "()I"⟩
abbrev cX8_readNumbers : ByteArray := prog_10_method_4_code
def yX8_readNumbers : MethodName := ⟨RX8, "readNumbers", "(I)I"⟩
abbrev cX8_takeItem : ByteArray := prog_10_method_5_code
def yX8_takeItem : MethodName := ⟨RX8, "takeItem", "(C)Z"⟩
abbrev cX8_takeFields : ByteArray := prog_10_method_6_code
def yX8_takeFields : MethodName := ⟨RX8, "takeFields", "()Z"⟩
abbrev cX8_takeLimit : ByteArray := prog_10_method_7_code
def yX8_takeLimit : MethodName := ⟨RX8, "takeLimit", "()Z"⟩
def RX9 : String := "StileAccounts"
def TX9 : u_T := fun k => match k with
  | 0 => ("StileAccounts", "text", "LStileAccounts$Text;", true)
  | 1 => ("StileAccounts", "plan", "LStileAccounts$Plan;", true)
  | 2 => ("StileAccounts", "now", "LStileAccounts$State;", true)
  | 3 => ("StileAccounts", "dream", "LStileAccounts$State;", true)
  | 4 => ("StileAccounts", "past", "LStileAccounts$States;", true)
  | 5 => ("StileAccounts", "kept", "LStileAccounts$States;", true)
  | 6 => ("StileAccounts", "sightings", "LStileAccounts$Sightings;", true)
  | 7 => ("StileAccounts", "distances", "LStileAccounts$Distances;", true)
  | 8 => ("StileAccounts", "leveller", "LStileAccounts$Leveller;", true)
  | 9 => ("StileAccounts", "measurer", "LStileAccounts$Measurer;", true)
  | _ => ("StileAccounts", "drunkard", "LStileAccounts$Drunkard;", true)
def tyX9 : Nat → FieldType := fun k => match k with
  | 0 => .object "StileAccounts$Text"
  | 1 => .object "StileAccounts$Plan"
  | 2 => .object "StileAccounts$State"
  | 3 => .object "StileAccounts$State"
  | 4 => .object "StileAccounts$States"
  | 5 => .object "StileAccounts$States"
  | 6 => .object "StileAccounts$Sightings"
  | 7 => .object "StileAccounts$Distances"
  | 8 => .object "StileAccounts$Leveller"
  | 9 => .object "StileAccounts$Measurer"
  | _ => .object "StileAccounts$Drunkard"
theorem nmX9 : ∀ a, a < 11 → ∀ b, b < 11 → a ≠ b → (TX9 a).2.1 ≠ (TX9 b).2.1 := by decide +kernel
theorem tyX9_ok : ∀ k, k < 11 → parseFieldDescriptor (TX9 k).2.2.1 = some (tyX9 k) := by decide +kernel
abbrev cX9_init : ByteArray := prog_1_method_1_code
def yX9_init : MethodName := ⟨RX9, "<init>", "()V"⟩
abbrev cX9_write : ByteArray := prog_1_method_2_code
def yX9_write : MethodName := ⟨RX9, "write", "(I)I"⟩
abbrev cX9_wipe : ByteArray := prog_1_method_3_code
def yX9_wipe : MethodName := ⟨RX9, "wipe", "()I"⟩
abbrev cX9_fault : ByteArray := prog_1_method_4_code
def yX9_fault : MethodName := ⟨RX9, "fault", "()I"⟩
abbrev cX9_lay : ByteArray := prog_1_method_5_code
def yX9_lay : MethodName := ⟨RX9, "lay", "()I"⟩
abbrev cX9_stile : ByteArray := prog_1_method_6_code
def yX9_stile : MethodName := ⟨RX9, "stile", "(II)I"⟩
abbrev cX9_walker : ByteArray := prog_1_method_7_code
def yX9_walker : MethodName := ⟨RX9, "walker", "(II)I"⟩
abbrev cX9_account : ByteArray := prog_1_method_8_code
def yX9_account : MethodName := ⟨RX9, "account", "(II)I"⟩
abbrev cX9_tread : ByteArray := prog_1_method_9_code
def yX9_tread : MethodName := ⟨RX9, "tread", "(II)I"⟩
abbrev cX9_replace : ByteArray := prog_1_method_10_code
def yX9_replace : MethodName := ⟨RX9, "replace", "(I)I"⟩
abbrev cX9_sand : ByteArray := prog_1_method_11_code
def yX9_sand : MethodName := ⟨RX9, "sand", "(I)I"⟩
abbrev cX9_undo : ByteArray := prog_1_method_12_code
def yX9_undo : MethodName := ⟨RX9, "undo", "()I"⟩
abbrev cX9_way : ByteArray := prog_1_method_13_code
def yX9_way : MethodName := ⟨RX9, "way", "(III)I"⟩
abbrev cX9_even : ByteArray := prog_1_method_14_code
def yX9_even : MethodName := ⟨RX9, "even", "(I)I"⟩
abbrev cX9_measure : ByteArray := prog_1_method_15_code
def yX9_measure : MethodName := ⟨RX9, "measure", "(I)I"⟩
abbrev cX9_fresh : ByteArray := prog_1_method_16_code
def yX9_fresh : MethodName := ⟨RX9, "fresh", "(I)I"⟩
abbrev cX9_lasts : ByteArray := prog_1_method_17_code
def yX9_lasts : MethodName := ⟨RX9, "lasts", "(II)I"⟩
abbrev cX9_richest : ByteArray := prog_1_method_18_code
def yX9_richest : MethodName := ⟨RX9, "richest", "()I"⟩
abbrev cX9_see : ByteArray := prog_1_method_19_code
def yX9_see : MethodName := ⟨RX9, "see", "(II)I"⟩
abbrev cX9_forget : ByteArray := prog_1_method_20_code
def yX9_forget : MethodName := ⟨RX9, "forget", "()I"⟩
abbrev cX9_whose : ByteArray := prog_1_method_21_code
def yX9_whose : MethodName := ⟨RX9, "whose", "(I)I"⟩
abbrev cX9_often : ByteArray := prog_1_method_22_code
def yX9_often : MethodName := ⟨RX9, "often", "(III)I"⟩
abbrev cX9_drunk : ByteArray := prog_1_method_23_code
def yX9_drunk : MethodName := ⟨RX9, "drunk", "(IIIII)I"⟩
abbrev cX9_year : ByteArray := prog_1_method_24_code
def yX9_year : MethodName := ⟨RX9, "year", "(III)I"⟩
abbrev cX9_keep : ByteArray := prog_1_method_25_code
def yX9_keep : MethodName := ⟨RX9, "keep", "()I"⟩
abbrev cX9_back : ByteArray := prog_1_method_26_code
def yX9_back : MethodName := ⟨RX9, "back", "()I"⟩
abbrev cX9_count : ByteArray := prog_1_method_27_code
def yX9_count : MethodName := ⟨RX9, "count", "(I)I"⟩
abbrev cX9_layFirstText : ByteArray := prog_1_method_28_code
def yX9_layFirstText : MethodName := ⟨RX9, "layFirstText", "()V"⟩
abbrev cX9_layTold : ByteArray := prog_1_method_29_code
def yX9_layTold : MethodName := ⟨RX9, "layTold", "()V"⟩
abbrev cX9_firstStile : ByteArray := prog_1_method_30_code
def yX9_firstStile : MethodName := ⟨RX9, "firstStile", "(II)I"⟩
abbrev cX9_bestNewPair : ByteArray := prog_1_method_31_code
def yX9_bestNewPair : MethodName := ⟨RX9, "bestNewPair", "()I"⟩
abbrev cX9_drawOf : ByteArray := prog_1_method_32_code
def yX9_drawOf : MethodName := ⟨RX9, "drawOf", "(II)I"⟩
abbrev cX9_dreamTread : ByteArray := prog_1_method_33_code
def yX9_dreamTread : MethodName := ⟨RX9, "dreamTread", "(I)V"⟩
def RX10 : String := "StileAccountsModel"
def TX10 : u_T := fun k => match k with
  | 0 => ("StileAccountsModel", "w", "[I", true)
  | 1 => ("StileAccountsModel", "undoes", "I", false)
  | 2 => ("StileAccountsModel", "kept", "I", false)
  | 3 => ("StileAccountsModel", "fields", "I", false)
  | 4 => ("StileAccountsModel", "stiles", "I", false)
  | 5 => ("StileAccountsModel", "stileKind", "[I", true)
  | 6 => ("StileAccountsModel", "from", "[I", true)
  | 7 => ("StileAccountsModel", "to", "[I", true)
  | 8 => ("StileAccountsModel", "walkers", "I", false)
  | 9 => ("StileAccountsModel", "walkerKind", "[I", true)
  | 10 => ("StileAccountsModel", "heavy", "[I", true)
  | 11 => ("StileAccountsModel", "breaks", "I", false)
  | 12 => ("StileAccountsModel", "seen", "I", false)
  | 13 => ("StileAccountsModel", "seenStile", "[I", true)
  | 14 => ("StileAccountsModel", "seenBy", "[I", true)
  | 15 => ("StileAccountsModel", "text", "[I", true)
  | 16 => ("StileAccountsModel", "texted", "I", false)
  | 17 => ("StileAccountsModel", "place", "I", false)
  | 18 => ("StileAccountsModel", "number", "I", false)
  | 19 => ("StileAccountsModel", "readFields", "I", false)
  | 20 => ("StileAccountsModel", "readStiles", "I", false)
  | 21 => ("StileAccountsModel", "readStile", "[I", true)
  | 22 => ("StileAccountsModel", "readWalkers", "I", false)
  | 23 => ("StileAccountsModel", "readWalker", "[I", true)
  | 24 => ("StileAccountsModel", "readBreaks", "I", false)
  | 25 => ("StileAccountsModel", "others", "Z", false)
  | 26 => ("StileAccountsModel", "apart", "[I", true)
  | _ => ("StileAccountsModel", "lot", "[I", true)
def tyX10 : Nat → FieldType := fun k => match k with
  | 0 => .array .int
  | 1 => .int
  | 2 => .int
  | 3 => .int
  | 4 => .int
  | 5 => .array .int
  | 6 => .array .int
  | 7 => .array .int
  | 8 => .int
  | 9 => .array .int
  | 10 => .array .int
  | 11 => .int
  | 12 => .int
  | 13 => .array .int
  | 14 => .array .int
  | 15 => .array .int
  | 16 => .int
  | 17 => .int
  | 18 => .int
  | 19 => .int
  | 20 => .int
  | 21 => .array .int
  | 22 => .int
  | 23 => .array .int
  | 24 => .int
  | 25 => .boolean
  | 26 => .array .int
  | _ => .array .int
theorem nmX10 : ∀ a, a < 28 → ∀ b, b < 28 → a ≠ b → (TX10 a).2.1 ≠ (TX10 b).2.1 := by decide +kernel
theorem tyX10_ok : ∀ k, k < 28 → parseFieldDescriptor (TX10 k).2.2.1 = some (tyX10 k) := by decide +kernel
abbrev cX10_init : ByteArray := prog_12_method_1_code
def yX10_init : MethodName := ⟨RX10, "<init>", "()V"⟩
abbrev cX10_in : ByteArray := prog_12_method_3_code
def yX10_in : MethodName := ⟨RX10, "in", "(JJJ)Z"⟩
abbrev cX10_has : ByteArray := prog_12_method_4_code
def yX10_has : MethodName := ⟨RX10, "has", "(II)Z"⟩
abbrev cX10_ones : ByteArray := prog_12_method_5_code
def yX10_ones : MethodName := ⟨RX10, "ones", "(I)I"⟩
abbrev cX10_copy : ByteArray := prog_12_method_6_code
def yX10_copy : MethodName := ⟨RX10, "copy", "(II)V"⟩
abbrev cX10_isField : ByteArray := prog_12_method_7_code
def yX10_isField : MethodName := ⟨RX10, "isField", "(I)Z"⟩
abbrev cX10_isStile : ByteArray := prog_12_method_8_code
def yX10_isStile : MethodName := ⟨RX10, "isStile", "(I)Z"⟩
abbrev cX10_isWalker : ByteArray := prog_12_method_9_code
def yX10_isWalker : MethodName := ⟨RX10, "isWalker", "(I)Z"⟩
abbrev cX10_addsStile : ByteArray := prog_12_method_10_code
def yX10_addsStile : MethodName := ⟨RX10, "addsStile", "(III)V"⟩
abbrev cX10_addsWalker : ByteArray := prog_12_method_11_code
def yX10_addsWalker : MethodName := ⟨RX10, "addsWalker", "(III)V"⟩
abbrev cX10_begins : ByteArray := prog_12_method_12_code
def yX10_begins : MethodName := ⟨RX10, "begins", "()V"⟩
abbrev cX10_write : ByteArray := prog_12_method_13_code
def yX10_write : MethodName := ⟨RX10, "write", "(I)I"⟩
abbrev cX10_wipe : ByteArray := prog_12_method_14_code
def yX10_wipe : MethodName := ⟨RX10, "wipe", "()I"⟩
abbrev cX10_letterAt : ByteArray := prog_12_method_15_code
def yX10_letterAt : MethodName := ⟨RX10, "letterAt", "(I)I"⟩
abbrev cX10_takesNumber : ByteArray := prog_12_method_16_code
def yX10_takesNumber : MethodName := ⟨RX10, "takesNumber", "(III)Z"⟩
abbrev cX10_takesFields : ByteArray := prog_12_method_17_code
def yX10_takesFields : MethodName := ⟨RX10, "takesFields", "()Z"⟩
abbrev cX10_takesStile : ByteArray := prog_12_method_18_code
def yX10_takesStile : MethodName := ⟨RX10, "takesStile", "()Z"⟩
abbrev cX10_takesWalker : ByteArray := prog_12_method_19_code
def yX10_takesWalker : MethodName := ⟨RX10, "takesWalker", "()Z"⟩
abbrev cX10_takesBreaks : ByteArray := prog_12_method_20_code
def yX10_takesBreaks : MethodName := ⟨RX10, "takesBreaks", "()Z"⟩
abbrev cX10_takesItem : ByteArray := prog_12_method_21_code
def yX10_takesItem : MethodName := ⟨RX10, "takesItem", "()Z"⟩
abbrev cX10_faultOf : ByteArray := prog_12_method_22_code
def yX10_faultOf : MethodName := ⟨RX10, "faultOf", "()I"⟩
abbrev cX10_fault : ByteArray := prog_12_method_23_code
def yX10_fault : MethodName := ⟨RX10, "fault", "()I"⟩
abbrev cX10_lay : ByteArray := prog_12_method_24_code
def yX10_lay : MethodName := ⟨RX10, "lay", "()I"⟩
abbrev cX10_isBroken : ByteArray := prog_12_method_25_code
def yX10_isBroken : MethodName := ⟨RX10, "isBroken", "(II)Z"⟩
abbrev cX10_isAt : ByteArray := prog_12_method_26_code
def yX10_isAt : MethodName := ⟨RX10, "isAt", "(II)Z"⟩
abbrev cX10_otherEnd : ByteArray := prog_12_method_27_code
def yX10_otherEnd : MethodName := ⟨RX10, "otherEnd", "(II)I"⟩
abbrev cX10_wears : ByteArray := prog_12_method_28_code
def yX10_wears : MethodName := ⟨RX10, "wears", "(II)I"⟩
abbrev cX10_earns : ByteArray := prog_12_method_29_code
def yX10_earns : MethodName := ⟨RX10, "earns", "(II)I"⟩
abbrev cX10_wornMore : ByteArray := prog_12_method_30_code
def yX10_wornMore : MethodName := ⟨RX10, "wornMore", "(III)V"⟩
abbrev cX10_goes : ByteArray := prog_12_method_31_code
def yX10_goes : MethodName := ⟨RX10, "goes", "(III)V"⟩
abbrev cX10_isAnew : ByteArray := prog_12_method_32_code
def yX10_isAnew : MethodName := ⟨RX10, "isAnew", "(II)V"⟩
abbrev cX10_isLevel : ByteArray := prog_12_method_33_code
def yX10_isLevel : MethodName := ⟨RX10, "isLevel", "(I)Z"⟩
abbrev cX10_stile : ByteArray := prog_12_method_34_code
def yX10_stile : MethodName := ⟨RX10, "stile", "(II)I"⟩
abbrev cX10_walker : ByteArray := prog_12_method_35_code
def yX10_walker : MethodName := ⟨RX10, "walker", "(II)I"⟩
abbrev cX10_account : ByteArray := prog_12_method_36_code
def yX10_account : MethodName := ⟨RX10, "account", "(II)I"⟩
abbrev cX10_minds : ByteArray := prog_12_method_37_code
def yX10_minds : MethodName := ⟨RX10, "minds", "()V"⟩
abbrev cX10_tread : ByteArray := prog_12_method_38_code
def yX10_tread : MethodName := ⟨RX10, "tread", "(II)I"⟩
abbrev cX10_replace : ByteArray := prog_12_method_39_code
def yX10_replace : MethodName := ⟨RX10, "replace", "(I)I"⟩
abbrev cX10_sand : ByteArray := prog_12_method_40_code
def yX10_sand : MethodName := ⟨RX10, "sand", "(I)I"⟩
abbrev cX10_undo : ByteArray := prog_12_method_41_code
def yX10_undo : MethodName := ⟨RX10, "undo", "()I"⟩
abbrev cX10_layApart : ByteArray := prog_12_method_42_code
def yX10_layApart : MethodName := ⟨RX10, "layApart", "()V"⟩
abbrev cX10_closeApart : ByteArray := prog_12_method_43_code
def yX10_closeApart : MethodName := ⟨RX10, "closeApart", "()V"⟩
abbrev cX10_allApart : ByteArray := prog_12_method_44_code
def yX10_allApart : MethodName := ⟨RX10, "allApart", "()I"⟩
abbrev cX10_way : ByteArray := prog_12_method_45_code
def yX10_way : MethodName := ⟨RX10, "way", "(III)I"⟩
abbrev cX10_joins : ByteArray := prog_12_method_46_code
def yX10_joins : MethodName := ⟨RX10, "joins", "(I)V"⟩
abbrev cX10_hangs : ByteArray := prog_12_method_47_code
def yX10_hangs : MethodName := ⟨RX10, "hangs", "(II)Z"⟩
abbrev cX10_owedOut : ByteArray := prog_12_method_48_code
def yX10_owedOut : MethodName := ⟨RX10, "owedOut", "(II)I"⟩
abbrev cX10_isOwed : ByteArray := prog_12_method_49_code
def yX10_isOwed : MethodName := ⟨RX10, "isOwed", "(I)Z"⟩
abbrev cX10_even : ByteArray := prog_12_method_50_code
def yX10_even : MethodName := ⟨RX10, "even", "(I)I"⟩
abbrev cX10_meets : ByteArray := prog_12_method_51_code
def yX10_meets : MethodName := ⟨RX10, "meets", "(II)Z"⟩
abbrev cX10_measure : ByteArray := prog_12_method_52_code
def yX10_measure : MethodName := ⟨RX10, "measure", "(I)I"⟩
abbrev cX10_areJoined : ByteArray := prog_12_method_53_code
def yX10_areJoined : MethodName := ⟨RX10, "areJoined", "(II)Z"⟩
abbrev cX10_fresh : ByteArray := prog_12_method_54_code
def yX10_fresh : MethodName := ⟨RX10, "fresh", "(I)I"⟩
abbrev cX10_lasts : ByteArray := prog_12_method_55_code
def yX10_lasts : MethodName := ⟨RX10, "lasts", "(II)I"⟩
abbrev cX10_richest : ByteArray := prog_12_method_56_code
def yX10_richest : MethodName := ⟨RX10, "richest", "()I"⟩
abbrev cX10_see : ByteArray := prog_12_method_57_code
def yX10_see : MethodName := ⟨RX10, "see", "(II)I"⟩
abbrev cX10_forget : ByteArray := prog_12_method_58_code
def yX10_forget : MethodName := ⟨RX10, "forget", "()I"⟩
abbrev cX10_oftenBy : ByteArray := prog_12_method_59_code
def yX10_oftenBy : MethodName := ⟨RX10, "oftenBy", "(III)I"⟩
abbrev cX10_whose : ByteArray := prog_12_method_60_code
def yX10_whose : MethodName := ⟨RX10, "whose", "(I)I"⟩
abbrev cX10_often : ByteArray := prog_12_method_61_code
def yX10_often : MethodName := ⟨RX10, "often", "(III)I"⟩
abbrev cX10_nthAt : ByteArray := prog_12_method_62_code
def yX10_nthAt : MethodName := ⟨RX10, "nthAt", "(III)I"⟩
abbrev cX10_manyAt : ByteArray := prog_12_method_63_code
def yX10_manyAt : MethodName := ⟨RX10, "manyAt", "(II)I"⟩
abbrev cX10_drunk : ByteArray := prog_12_method_64_code
def yX10_drunk : MethodName := ⟨RX10, "drunk", "(IIIII)I"⟩
abbrev cX10_lowestAt : ByteArray := prog_12_method_65_code
def yX10_lowestAt : MethodName := ⟨RX10, "lowestAt", "(I)I"⟩
abbrev cX10_creditIn : ByteArray := prog_12_method_66_code
def yX10_creditIn : MethodName := ⟨RX10, "creditIn", "(I)I"⟩
abbrev cX10_brokenIn : ByteArray := prog_12_method_67_code
def yX10_brokenIn : MethodName := ⟨RX10, "brokenIn", "(I)I"⟩
abbrev cX10_year : ByteArray := prog_12_method_68_code
def yX10_year : MethodName := ⟨RX10, "year", "(III)I"⟩
abbrev cX10_keep : ByteArray := prog_12_method_69_code
def yX10_keep : MethodName := ⟨RX10, "keep", "()I"⟩
abbrev cX10_back : ByteArray := prog_12_method_70_code
def yX10_back : MethodName := ⟨RX10, "back", "()I"⟩
abbrev cX10_wornOfAll : ByteArray := prog_12_method_71_code
def yX10_wornOfAll : MethodName := ⟨RX10, "wornOfAll", "()I"⟩
abbrev cX10_count : ByteArray := prog_12_method_72_code
def yX10_count : MethodName := ⟨RX10, "count", "(I)I"⟩
def RJ6 : String := "java/lang/Integer"
abbrev cJ6_bitCount_0f7a4 : ByteArray := prog_13_method_49_code
def yJ6_bitCount_0f7a4 : MethodName := ⟨RJ6, "bitCount", "(I)I"⟩
def RJ9 : String := "java/lang/Math"
abbrev cJ9_abs_0f7a4 : ByteArray := prog_14_method_59_code
def yJ9_abs_0f7a4 : MethodName := ⟨RJ9, "abs", "(I)I"⟩
abbrev cJ9_max_7cf53 : ByteArray := prog_14_method_65_code
def yJ9_max_7cf53 : MethodName := ⟨RJ9, "max", "(II)I"⟩
abbrev cJ9_min_7cf53 : ByteArray := prog_14_method_69_code
def yJ9_min_7cf53 : MethodName := ⟨RJ9, "min", "(II)I"⟩
def RJ0 : String := "java/lang/String"
abbrev cJ0_length_8abf5 : ByteArray := prog_15_method_54_code
def yJ0_length_8abf5 : MethodName := ⟨RJ0, "length", "()I"⟩
abbrev cJ0_charAt_5068e : ByteArray := prog_15_method_56_code
def yJ0_charAt_5068e : MethodName := ⟨RJ0, "charAt", "(I)C"⟩
abbrev cJ0_coder_7d493 : ByteArray := prog_15_method_152_code
def yJ0_coder_7d493 : MethodName := ⟨RJ0, "coder", "()B"⟩
abbrev cJ0_isLatin1_aae02 : ByteArray := prog_15_method_154_code
def yJ0_isLatin1_aae02 : MethodName := ⟨RJ0, "isLatin1", "()Z"⟩
abbrev cJ0_checkIndex_df160 : ByteArray := prog_15_method_155_code
def yJ0_checkIndex_df160 : MethodName := ⟨RJ0, "checkIndex", "(II)V"⟩
def RJ1 : String := "java/lang/StringLatin1"
abbrev cJ1_charAt_3b067 : ByteArray := prog_16_method_2_code
def yJ1_charAt_3b067 : MethodName := ⟨RJ1, "charAt", "([BI)C"⟩
def RJ2 : String := "java/lang/StringUTF16"
abbrev cJ2_getChar_3b067 : ByteArray := prog_17_method_5_code
def yJ2_getChar_3b067 : MethodName := ⟨RJ2, "getChar", "([BI)C"⟩
abbrev cJ2_length_9d52b : ByteArray := prog_17_method_6_code
def yJ2_length_9d52b : MethodName := ⟨RJ2, "length", "([B)I"⟩
abbrev cJ2_charAt_3b067 : ByteArray := prog_17_method_83_code
def yJ2_charAt_3b067 : MethodName := ⟨RJ2, "charAt", "([BI)C"⟩
abbrev cJ2_checkIndex_2214a : ByteArray := prog_17_method_91_code
def yJ2_checkIndex_2214a : MethodName := ⟨RJ2, "checkIndex", "(I[B)V"⟩
def RJ10 : String := "java/lang/System"
def RJ3 : String := "jdk/internal/util/Preconditions"
abbrev cJ3_checkIndex_8e157 : ByteArray := prog_19_method_11_code
def yJ3_checkIndex_8e157 : MethodName := ⟨RJ3, "checkIndex", "(IILjava/util/function/BiFunction;)I"⟩
def RL : String := "StileAccountsLaw"
abbrev cL_law : ByteArray := code
def yL_law : MethodName := ⟨RL, "law", "([I)Z"⟩
theorem dX0_init_0 : decode cX0_init 0 = .ok (.aload_n 0, 1) := by decide +kernel
theorem dX0_init_1 : decode cX0_init 1 = .ok (.invokespecial 3, 3) := by decide +kernel
theorem dX0_init_4 : decode cX0_init 4 = .ok (.aload_n 0, 1) := by decide +kernel
theorem dX0_init_5 : decode cX0_init 5 = .ok (.bipush 64, 2) := by decide +kernel
theorem dX0_init_7 : decode cX0_init 7 = .ok (.newarray .int, 2) := by decide +kernel
theorem dX0_init_9 : decode cX0_init 9 = .ok (.putfield 9, 3) := by decide +kernel
theorem dX0_init_12 : decode cX0_init 12 = .ok (.return_, 1) := by decide +kernel
theorem dX0_take_0 : decode cX0_take 0 = .ok (.aload_n 0, 1) := by decide +kernel
theorem dX0_take_1 : decode cX0_take 1 = .ok (.aload_n 1, 1) := by decide +kernel
theorem dX0_take_2 : decode cX0_take 2 = .ok (.getfield 15, 3) := by decide +kernel
theorem dX0_take_5 : decode cX0_take 5 = .ok (.getfield 21, 3) := by decide +kernel
theorem dX0_take_8 : decode cX0_take 8 = .ok (.putfield 27, 3) := by decide +kernel
theorem dX0_take_11 : decode cX0_take 11 = .ok (.iconst 0, 1) := by decide +kernel
theorem dX0_take_12 : decode cX0_take 12 = .ok (.istore_n 2, 1) := by decide +kernel
theorem dX0_take_13 : decode cX0_take 13 = .ok (.iload_n 2, 1) := by decide +kernel
theorem dX0_take_14 : decode cX0_take 14 = .ok (.aload_n 0, 1) := by decide +kernel
theorem dX0_take_15 : decode cX0_take 15 = .ok (.getfield 27, 3) := by decide +kernel
theorem dX0_take_18 : decode cX0_take 18 = .ok (.if_icmp .ge 47, 3) := by decide +kernel
theorem dX0_take_21 : decode cX0_take 21 = .ok (.iconst 0, 1) := by decide +kernel
theorem dX0_take_22 : decode cX0_take 22 = .ok (.istore_n 3, 1) := by decide +kernel
theorem dX0_take_23 : decode cX0_take 23 = .ok (.iload_n 3, 1) := by decide +kernel
theorem dX0_take_24 : decode cX0_take 24 = .ok (.aload_n 0, 1) := by decide +kernel
theorem dX0_take_25 : decode cX0_take 25 = .ok (.getfield 27, 3) := by decide +kernel
theorem dX0_take_28 : decode cX0_take 28 = .ok (.if_icmp .ge 31, 3) := by decide +kernel
theorem dX0_take_31 : decode cX0_take 31 = .ok (.aload_n 0, 1) := by decide +kernel
theorem dX0_take_32 : decode cX0_take 32 = .ok (.getfield 9, 3) := by decide +kernel
theorem dX0_take_35 : decode cX0_take 35 = .ok (.iload_n 2, 1) := by decide +kernel
theorem dX0_take_36 : decode cX0_take 36 = .ok (.bipush 8, 2) := by decide +kernel
theorem dX0_take_38 : decode cX0_take 38 = .ok (.imul, 1) := by decide +kernel
theorem dX0_take_39 : decode cX0_take 39 = .ok (.iload_n 3, 1) := by decide +kernel
theorem dX0_take_40 : decode cX0_take 40 = .ok (.iadd, 1) := by decide +kernel
theorem dX0_take_41 : decode cX0_take 41 = .ok (.iload_n 2, 1) := by decide +kernel
theorem dX0_take_42 : decode cX0_take 42 = .ok (.iload_n 3, 1) := by decide +kernel
theorem dX0_take_43 : decode cX0_take 43 = .ok (.if_icmp .ne 7, 3) := by decide +kernel
theorem dX0_take_46 : decode cX0_take 46 = .ok (.iconst 0, 1) := by decide +kernel
theorem dX0_take_47 : decode cX0_take 47 = .ok (.goto 5, 3) := by decide +kernel
theorem dX0_take_50 : decode cX0_take 50 = .ok (.bipush 20, 2) := by decide +kernel
theorem dX0_take_52 : decode cX0_take 52 = .ok (.iastore, 1) := by decide +kernel
theorem dX0_take_53 : decode cX0_take 53 = .ok (.iinc 3 1, 3) := by decide +kernel
theorem dX0_take_56 : decode cX0_take 56 = .ok (.goto (-33), 3) := by decide +kernel
theorem dX0_take_59 : decode cX0_take 59 = .ok (.iinc 2 1, 3) := by decide +kernel
theorem dX0_take_62 : decode cX0_take 62 = .ok (.goto (-49), 3) := by decide +kernel
theorem dX0_take_65 : decode cX0_take 65 = .ok (.iconst 0, 1) := by decide +kernel
theorem dX0_take_66 : decode cX0_take 66 = .ok (.istore_n 2, 1) := by decide +kernel
theorem dX0_take_67 : decode cX0_take 67 = .ok (.iload_n 2, 1) := by decide +kernel
theorem dX0_take_68 : decode cX0_take 68 = .ok (.aload_n 1, 1) := by decide +kernel
theorem dX0_take_69 : decode cX0_take 69 = .ok (.getfield 15, 3) := by decide +kernel
theorem dX0_take_72 : decode cX0_take 72 = .ok (.getfield 28, 3) := by decide +kernel
theorem dX0_take_75 : decode cX0_take 75 = .ok (.if_icmp .ge 39, 3) := by decide +kernel
theorem dX0_take_78 : decode cX0_take 78 = .ok (.aload_n 1, 1) := by decide +kernel
theorem dX0_take_79 : decode cX0_take 79 = .ok (.iload_n 2, 1) := by decide +kernel
theorem dX0_take_80 : decode cX0_take 80 = .ok (.invokevirtual 31, 3) := by decide +kernel
theorem dX0_take_83 : decode cX0_take 83 = .ok (.ifCond .ne 25, 3) := by decide +kernel
theorem dX0_take_86 : decode cX0_take 86 = .ok (.aload_n 0, 1) := by decide +kernel
theorem dX0_take_87 : decode cX0_take 87 = .ok (.aload_n 1, 1) := by decide +kernel
theorem dX0_take_88 : decode cX0_take 88 = .ok (.getfield 15, 3) := by decide +kernel
theorem dX0_take_91 : decode cX0_take 91 = .ok (.getfield 35, 3) := by decide +kernel
theorem dX0_take_94 : decode cX0_take 94 = .ok (.iload_n 2, 1) := by decide +kernel
theorem dX0_take_95 : decode cX0_take 95 = .ok (.iaload, 1) := by decide +kernel
theorem dX0_take_96 : decode cX0_take 96 = .ok (.aload_n 1, 1) := by decide +kernel
theorem dX0_take_97 : decode cX0_take 97 = .ok (.getfield 15, 3) := by decide +kernel
theorem dX0_take_100 : decode cX0_take 100 = .ok (.getfield 38, 3) := by decide +kernel
theorem dX0_take_103 : decode cX0_take 103 = .ok (.iload_n 2, 1) := by decide +kernel
theorem dX0_take_104 : decode cX0_take 104 = .ok (.iaload, 1) := by decide +kernel
theorem dX0_take_105 : decode cX0_take 105 = .ok (.invokevirtual 41, 3) := by decide +kernel
theorem dX0_take_108 : decode cX0_take 108 = .ok (.iinc 2 1, 3) := by decide +kernel
theorem dX0_take_111 : decode cX0_take 111 = .ok (.goto (-44), 3) := by decide +kernel
theorem dX0_take_114 : decode cX0_take 114 = .ok (.iconst 0, 1) := by decide +kernel
theorem dX0_take_115 : decode cX0_take 115 = .ok (.istore_n 2, 1) := by decide +kernel
theorem dX0_take_116 : decode cX0_take 116 = .ok (.iload_n 2, 1) := by decide +kernel
theorem dX0_take_117 : decode cX0_take 117 = .ok (.aload_n 0, 1) := by decide +kernel
theorem dX0_take_118 : decode cX0_take 118 = .ok (.getfield 27, 3) := by decide +kernel
theorem dX0_take_121 : decode cX0_take 121 = .ok (.if_icmp .ge 14, 3) := by decide +kernel
theorem dX0_take_124 : decode cX0_take 124 = .ok (.aload_n 0, 1) := by decide +kernel
theorem dX0_take_125 : decode cX0_take 125 = .ok (.iload_n 2, 1) := by decide +kernel
theorem dX0_take_126 : decode cX0_take 126 = .ok (.invokevirtual 45, 3) := by decide +kernel
theorem dX0_take_129 : decode cX0_take 129 = .ok (.iinc 2 1, 3) := by decide +kernel
theorem dX0_take_132 : decode cX0_take 132 = .ok (.goto (-16), 3) := by decide +kernel
theorem dX0_take_135 : decode cX0_take 135 = .ok (.return_, 1) := by decide +kernel
theorem dX0_between_0 : decode cX0_between 0 = .ok (.aload_n 0, 1) := by decide +kernel
theorem dX0_between_1 : decode cX0_between 1 = .ok (.getfield 9, 3) := by decide +kernel
theorem dX0_between_4 : decode cX0_between 4 = .ok (.iload_n 1, 1) := by decide +kernel
theorem dX0_between_5 : decode cX0_between 5 = .ok (.bipush 8, 2) := by decide +kernel
theorem dX0_between_7 : decode cX0_between 7 = .ok (.imul, 1) := by decide +kernel
theorem dX0_between_8 : decode cX0_between 8 = .ok (.iload_n 2, 1) := by decide +kernel
theorem dX0_between_9 : decode cX0_between 9 = .ok (.iadd, 1) := by decide +kernel
theorem dX0_between_10 : decode cX0_between 10 = .ok (.iaload, 1) := by decide +kernel
theorem dX0_between_11 : decode cX0_between 11 = .ok (.ireturn, 1) := by decide +kernel
theorem dX0_sum_0 : decode cX0_sum 0 = .ok (.iconst 0, 1) := by decide +kernel
theorem dX0_sum_1 : decode cX0_sum 1 = .ok (.istore_n 1, 1) := by decide +kernel
theorem dX0_sum_2 : decode cX0_sum 2 = .ok (.iconst 0, 1) := by decide +kernel
theorem dX0_sum_3 : decode cX0_sum 3 = .ok (.istore_n 2, 1) := by decide +kernel
theorem dX0_sum_4 : decode cX0_sum 4 = .ok (.iload_n 2, 1) := by decide +kernel
theorem dX0_sum_5 : decode cX0_sum 5 = .ok (.aload_n 0, 1) := by decide +kernel
theorem dX0_sum_6 : decode cX0_sum 6 = .ok (.getfield 27, 3) := by decide +kernel
theorem dX0_sum_9 : decode cX0_sum 9 = .ok (.if_icmp .ge 36, 3) := by decide +kernel
theorem dX0_sum_12 : decode cX0_sum 12 = .ok (.iload_n 2, 1) := by decide +kernel
theorem dX0_sum_13 : decode cX0_sum 13 = .ok (.iconst 1, 1) := by decide +kernel
theorem dX0_sum_14 : decode cX0_sum 14 = .ok (.iadd, 1) := by decide +kernel
theorem dX0_sum_15 : decode cX0_sum 15 = .ok (.istore_n 3, 1) := by decide +kernel
theorem dX0_sum_16 : decode cX0_sum 16 = .ok (.iload_n 3, 1) := by decide +kernel
theorem dX0_sum_17 : decode cX0_sum 17 = .ok (.aload_n 0, 1) := by decide +kernel
theorem dX0_sum_18 : decode cX0_sum 18 = .ok (.getfield 27, 3) := by decide +kernel
theorem dX0_sum_21 : decode cX0_sum 21 = .ok (.if_icmp .ge 18, 3) := by decide +kernel
theorem dX0_sum_24 : decode cX0_sum 24 = .ok (.iload_n 1, 1) := by decide +kernel
theorem dX0_sum_25 : decode cX0_sum 25 = .ok (.aload_n 0, 1) := by decide +kernel
theorem dX0_sum_26 : decode cX0_sum 26 = .ok (.iload_n 2, 1) := by decide +kernel
theorem dX0_sum_27 : decode cX0_sum 27 = .ok (.iload_n 3, 1) := by decide +kernel
theorem dX0_sum_28 : decode cX0_sum 28 = .ok (.invokevirtual 49, 3) := by decide +kernel
theorem dX0_sum_31 : decode cX0_sum 31 = .ok (.iadd, 1) := by decide +kernel
theorem dX0_sum_32 : decode cX0_sum 32 = .ok (.istore_n 1, 1) := by decide +kernel
theorem dX0_sum_33 : decode cX0_sum 33 = .ok (.iinc 3 1, 3) := by decide +kernel
theorem dX0_sum_36 : decode cX0_sum 36 = .ok (.goto (-20), 3) := by decide +kernel
theorem dX0_sum_39 : decode cX0_sum 39 = .ok (.iinc 2 1, 3) := by decide +kernel
theorem dX0_sum_42 : decode cX0_sum 42 = .ok (.goto (-38), 3) := by decide +kernel
theorem dX0_sum_45 : decode cX0_sum 45 = .ok (.iload_n 1, 1) := by decide +kernel
theorem dX0_sum_46 : decode cX0_sum 46 = .ok (.ireturn, 1) := by decide +kernel
theorem dX0_sumWith_0 : decode cX0_sumWith 0 = .ok (.iconst 0, 1) := by decide +kernel
theorem dX0_sumWith_1 : decode cX0_sumWith 1 = .ok (.istore_n 3, 1) := by decide +kernel
theorem dX0_sumWith_2 : decode cX0_sumWith 2 = .ok (.iconst 0, 1) := by decide +kernel
theorem dX0_sumWith_3 : decode cX0_sumWith 3 = .ok (.istore 4, 2) := by decide +kernel
theorem dX0_sumWith_5 : decode cX0_sumWith 5 = .ok (.iload 4, 2) := by decide +kernel
theorem dX0_sumWith_7 : decode cX0_sumWith 7 = .ok (.aload_n 0, 1) := by decide +kernel
theorem dX0_sumWith_8 : decode cX0_sumWith 8 = .ok (.getfield 27, 3) := by decide +kernel
theorem dX0_sumWith_11 : decode cX0_sumWith 11 = .ok (.if_icmp .ge 83, 3) := by decide +kernel
theorem dX0_sumWith_14 : decode cX0_sumWith 14 = .ok (.iload 4, 2) := by decide +kernel
theorem dX0_sumWith_16 : decode cX0_sumWith 16 = .ok (.iconst 1, 1) := by decide +kernel
theorem dX0_sumWith_17 : decode cX0_sumWith 17 = .ok (.iadd, 1) := by decide +kernel
theorem dX0_sumWith_18 : decode cX0_sumWith 18 = .ok (.istore 5, 2) := by decide +kernel
theorem dX0_sumWith_20 : decode cX0_sumWith 20 = .ok (.iload 5, 2) := by decide +kernel
theorem dX0_sumWith_22 : decode cX0_sumWith 22 = .ok (.aload_n 0, 1) := by decide +kernel
theorem dX0_sumWith_23 : decode cX0_sumWith 23 = .ok (.getfield 27, 3) := by decide +kernel
theorem dX0_sumWith_26 : decode cX0_sumWith 26 = .ok (.if_icmp .ge 62, 3) := by decide +kernel
theorem dX0_sumWith_29 : decode cX0_sumWith 29 = .ok (.aload_n 0, 1) := by decide +kernel
theorem dX0_sumWith_30 : decode cX0_sumWith 30 = .ok (.iload 4, 2) := by decide +kernel
theorem dX0_sumWith_32 : decode cX0_sumWith 32 = .ok (.iload_n 1, 1) := by decide +kernel
theorem dX0_sumWith_33 : decode cX0_sumWith 33 = .ok (.invokevirtual 49, 3) := by decide +kernel
theorem dX0_sumWith_36 : decode cX0_sumWith 36 = .ok (.aload_n 0, 1) := by decide +kernel
theorem dX0_sumWith_37 : decode cX0_sumWith 37 = .ok (.iload_n 2, 1) := by decide +kernel
theorem dX0_sumWith_38 : decode cX0_sumWith 38 = .ok (.iload 5, 2) := by decide +kernel
theorem dX0_sumWith_40 : decode cX0_sumWith 40 = .ok (.invokevirtual 49, 3) := by decide +kernel
theorem dX0_sumWith_43 : decode cX0_sumWith 43 = .ok (.iadd, 1) := by decide +kernel
theorem dX0_sumWith_44 : decode cX0_sumWith 44 = .ok (.aload_n 0, 1) := by decide +kernel
theorem dX0_sumWith_45 : decode cX0_sumWith 45 = .ok (.iload 4, 2) := by decide +kernel
theorem dX0_sumWith_47 : decode cX0_sumWith 47 = .ok (.iload_n 2, 1) := by decide +kernel
theorem dX0_sumWith_48 : decode cX0_sumWith 48 = .ok (.invokevirtual 49, 3) := by decide +kernel
theorem dX0_sumWith_51 : decode cX0_sumWith 51 = .ok (.aload_n 0, 1) := by decide +kernel
theorem dX0_sumWith_52 : decode cX0_sumWith 52 = .ok (.iload_n 1, 1) := by decide +kernel
theorem dX0_sumWith_53 : decode cX0_sumWith 53 = .ok (.iload 5, 2) := by decide +kernel
theorem dX0_sumWith_55 : decode cX0_sumWith 55 = .ok (.invokevirtual 49, 3) := by decide +kernel
theorem dX0_sumWith_58 : decode cX0_sumWith 58 = .ok (.iadd, 1) := by decide +kernel
theorem dX0_sumWith_59 : decode cX0_sumWith 59 = .ok (.invokestatic 53, 3) := by decide +kernel
theorem dX0_sumWith_62 : decode cX0_sumWith 62 = .ok (.iconst 1, 1) := by decide +kernel
theorem dX0_sumWith_63 : decode cX0_sumWith 63 = .ok (.iadd, 1) := by decide +kernel
theorem dX0_sumWith_64 : decode cX0_sumWith 64 = .ok (.istore 6, 2) := by decide +kernel
theorem dX0_sumWith_66 : decode cX0_sumWith 66 = .ok (.iload_n 3, 1) := by decide +kernel
theorem dX0_sumWith_67 : decode cX0_sumWith 67 = .ok (.aload_n 0, 1) := by decide +kernel
theorem dX0_sumWith_68 : decode cX0_sumWith 68 = .ok (.iload 4, 2) := by decide +kernel
theorem dX0_sumWith_70 : decode cX0_sumWith 70 = .ok (.iload 5, 2) := by decide +kernel
theorem dX0_sumWith_72 : decode cX0_sumWith 72 = .ok (.invokevirtual 49, 3) := by decide +kernel
theorem dX0_sumWith_75 : decode cX0_sumWith 75 = .ok (.iload 6, 2) := by decide +kernel
theorem dX0_sumWith_77 : decode cX0_sumWith 77 = .ok (.invokestatic 53, 3) := by decide +kernel
theorem dX0_sumWith_80 : decode cX0_sumWith 80 = .ok (.iadd, 1) := by decide +kernel
theorem dX0_sumWith_81 : decode cX0_sumWith 81 = .ok (.istore_n 3, 1) := by decide +kernel
theorem dX0_sumWith_82 : decode cX0_sumWith 82 = .ok (.iinc 5 1, 3) := by decide +kernel
theorem dX0_sumWith_85 : decode cX0_sumWith 85 = .ok (.goto (-65), 3) := by decide +kernel
theorem dX0_sumWith_88 : decode cX0_sumWith 88 = .ok (.iinc 4 1, 3) := by decide +kernel
theorem dX0_sumWith_91 : decode cX0_sumWith 91 = .ok (.goto (-86), 3) := by decide +kernel
theorem dX0_sumWith_94 : decode cX0_sumWith 94 = .ok (.iload_n 3, 1) := by decide +kernel
theorem dX0_sumWith_95 : decode cX0_sumWith 95 = .ok (.ireturn, 1) := by decide +kernel
theorem dX0_join_0 : decode cX0_join 0 = .ok (.aload_n 0, 1) := by decide +kernel
theorem dX0_join_1 : decode cX0_join 1 = .ok (.getfield 9, 3) := by decide +kernel
theorem dX0_join_4 : decode cX0_join 4 = .ok (.iload_n 1, 1) := by decide +kernel
theorem dX0_join_5 : decode cX0_join 5 = .ok (.bipush 8, 2) := by decide +kernel
theorem dX0_join_7 : decode cX0_join 7 = .ok (.imul, 1) := by decide +kernel
theorem dX0_join_8 : decode cX0_join 8 = .ok (.iload_n 2, 1) := by decide +kernel
theorem dX0_join_9 : decode cX0_join 9 = .ok (.iadd, 1) := by decide +kernel
theorem dX0_join_10 : decode cX0_join 10 = .ok (.iconst 1, 1) := by decide +kernel
theorem dX0_join_11 : decode cX0_join 11 = .ok (.iastore, 1) := by decide +kernel
theorem dX0_join_12 : decode cX0_join 12 = .ok (.aload_n 0, 1) := by decide +kernel
theorem dX0_join_13 : decode cX0_join 13 = .ok (.getfield 9, 3) := by decide +kernel
theorem dX0_join_16 : decode cX0_join 16 = .ok (.iload_n 2, 1) := by decide +kernel
theorem dX0_join_17 : decode cX0_join 17 = .ok (.bipush 8, 2) := by decide +kernel
theorem dX0_join_19 : decode cX0_join 19 = .ok (.imul, 1) := by decide +kernel
theorem dX0_join_20 : decode cX0_join 20 = .ok (.iload_n 1, 1) := by decide +kernel
theorem dX0_join_21 : decode cX0_join 21 = .ok (.iadd, 1) := by decide +kernel
theorem dX0_join_22 : decode cX0_join 22 = .ok (.iconst 1, 1) := by decide +kernel
theorem dX0_join_23 : decode cX0_join 23 = .ok (.iastore, 1) := by decide +kernel
theorem dX0_join_24 : decode cX0_join 24 = .ok (.return_, 1) := by decide +kernel
theorem dX0_shortenBy_0 : decode cX0_shortenBy 0 = .ok (.iconst 0, 1) := by decide +kernel
theorem dX0_shortenBy_1 : decode cX0_shortenBy 1 = .ok (.istore_n 2, 1) := by decide +kernel
theorem dX0_shortenBy_2 : decode cX0_shortenBy 2 = .ok (.iload_n 2, 1) := by decide +kernel
theorem dX0_shortenBy_3 : decode cX0_shortenBy 3 = .ok (.aload_n 0, 1) := by decide +kernel
theorem dX0_shortenBy_4 : decode cX0_shortenBy 4 = .ok (.getfield 27, 3) := by decide +kernel
theorem dX0_shortenBy_7 : decode cX0_shortenBy 7 = .ok (.if_icmp .ge 62, 3) := by decide +kernel
theorem dX0_shortenBy_10 : decode cX0_shortenBy 10 = .ok (.iconst 0, 1) := by decide +kernel
theorem dX0_shortenBy_11 : decode cX0_shortenBy 11 = .ok (.istore_n 3, 1) := by decide +kernel
theorem dX0_shortenBy_12 : decode cX0_shortenBy 12 = .ok (.iload_n 3, 1) := by decide +kernel
theorem dX0_shortenBy_13 : decode cX0_shortenBy 13 = .ok (.aload_n 0, 1) := by decide +kernel
theorem dX0_shortenBy_14 : decode cX0_shortenBy 14 = .ok (.getfield 27, 3) := by decide +kernel
theorem dX0_shortenBy_17 : decode cX0_shortenBy 17 = .ok (.if_icmp .ge 46, 3) := by decide +kernel
theorem dX0_shortenBy_20 : decode cX0_shortenBy 20 = .ok (.aload_n 0, 1) := by decide +kernel
theorem dX0_shortenBy_21 : decode cX0_shortenBy 21 = .ok (.iload_n 2, 1) := by decide +kernel
theorem dX0_shortenBy_22 : decode cX0_shortenBy 22 = .ok (.iload_n 1, 1) := by decide +kernel
theorem dX0_shortenBy_23 : decode cX0_shortenBy 23 = .ok (.invokevirtual 49, 3) := by decide +kernel
theorem dX0_shortenBy_26 : decode cX0_shortenBy 26 = .ok (.aload_n 0, 1) := by decide +kernel
theorem dX0_shortenBy_27 : decode cX0_shortenBy 27 = .ok (.iload_n 1, 1) := by decide +kernel
theorem dX0_shortenBy_28 : decode cX0_shortenBy 28 = .ok (.iload_n 3, 1) := by decide +kernel
theorem dX0_shortenBy_29 : decode cX0_shortenBy 29 = .ok (.invokevirtual 49, 3) := by decide +kernel
theorem dX0_shortenBy_32 : decode cX0_shortenBy 32 = .ok (.iadd, 1) := by decide +kernel
theorem dX0_shortenBy_33 : decode cX0_shortenBy 33 = .ok (.istore 4, 2) := by decide +kernel
theorem dX0_shortenBy_35 : decode cX0_shortenBy 35 = .ok (.aload_n 0, 1) := by decide +kernel
theorem dX0_shortenBy_36 : decode cX0_shortenBy 36 = .ok (.getfield 9, 3) := by decide +kernel
theorem dX0_shortenBy_39 : decode cX0_shortenBy 39 = .ok (.iload_n 2, 1) := by decide +kernel
theorem dX0_shortenBy_40 : decode cX0_shortenBy 40 = .ok (.bipush 8, 2) := by decide +kernel
theorem dX0_shortenBy_42 : decode cX0_shortenBy 42 = .ok (.imul, 1) := by decide +kernel
theorem dX0_shortenBy_43 : decode cX0_shortenBy 43 = .ok (.iload_n 3, 1) := by decide +kernel
theorem dX0_shortenBy_44 : decode cX0_shortenBy 44 = .ok (.iadd, 1) := by decide +kernel
theorem dX0_shortenBy_45 : decode cX0_shortenBy 45 = .ok (.aload_n 0, 1) := by decide +kernel
theorem dX0_shortenBy_46 : decode cX0_shortenBy 46 = .ok (.iload_n 2, 1) := by decide +kernel
theorem dX0_shortenBy_47 : decode cX0_shortenBy 47 = .ok (.iload_n 3, 1) := by decide +kernel
theorem dX0_shortenBy_48 : decode cX0_shortenBy 48 = .ok (.invokevirtual 49, 3) := by decide +kernel
theorem dX0_shortenBy_51 : decode cX0_shortenBy 51 = .ok (.iload 4, 2) := by decide +kernel
theorem dX0_shortenBy_53 : decode cX0_shortenBy 53 = .ok (.invokestatic 53, 3) := by decide +kernel
theorem dX0_shortenBy_56 : decode cX0_shortenBy 56 = .ok (.iastore, 1) := by decide +kernel
theorem dX0_shortenBy_57 : decode cX0_shortenBy 57 = .ok (.iinc 3 1, 3) := by decide +kernel
theorem dX0_shortenBy_60 : decode cX0_shortenBy 60 = .ok (.goto (-48), 3) := by decide +kernel
theorem dX0_shortenBy_63 : decode cX0_shortenBy 63 = .ok (.iinc 2 1, 3) := by decide +kernel
theorem dX0_shortenBy_66 : decode cX0_shortenBy 66 = .ok (.goto (-64), 3) := by decide +kernel
theorem dX0_shortenBy_69 : decode cX0_shortenBy 69 = .ok (.return_, 1) := by decide +kernel
theorem dX1_init_0 : decode cX1_init 0 = .ok (.aload_n 0, 1) := by decide +kernel
theorem dX1_init_1 : decode cX1_init 1 = .ok (.invokespecial 3, 3) := by decide +kernel
theorem dX1_init_4 : decode cX1_init 4 = .ok (.aload_n 0, 1) := by decide +kernel
theorem dX1_init_5 : decode cX1_init 5 = .ok (.bipush 8, 2) := by decide +kernel
theorem dX1_init_7 : decode cX1_init 7 = .ok (.newarray .int, 2) := by decide +kernel
theorem dX1_init_9 : decode cX1_init 9 = .ok (.putfield 9, 3) := by decide +kernel
theorem dX1_init_12 : decode cX1_init 12 = .ok (.aload_n 0, 1) := by decide +kernel
theorem dX1_init_13 : decode cX1_init 13 = .ok (.bipush 8, 2) := by decide +kernel
theorem dX1_init_15 : decode cX1_init 15 = .ok (.newarray .int, 2) := by decide +kernel
theorem dX1_init_17 : decode cX1_init 17 = .ok (.putfield 15, 3) := by decide +kernel
theorem dX1_init_20 : decode cX1_init 20 = .ok (.return_, 1) := by decide +kernel
theorem dX1_stagger_0 : decode cX1_stagger 0 = .ok (.iconst 0, 1) := by decide +kernel
theorem dX1_stagger_1 : decode cX1_stagger 1 = .ok (.istore 5, 2) := by decide +kernel
theorem dX1_stagger_3 : decode cX1_stagger 3 = .ok (.iload 5, 2) := by decide +kernel
theorem dX1_stagger_5 : decode cX1_stagger 5 = .ok (.bipush 8, 2) := by decide +kernel
theorem dX1_stagger_7 : decode cX1_stagger 7 = .ok (.if_icmp .ge 27, 3) := by decide +kernel
theorem dX1_stagger_10 : decode cX1_stagger 10 = .ok (.aload_n 0, 1) := by decide +kernel
theorem dX1_stagger_11 : decode cX1_stagger 11 = .ok (.getfield 9, 3) := by decide +kernel
theorem dX1_stagger_14 : decode cX1_stagger 14 = .ok (.iload 5, 2) := by decide +kernel
theorem dX1_stagger_16 : decode cX1_stagger 16 = .ok (.iload 5, 2) := by decide +kernel
theorem dX1_stagger_18 : decode cX1_stagger 18 = .ok (.iload_n 2, 1) := by decide +kernel
theorem dX1_stagger_19 : decode cX1_stagger 19 = .ok (.if_icmp .ne 7, 3) := by decide +kernel
theorem dX1_stagger_22 : decode cX1_stagger 22 = .ok (.iconst 1, 1) := by decide +kernel
theorem dX1_stagger_23 : decode cX1_stagger 23 = .ok (.goto 4, 3) := by decide +kernel
theorem dX1_stagger_26 : decode cX1_stagger 26 = .ok (.iconst 0, 1) := by decide +kernel
theorem dX1_stagger_27 : decode cX1_stagger 27 = .ok (.iastore, 1) := by decide +kernel
theorem dX1_stagger_28 : decode cX1_stagger 28 = .ok (.iinc 5 1, 3) := by decide +kernel
theorem dX1_stagger_31 : decode cX1_stagger 31 = .ok (.goto (-28), 3) := by decide +kernel
theorem dX1_stagger_34 : decode cX1_stagger 34 = .ok (.iconst 0, 1) := by decide +kernel
theorem dX1_stagger_35 : decode cX1_stagger 35 = .ok (.istore 5, 2) := by decide +kernel
theorem dX1_stagger_37 : decode cX1_stagger 37 = .ok (.iload 5, 2) := by decide +kernel
theorem dX1_stagger_39 : decode cX1_stagger 39 = .ok (.iload_n 3, 1) := by decide +kernel
theorem dX1_stagger_40 : decode cX1_stagger 40 = .ok (.if_icmp .ge 78, 3) := by decide +kernel
theorem dX1_stagger_43 : decode cX1_stagger 43 = .ok (.aload_n 0, 1) := by decide +kernel
theorem dX1_stagger_44 : decode cX1_stagger 44 = .ok (.getfield 9, 3) := by decide +kernel
theorem dX1_stagger_47 : decode cX1_stagger 47 = .ok (.iconst 0, 1) := by decide +kernel
theorem dX1_stagger_48 : decode cX1_stagger 48 = .ok (.aload_n 0, 1) := by decide +kernel
theorem dX1_stagger_49 : decode cX1_stagger 49 = .ok (.getfield 15, 3) := by decide +kernel
theorem dX1_stagger_52 : decode cX1_stagger 52 = .ok (.iconst 0, 1) := by decide +kernel
theorem dX1_stagger_53 : decode cX1_stagger 53 = .ok (.bipush 8, 2) := by decide +kernel
theorem dX1_stagger_55 : decode cX1_stagger 55 = .ok (.invokestatic 18, 3) := by decide +kernel
theorem dX1_stagger_58 : decode cX1_stagger 58 = .ok (.iconst 0, 1) := by decide +kernel
theorem dX1_stagger_59 : decode cX1_stagger 59 = .ok (.istore 6, 2) := by decide +kernel
theorem dX1_stagger_61 : decode cX1_stagger 61 = .ok (.iload 6, 2) := by decide +kernel
theorem dX1_stagger_63 : decode cX1_stagger 63 = .ok (.bipush 8, 2) := by decide +kernel
theorem dX1_stagger_65 : decode cX1_stagger 65 = .ok (.if_icmp .ge 17, 3) := by decide +kernel
theorem dX1_stagger_68 : decode cX1_stagger 68 = .ok (.aload_n 0, 1) := by decide +kernel
theorem dX1_stagger_69 : decode cX1_stagger 69 = .ok (.getfield 9, 3) := by decide +kernel
theorem dX1_stagger_72 : decode cX1_stagger 72 = .ok (.iload 6, 2) := by decide +kernel
theorem dX1_stagger_74 : decode cX1_stagger 74 = .ok (.iconst 0, 1) := by decide +kernel
theorem dX1_stagger_75 : decode cX1_stagger 75 = .ok (.iastore, 1) := by decide +kernel
theorem dX1_stagger_76 : decode cX1_stagger 76 = .ok (.iinc 6 1, 3) := by decide +kernel
theorem dX1_stagger_79 : decode cX1_stagger 79 = .ok (.goto (-18), 3) := by decide +kernel
theorem dX1_stagger_82 : decode cX1_stagger 82 = .ok (.iconst 0, 1) := by decide +kernel
theorem dX1_stagger_83 : decode cX1_stagger 83 = .ok (.istore 6, 2) := by decide +kernel
theorem dX1_stagger_85 : decode cX1_stagger 85 = .ok (.iload 6, 2) := by decide +kernel
theorem dX1_stagger_87 : decode cX1_stagger 87 = .ok (.aload_n 1, 1) := by decide +kernel
theorem dX1_stagger_88 : decode cX1_stagger 88 = .ok (.getfield 24, 3) := by decide +kernel
theorem dX1_stagger_91 : decode cX1_stagger 91 = .ok (.getfield 30, 3) := by decide +kernel
theorem dX1_stagger_94 : decode cX1_stagger 94 = .ok (.if_icmp .ge 18, 3) := by decide +kernel
theorem dX1_stagger_97 : decode cX1_stagger 97 = .ok (.aload_n 0, 1) := by decide +kernel
theorem dX1_stagger_98 : decode cX1_stagger 98 = .ok (.aload_n 1, 1) := by decide +kernel
theorem dX1_stagger_99 : decode cX1_stagger 99 = .ok (.iload 6, 2) := by decide +kernel
theorem dX1_stagger_101 : decode cX1_stagger 101 = .ok (.iload 4, 2) := by decide +kernel
theorem dX1_stagger_103 : decode cX1_stagger 103 = .ok (.invokevirtual 36, 3) := by decide +kernel
theorem dX1_stagger_106 : decode cX1_stagger 106 = .ok (.iinc 6 1, 3) := by decide +kernel
theorem dX1_stagger_109 : decode cX1_stagger 109 = .ok (.goto (-24), 3) := by decide +kernel
theorem dX1_stagger_112 : decode cX1_stagger 112 = .ok (.iinc 5 1, 3) := by decide +kernel
theorem dX1_stagger_115 : decode cX1_stagger 115 = .ok (.goto (-78), 3) := by decide +kernel
theorem dX1_stagger_118 : decode cX1_stagger 118 = .ok (.return_, 1) := by decide +kernel
theorem dX1_goOnFrom_0 : decode cX1_goOnFrom 0 = .ok (.aload_n 1, 1) := by decide +kernel
theorem dX1_goOnFrom_1 : decode cX1_goOnFrom 1 = .ok (.iload_n 2, 1) := by decide +kernel
theorem dX1_goOnFrom_2 : decode cX1_goOnFrom 2 = .ok (.invokevirtual 40, 3) := by decide +kernel
theorem dX1_goOnFrom_5 : decode cX1_goOnFrom 5 = .ok (.istore 4, 2) := by decide +kernel
theorem dX1_goOnFrom_7 : decode cX1_goOnFrom 7 = .ok (.iload 4, 2) := by decide +kernel
theorem dX1_goOnFrom_9 : decode cX1_goOnFrom 9 = .ok (.ifCond .ne 22, 3) := by decide +kernel
theorem dX1_goOnFrom_12 : decode cX1_goOnFrom 12 = .ok (.aload_n 0, 1) := by decide +kernel
theorem dX1_goOnFrom_13 : decode cX1_goOnFrom 13 = .ok (.getfield 9, 3) := by decide +kernel
theorem dX1_goOnFrom_16 : decode cX1_goOnFrom 16 = .ok (.iload_n 2, 1) := by decide +kernel
theorem dX1_goOnFrom_17 : decode cX1_goOnFrom 17 = .ok (.dup2, 1) := by decide +kernel
theorem dX1_goOnFrom_18 : decode cX1_goOnFrom 18 = .ok (.iaload, 1) := by decide +kernel
theorem dX1_goOnFrom_19 : decode cX1_goOnFrom 19 = .ok (.bipush 10, 2) := by decide +kernel
theorem dX1_goOnFrom_21 : decode cX1_goOnFrom 21 = .ok (.aload_n 0, 1) := by decide +kernel
theorem dX1_goOnFrom_22 : decode cX1_goOnFrom 22 = .ok (.getfield 15, 3) := by decide +kernel
theorem dX1_goOnFrom_25 : decode cX1_goOnFrom 25 = .ok (.iload_n 2, 1) := by decide +kernel
theorem dX1_goOnFrom_26 : decode cX1_goOnFrom 26 = .ok (.iaload, 1) := by decide +kernel
theorem dX1_goOnFrom_27 : decode cX1_goOnFrom 27 = .ok (.imul, 1) := by decide +kernel
theorem dX1_goOnFrom_28 : decode cX1_goOnFrom 28 = .ok (.iadd, 1) := by decide +kernel
theorem dX1_goOnFrom_29 : decode cX1_goOnFrom 29 = .ok (.iastore, 1) := by decide +kernel
theorem dX1_goOnFrom_30 : decode cX1_goOnFrom 30 = .ok (.return_, 1) := by decide +kernel
theorem dX1_goOnFrom_31 : decode cX1_goOnFrom 31 = .ok (.aload_n 1, 1) := by decide +kernel
theorem dX1_goOnFrom_32 : decode cX1_goOnFrom 32 = .ok (.iload_n 2, 1) := by decide +kernel
theorem dX1_goOnFrom_33 : decode cX1_goOnFrom 33 = .ok (.iconst 0, 1) := by decide +kernel
theorem dX1_goOnFrom_34 : decode cX1_goOnFrom 34 = .ok (.invokevirtual 44, 3) := by decide +kernel
theorem dX1_goOnFrom_37 : decode cX1_goOnFrom 37 = .ok (.istore 5, 2) := by decide +kernel
theorem dX1_goOnFrom_39 : decode cX1_goOnFrom 39 = .ok (.aload_n 1, 1) := by decide +kernel
theorem dX1_goOnFrom_40 : decode cX1_goOnFrom 40 = .ok (.iload_n 2, 1) := by decide +kernel
theorem dX1_goOnFrom_41 : decode cX1_goOnFrom 41 = .ok (.iload 4, 2) := by decide +kernel
theorem dX1_goOnFrom_43 : decode cX1_goOnFrom 43 = .ok (.iconst 1, 1) := by decide +kernel
theorem dX1_goOnFrom_44 : decode cX1_goOnFrom 44 = .ok (.isub, 1) := by decide +kernel
theorem dX1_goOnFrom_45 : decode cX1_goOnFrom 45 = .ok (.invokevirtual 44, 3) := by decide +kernel
theorem dX1_goOnFrom_48 : decode cX1_goOnFrom 48 = .ok (.istore 6, 2) := by decide +kernel
theorem dX1_goOnFrom_50 : decode cX1_goOnFrom 50 = .ok (.aload_n 0, 1) := by decide +kernel
theorem dX1_goOnFrom_51 : decode cX1_goOnFrom 51 = .ok (.getfield 9, 3) := by decide +kernel
theorem dX1_goOnFrom_54 : decode cX1_goOnFrom 54 = .ok (.aload_n 1, 1) := by decide +kernel
theorem dX1_goOnFrom_55 : decode cX1_goOnFrom 55 = .ok (.getfield 24, 3) := by decide +kernel
theorem dX1_goOnFrom_58 : decode cX1_goOnFrom 58 = .ok (.iload 5, 2) := by decide +kernel
theorem dX1_goOnFrom_60 : decode cX1_goOnFrom 60 = .ok (.iload_n 2, 1) := by decide +kernel
theorem dX1_goOnFrom_61 : decode cX1_goOnFrom 61 = .ok (.invokevirtual 48, 3) := by decide +kernel
theorem dX1_goOnFrom_64 : decode cX1_goOnFrom 64 = .ok (.dup2, 1) := by decide +kernel
theorem dX1_goOnFrom_65 : decode cX1_goOnFrom 65 = .ok (.iaload, 1) := by decide +kernel
theorem dX1_goOnFrom_66 : decode cX1_goOnFrom 66 = .ok (.iload_n 3, 1) := by decide +kernel
theorem dX1_goOnFrom_67 : decode cX1_goOnFrom 67 = .ok (.aload_n 0, 1) := by decide +kernel
theorem dX1_goOnFrom_68 : decode cX1_goOnFrom 68 = .ok (.getfield 15, 3) := by decide +kernel
theorem dX1_goOnFrom_71 : decode cX1_goOnFrom 71 = .ok (.iload_n 2, 1) := by decide +kernel
theorem dX1_goOnFrom_72 : decode cX1_goOnFrom 72 = .ok (.iaload, 1) := by decide +kernel
theorem dX1_goOnFrom_73 : decode cX1_goOnFrom 73 = .ok (.imul, 1) := by decide +kernel
theorem dX1_goOnFrom_74 : decode cX1_goOnFrom 74 = .ok (.iadd, 1) := by decide +kernel
theorem dX1_goOnFrom_75 : decode cX1_goOnFrom 75 = .ok (.iastore, 1) := by decide +kernel
theorem dX1_goOnFrom_76 : decode cX1_goOnFrom 76 = .ok (.aload_n 0, 1) := by decide +kernel
theorem dX1_goOnFrom_77 : decode cX1_goOnFrom 77 = .ok (.getfield 9, 3) := by decide +kernel
theorem dX1_goOnFrom_80 : decode cX1_goOnFrom 80 = .ok (.aload_n 1, 1) := by decide +kernel
theorem dX1_goOnFrom_81 : decode cX1_goOnFrom 81 = .ok (.getfield 24, 3) := by decide +kernel
theorem dX1_goOnFrom_84 : decode cX1_goOnFrom 84 = .ok (.iload 6, 2) := by decide +kernel
theorem dX1_goOnFrom_86 : decode cX1_goOnFrom 86 = .ok (.iload_n 2, 1) := by decide +kernel
theorem dX1_goOnFrom_87 : decode cX1_goOnFrom 87 = .ok (.invokevirtual 48, 3) := by decide +kernel
theorem dX1_goOnFrom_90 : decode cX1_goOnFrom 90 = .ok (.dup2, 1) := by decide +kernel
theorem dX1_goOnFrom_91 : decode cX1_goOnFrom 91 = .ok (.iaload, 1) := by decide +kernel
theorem dX1_goOnFrom_92 : decode cX1_goOnFrom 92 = .ok (.bipush 10, 2) := by decide +kernel
theorem dX1_goOnFrom_94 : decode cX1_goOnFrom 94 = .ok (.iload_n 3, 1) := by decide +kernel
theorem dX1_goOnFrom_95 : decode cX1_goOnFrom 95 = .ok (.isub, 1) := by decide +kernel
theorem dX1_goOnFrom_96 : decode cX1_goOnFrom 96 = .ok (.aload_n 0, 1) := by decide +kernel
theorem dX1_goOnFrom_97 : decode cX1_goOnFrom 97 = .ok (.getfield 15, 3) := by decide +kernel
theorem dX1_goOnFrom_100 : decode cX1_goOnFrom 100 = .ok (.iload_n 2, 1) := by decide +kernel
theorem dX1_goOnFrom_101 : decode cX1_goOnFrom 101 = .ok (.iaload, 1) := by decide +kernel
theorem dX1_goOnFrom_102 : decode cX1_goOnFrom 102 = .ok (.imul, 1) := by decide +kernel
theorem dX1_goOnFrom_103 : decode cX1_goOnFrom 103 = .ok (.iadd, 1) := by decide +kernel
theorem dX1_goOnFrom_104 : decode cX1_goOnFrom 104 = .ok (.iastore, 1) := by decide +kernel
theorem dX1_goOnFrom_105 : decode cX1_goOnFrom 105 = .ok (.return_, 1) := by decide +kernel
theorem dX1_reduceChanceOf_0 : decode cX1_reduceChanceOf 0 = .ok (.aload_n 0, 1) := by decide +kernel
theorem dX1_reduceChanceOf_1 : decode cX1_reduceChanceOf 1 = .ok (.aload_n 0, 1) := by decide +kernel
theorem dX1_reduceChanceOf_2 : decode cX1_reduceChanceOf 2 = .ok (.getfield 9, 3) := by decide +kernel
theorem dX1_reduceChanceOf_5 : decode cX1_reduceChanceOf 5 = .ok (.iload_n 1, 1) := by decide +kernel
theorem dX1_reduceChanceOf_6 : decode cX1_reduceChanceOf 6 = .ok (.iaload, 1) := by decide +kernel
theorem dX1_reduceChanceOf_7 : decode cX1_reduceChanceOf 7 = .ok (.putfield 51, 3) := by decide +kernel
theorem dX1_reduceChanceOf_10 : decode cX1_reduceChanceOf 10 = .ok (.aload_n 0, 1) := by decide +kernel
theorem dX1_reduceChanceOf_11 : decode cX1_reduceChanceOf 11 = .ok (.iconst 1, 1) := by decide +kernel
theorem dX1_reduceChanceOf_12 : decode cX1_reduceChanceOf 12 = .ok (.putfield 54, 3) := by decide +kernel
theorem dX1_reduceChanceOf_15 : decode cX1_reduceChanceOf 15 = .ok (.iconst 0, 1) := by decide +kernel
theorem dX1_reduceChanceOf_16 : decode cX1_reduceChanceOf 16 = .ok (.istore_n 3, 1) := by decide +kernel
theorem dX1_reduceChanceOf_17 : decode cX1_reduceChanceOf 17 = .ok (.iload_n 3, 1) := by decide +kernel
theorem dX1_reduceChanceOf_18 : decode cX1_reduceChanceOf 18 = .ok (.iload_n 2, 1) := by decide +kernel
theorem dX1_reduceChanceOf_19 : decode cX1_reduceChanceOf 19 = .ok (.if_icmp .ge 20, 3) := by decide +kernel
theorem dX1_reduceChanceOf_22 : decode cX1_reduceChanceOf 22 = .ok (.aload_n 0, 1) := by decide +kernel
theorem dX1_reduceChanceOf_23 : decode cX1_reduceChanceOf 23 = .ok (.dup, 1) := by decide +kernel
theorem dX1_reduceChanceOf_24 : decode cX1_reduceChanceOf 24 = .ok (.getfield 54, 3) := by decide +kernel
theorem dX1_reduceChanceOf_27 : decode cX1_reduceChanceOf 27 = .ok (.bipush 10, 2) := by decide +kernel
theorem dX1_reduceChanceOf_29 : decode cX1_reduceChanceOf 29 = .ok (.imul, 1) := by decide +kernel
theorem dX1_reduceChanceOf_30 : decode cX1_reduceChanceOf 30 = .ok (.putfield 54, 3) := by decide +kernel
theorem dX1_reduceChanceOf_33 : decode cX1_reduceChanceOf 33 = .ok (.iinc 3 1, 3) := by decide +kernel
theorem dX1_reduceChanceOf_36 : decode cX1_reduceChanceOf 36 = .ok (.goto (-19), 3) := by decide +kernel
theorem dX1_reduceChanceOf_39 : decode cX1_reduceChanceOf 39 = .ok (.iconst 0, 1) := by decide +kernel
theorem dX1_reduceChanceOf_40 : decode cX1_reduceChanceOf 40 = .ok (.istore_n 3, 1) := by decide +kernel
theorem dX1_reduceChanceOf_41 : decode cX1_reduceChanceOf 41 = .ok (.iload_n 3, 1) := by decide +kernel
theorem dX1_reduceChanceOf_42 : decode cX1_reduceChanceOf 42 = .ok (.iload_n 2, 1) := by decide +kernel
theorem dX1_reduceChanceOf_43 : decode cX1_reduceChanceOf 43 = .ok (.if_icmp .ge 17, 3) := by decide +kernel
theorem dX1_reduceChanceOf_46 : decode cX1_reduceChanceOf 46 = .ok (.aload_n 0, 1) := by decide +kernel
theorem dX1_reduceChanceOf_47 : decode cX1_reduceChanceOf 47 = .ok (.invokevirtual 57, 3) := by decide +kernel
theorem dX1_reduceChanceOf_50 : decode cX1_reduceChanceOf 50 = .ok (.aload_n 0, 1) := by decide +kernel
theorem dX1_reduceChanceOf_51 : decode cX1_reduceChanceOf 51 = .ok (.invokevirtual 60, 3) := by decide +kernel
theorem dX1_reduceChanceOf_54 : decode cX1_reduceChanceOf 54 = .ok (.iinc 3 1, 3) := by decide +kernel
theorem dX1_reduceChanceOf_57 : decode cX1_reduceChanceOf 57 = .ok (.goto (-16), 3) := by decide +kernel
theorem dX1_reduceChanceOf_60 : decode cX1_reduceChanceOf 60 = .ok (.return_, 1) := by decide +kernel
theorem dX1_reduceBy2_0 : decode cX1_reduceBy2 0 = .ok (.aload_n 0, 1) := by decide +kernel
theorem dX1_reduceBy2_1 : decode cX1_reduceBy2 1 = .ok (.getfield 51, 3) := by decide +kernel
theorem dX1_reduceBy2_4 : decode cX1_reduceBy2 4 = .ok (.iconst 2, 1) := by decide +kernel
theorem dX1_reduceBy2_5 : decode cX1_reduceBy2 5 = .ok (.irem, 1) := by decide +kernel
theorem dX1_reduceBy2_6 : decode cX1_reduceBy2 6 = .ok (.ifCond .ne 32, 3) := by decide +kernel
theorem dX1_reduceBy2_9 : decode cX1_reduceBy2 9 = .ok (.aload_n 0, 1) := by decide +kernel
theorem dX1_reduceBy2_10 : decode cX1_reduceBy2 10 = .ok (.getfield 54, 3) := by decide +kernel
theorem dX1_reduceBy2_13 : decode cX1_reduceBy2 13 = .ok (.iconst 2, 1) := by decide +kernel
theorem dX1_reduceBy2_14 : decode cX1_reduceBy2 14 = .ok (.irem, 1) := by decide +kernel
theorem dX1_reduceBy2_15 : decode cX1_reduceBy2 15 = .ok (.ifCond .ne 23, 3) := by decide +kernel
theorem dX1_reduceBy2_18 : decode cX1_reduceBy2 18 = .ok (.aload_n 0, 1) := by decide +kernel
theorem dX1_reduceBy2_19 : decode cX1_reduceBy2 19 = .ok (.dup, 1) := by decide +kernel
theorem dX1_reduceBy2_20 : decode cX1_reduceBy2 20 = .ok (.getfield 51, 3) := by decide +kernel
theorem dX1_reduceBy2_23 : decode cX1_reduceBy2 23 = .ok (.iconst 2, 1) := by decide +kernel
theorem dX1_reduceBy2_24 : decode cX1_reduceBy2 24 = .ok (.idiv, 1) := by decide +kernel
theorem dX1_reduceBy2_25 : decode cX1_reduceBy2 25 = .ok (.putfield 51, 3) := by decide +kernel
theorem dX1_reduceBy2_28 : decode cX1_reduceBy2 28 = .ok (.aload_n 0, 1) := by decide +kernel
theorem dX1_reduceBy2_29 : decode cX1_reduceBy2 29 = .ok (.dup, 1) := by decide +kernel
theorem dX1_reduceBy2_30 : decode cX1_reduceBy2 30 = .ok (.getfield 54, 3) := by decide +kernel
theorem dX1_reduceBy2_33 : decode cX1_reduceBy2 33 = .ok (.iconst 2, 1) := by decide +kernel
theorem dX1_reduceBy2_34 : decode cX1_reduceBy2 34 = .ok (.idiv, 1) := by decide +kernel
theorem dX1_reduceBy2_35 : decode cX1_reduceBy2 35 = .ok (.putfield 54, 3) := by decide +kernel
theorem dX1_reduceBy2_38 : decode cX1_reduceBy2 38 = .ok (.return_, 1) := by decide +kernel
theorem dX1_reduceBy5_0 : decode cX1_reduceBy5 0 = .ok (.aload_n 0, 1) := by decide +kernel
theorem dX1_reduceBy5_1 : decode cX1_reduceBy5 1 = .ok (.getfield 51, 3) := by decide +kernel
theorem dX1_reduceBy5_4 : decode cX1_reduceBy5 4 = .ok (.iconst 5, 1) := by decide +kernel
theorem dX1_reduceBy5_5 : decode cX1_reduceBy5 5 = .ok (.irem, 1) := by decide +kernel
theorem dX1_reduceBy5_6 : decode cX1_reduceBy5 6 = .ok (.ifCond .ne 32, 3) := by decide +kernel
theorem dX1_reduceBy5_9 : decode cX1_reduceBy5 9 = .ok (.aload_n 0, 1) := by decide +kernel
theorem dX1_reduceBy5_10 : decode cX1_reduceBy5 10 = .ok (.getfield 54, 3) := by decide +kernel
theorem dX1_reduceBy5_13 : decode cX1_reduceBy5 13 = .ok (.iconst 5, 1) := by decide +kernel
theorem dX1_reduceBy5_14 : decode cX1_reduceBy5 14 = .ok (.irem, 1) := by decide +kernel
theorem dX1_reduceBy5_15 : decode cX1_reduceBy5 15 = .ok (.ifCond .ne 23, 3) := by decide +kernel
theorem dX1_reduceBy5_18 : decode cX1_reduceBy5 18 = .ok (.aload_n 0, 1) := by decide +kernel
theorem dX1_reduceBy5_19 : decode cX1_reduceBy5 19 = .ok (.dup, 1) := by decide +kernel
theorem dX1_reduceBy5_20 : decode cX1_reduceBy5 20 = .ok (.getfield 51, 3) := by decide +kernel
theorem dX1_reduceBy5_23 : decode cX1_reduceBy5 23 = .ok (.iconst 5, 1) := by decide +kernel
theorem dX1_reduceBy5_24 : decode cX1_reduceBy5 24 = .ok (.idiv, 1) := by decide +kernel
theorem dX1_reduceBy5_25 : decode cX1_reduceBy5 25 = .ok (.putfield 51, 3) := by decide +kernel
theorem dX1_reduceBy5_28 : decode cX1_reduceBy5 28 = .ok (.aload_n 0, 1) := by decide +kernel
theorem dX1_reduceBy5_29 : decode cX1_reduceBy5 29 = .ok (.dup, 1) := by decide +kernel
theorem dX1_reduceBy5_30 : decode cX1_reduceBy5 30 = .ok (.getfield 54, 3) := by decide +kernel
theorem dX1_reduceBy5_33 : decode cX1_reduceBy5 33 = .ok (.iconst 5, 1) := by decide +kernel
theorem dX1_reduceBy5_34 : decode cX1_reduceBy5 34 = .ok (.idiv, 1) := by decide +kernel
theorem dX1_reduceBy5_35 : decode cX1_reduceBy5 35 = .ok (.putfield 54, 3) := by decide +kernel
theorem dX1_reduceBy5_38 : decode cX1_reduceBy5 38 = .ok (.return_, 1) := by decide +kernel
theorem dX2_init_0 : decode cX2_init 0 = .ok (.aload_n 0, 1) := by decide +kernel
theorem dX2_init_1 : decode cX2_init 1 = .ok (.invokespecial 3, 3) := by decide +kernel
theorem dX2_init_4 : decode cX2_init 4 = .ok (.aload_n 0, 1) := by decide +kernel
theorem dX2_init_5 : decode cX2_init 5 = .ok (.bipush 8, 2) := by decide +kernel
theorem dX2_init_7 : decode cX2_init 7 = .ok (.newarray .int, 2) := by decide +kernel
theorem dX2_init_9 : decode cX2_init 9 = .ok (.putfield 9, 3) := by decide +kernel
theorem dX2_init_12 : decode cX2_init 12 = .ok (.return_, 1) := by decide +kernel
theorem dX2_fewestTreads_0 : decode cX2_fewestTreads 0 = .ok (.aload_n 1, 1) := by decide +kernel
theorem dX2_fewestTreads_1 : decode cX2_fewestTreads 1 = .ok (.iload_n 2, 1) := by decide +kernel
theorem dX2_fewestTreads_2 : decode cX2_fewestTreads 2 = .ok (.invokevirtual 15, 3) := by decide +kernel
theorem dX2_fewestTreads_5 : decode cX2_fewestTreads 5 = .ok (.istore_n 3, 1) := by decide +kernel
theorem dX2_fewestTreads_6 : decode cX2_fewestTreads 6 = .ok (.iload_n 3, 1) := by decide +kernel
theorem dX2_fewestTreads_7 : decode cX2_fewestTreads 7 = .ok (.ifCond .ne 5, 3) := by decide +kernel
theorem dX2_fewestTreads_10 : decode cX2_fewestTreads 10 = .ok (.iconst 0, 1) := by decide +kernel
theorem dX2_fewestTreads_11 : decode cX2_fewestTreads 11 = .ok (.ireturn, 1) := by decide +kernel
theorem dX2_fewestTreads_12 : decode cX2_fewestTreads 12 = .ok (.aload_n 0, 1) := by decide +kernel
theorem dX2_fewestTreads_13 : decode cX2_fewestTreads 13 = .ok (.aload_n 1, 1) := by decide +kernel
theorem dX2_fewestTreads_14 : decode cX2_fewestTreads 14 = .ok (.iload_n 2, 1) := by decide +kernel
theorem dX2_fewestTreads_15 : decode cX2_fewestTreads 15 = .ok (.invokevirtual 21, 3) := by decide +kernel
theorem dX2_fewestTreads_18 : decode cX2_fewestTreads 18 = .ok (.aload_n 0, 1) := by decide +kernel
theorem dX2_fewestTreads_19 : decode cX2_fewestTreads 19 = .ok (.aload_n 1, 1) := by decide +kernel
theorem dX2_fewestTreads_20 : decode cX2_fewestTreads 20 = .ok (.getfield 25, 3) := by decide +kernel
theorem dX2_fewestTreads_23 : decode cX2_fewestTreads 23 = .ok (.iload_n 2, 1) := by decide +kernel
theorem dX2_fewestTreads_24 : decode cX2_fewestTreads 24 = .ok (.iaload, 1) := by decide +kernel
theorem dX2_fewestTreads_25 : decode cX2_fewestTreads 25 = .ok (.aload_n 1, 1) := by decide +kernel
theorem dX2_fewestTreads_26 : decode cX2_fewestTreads 26 = .ok (.getfield 28, 3) := by decide +kernel
theorem dX2_fewestTreads_29 : decode cX2_fewestTreads 29 = .ok (.getfield 32, 3) := by decide +kernel
theorem dX2_fewestTreads_32 : decode cX2_fewestTreads 32 = .ok (.invokevirtual 38, 3) := by decide +kernel
theorem dX2_fewestTreads_35 : decode cX2_fewestTreads 35 = .ok (.ifCond .ne 6, 3) := by decide +kernel
theorem dX2_fewestTreads_38 : decode cX2_fewestTreads 38 = .ok (.bipush (-4), 2) := by decide +kernel
theorem dX2_fewestTreads_40 : decode cX2_fewestTreads 40 = .ok (.ireturn, 1) := by decide +kernel
theorem dX2_fewestTreads_41 : decode cX2_fewestTreads 41 = .ok (.aload_n 0, 1) := by decide +kernel
theorem dX2_fewestTreads_42 : decode cX2_fewestTreads 42 = .ok (.aload_n 1, 1) := by decide +kernel
theorem dX2_fewestTreads_43 : decode cX2_fewestTreads 43 = .ok (.getfield 28, 3) := by decide +kernel
theorem dX2_fewestTreads_46 : decode cX2_fewestTreads 46 = .ok (.iload_n 3, 1) := by decide +kernel
theorem dX2_fewestTreads_47 : decode cX2_fewestTreads 47 = .ok (.aload_n 1, 1) := by decide +kernel
theorem dX2_fewestTreads_48 : decode cX2_fewestTreads 48 = .ok (.getfield 25, 3) := by decide +kernel
theorem dX2_fewestTreads_51 : decode cX2_fewestTreads 51 = .ok (.iload_n 2, 1) := by decide +kernel
theorem dX2_fewestTreads_52 : decode cX2_fewestTreads 52 = .ok (.iaload, 1) := by decide +kernel
theorem dX2_fewestTreads_53 : decode cX2_fewestTreads 53 = .ok (.invokevirtual 42, 3) := by decide +kernel
theorem dX2_fewestTreads_56 : decode cX2_fewestTreads 56 = .ok (.istore 4, 2) := by decide +kernel
theorem dX2_fewestTreads_58 : decode cX2_fewestTreads 58 = .ok (.iload 4, 2) := by decide +kernel
theorem dX2_fewestTreads_60 : decode cX2_fewestTreads 60 = .ok (.bipush (-4), 2) := by decide +kernel
theorem dX2_fewestTreads_62 : decode cX2_fewestTreads 62 = .ok (.if_icmp .ne 8, 3) := by decide +kernel
theorem dX2_fewestTreads_65 : decode cX2_fewestTreads 65 = .ok (.bipush (-4), 2) := by decide +kernel
theorem dX2_fewestTreads_67 : decode cX2_fewestTreads 67 = .ok (.goto 14, 3) := by decide +kernel
theorem dX2_fewestTreads_70 : decode cX2_fewestTreads 70 = .ok (.aload_n 0, 1) := by decide +kernel
theorem dX2_fewestTreads_71 : decode cX2_fewestTreads 71 = .ok (.aload_n 1, 1) := by decide +kernel
theorem dX2_fewestTreads_72 : decode cX2_fewestTreads 72 = .ok (.iload_n 2, 1) := by decide +kernel
theorem dX2_fewestTreads_73 : decode cX2_fewestTreads 73 = .ok (.invokevirtual 46, 3) := by decide +kernel
theorem dX2_fewestTreads_76 : decode cX2_fewestTreads 76 = .ok (.iconst 2, 1) := by decide +kernel
theorem dX2_fewestTreads_77 : decode cX2_fewestTreads 77 = .ok (.iload 4, 2) := by decide +kernel
theorem dX2_fewestTreads_79 : decode cX2_fewestTreads 79 = .ok (.imul, 1) := by decide +kernel
theorem dX2_fewestTreads_80 : decode cX2_fewestTreads 80 = .ok (.iadd, 1) := by decide +kernel
theorem dX2_fewestTreads_81 : decode cX2_fewestTreads 81 = .ok (.ireturn, 1) := by decide +kernel
theorem dX2_treadsOwed_0 : decode cX2_treadsOwed 0 = .ok (.iconst 0, 1) := by decide +kernel
theorem dX2_treadsOwed_1 : decode cX2_treadsOwed 1 = .ok (.istore_n 3, 1) := by decide +kernel
theorem dX2_treadsOwed_2 : decode cX2_treadsOwed 2 = .ok (.iconst 0, 1) := by decide +kernel
theorem dX2_treadsOwed_3 : decode cX2_treadsOwed 3 = .ok (.istore 4, 2) := by decide +kernel
theorem dX2_treadsOwed_5 : decode cX2_treadsOwed 5 = .ok (.iload 4, 2) := by decide +kernel
theorem dX2_treadsOwed_7 : decode cX2_treadsOwed 7 = .ok (.aload_n 1, 1) := by decide +kernel
theorem dX2_treadsOwed_8 : decode cX2_treadsOwed 8 = .ok (.getfield 28, 3) := by decide +kernel
theorem dX2_treadsOwed_11 : decode cX2_treadsOwed 11 = .ok (.getfield 50, 3) := by decide +kernel
theorem dX2_treadsOwed_14 : decode cX2_treadsOwed 14 = .ok (.if_icmp .ge 22, 3) := by decide +kernel
theorem dX2_treadsOwed_17 : decode cX2_treadsOwed 17 = .ok (.iload_n 3, 1) := by decide +kernel
theorem dX2_treadsOwed_18 : decode cX2_treadsOwed 18 = .ok (.aload_n 1, 1) := by decide +kernel
theorem dX2_treadsOwed_19 : decode cX2_treadsOwed 19 = .ok (.iload_n 2, 1) := by decide +kernel
theorem dX2_treadsOwed_20 : decode cX2_treadsOwed 20 = .ok (.iload 4, 2) := by decide +kernel
theorem dX2_treadsOwed_22 : decode cX2_treadsOwed 22 = .ok (.invokevirtual 53, 3) := by decide +kernel
theorem dX2_treadsOwed_25 : decode cX2_treadsOwed 25 = .ok (.invokestatic 57, 3) := by decide +kernel
theorem dX2_treadsOwed_28 : decode cX2_treadsOwed 28 = .ok (.iadd, 1) := by decide +kernel
theorem dX2_treadsOwed_29 : decode cX2_treadsOwed 29 = .ok (.istore_n 3, 1) := by decide +kernel
theorem dX2_treadsOwed_30 : decode cX2_treadsOwed 30 = .ok (.iinc 4 1, 3) := by decide +kernel
theorem dX2_treadsOwed_33 : decode cX2_treadsOwed 33 = .ok (.goto (-28), 3) := by decide +kernel
theorem dX2_treadsOwed_36 : decode cX2_treadsOwed 36 = .ok (.iload_n 3, 1) := by decide +kernel
theorem dX2_treadsOwed_37 : decode cX2_treadsOwed 37 = .ok (.ireturn, 1) := by decide +kernel
theorem dX2_takeLeaves_0 : decode cX2_takeLeaves 0 = .ok (.iconst 0, 1) := by decide +kernel
theorem dX2_takeLeaves_1 : decode cX2_takeLeaves 1 = .ok (.istore_n 3, 1) := by decide +kernel
theorem dX2_takeLeaves_2 : decode cX2_takeLeaves 2 = .ok (.iload_n 3, 1) := by decide +kernel
theorem dX2_takeLeaves_3 : decode cX2_takeLeaves 3 = .ok (.bipush 8, 2) := by decide +kernel
theorem dX2_takeLeaves_5 : decode cX2_takeLeaves 5 = .ok (.if_icmp .ge 16, 3) := by decide +kernel
theorem dX2_takeLeaves_8 : decode cX2_takeLeaves 8 = .ok (.aload_n 0, 1) := by decide +kernel
theorem dX2_takeLeaves_9 : decode cX2_takeLeaves 9 = .ok (.getfield 9, 3) := by decide +kernel
theorem dX2_takeLeaves_12 : decode cX2_takeLeaves 12 = .ok (.iload_n 3, 1) := by decide +kernel
theorem dX2_takeLeaves_13 : decode cX2_takeLeaves 13 = .ok (.iconst 0, 1) := by decide +kernel
theorem dX2_takeLeaves_14 : decode cX2_takeLeaves 14 = .ok (.iastore, 1) := by decide +kernel
theorem dX2_takeLeaves_15 : decode cX2_takeLeaves 15 = .ok (.iinc 3 1, 3) := by decide +kernel
theorem dX2_takeLeaves_18 : decode cX2_takeLeaves 18 = .ok (.goto (-16), 3) := by decide +kernel
theorem dX2_takeLeaves_21 : decode cX2_takeLeaves 21 = .ok (.iconst 0, 1) := by decide +kernel
theorem dX2_takeLeaves_22 : decode cX2_takeLeaves 22 = .ok (.istore_n 3, 1) := by decide +kernel
theorem dX2_takeLeaves_23 : decode cX2_takeLeaves 23 = .ok (.iload_n 3, 1) := by decide +kernel
theorem dX2_takeLeaves_24 : decode cX2_takeLeaves 24 = .ok (.aload_n 1, 1) := by decide +kernel
theorem dX2_takeLeaves_25 : decode cX2_takeLeaves 25 = .ok (.getfield 28, 3) := by decide +kernel
theorem dX2_takeLeaves_28 : decode cX2_takeLeaves 28 = .ok (.getfield 50, 3) := by decide +kernel
theorem dX2_takeLeaves_31 : decode cX2_takeLeaves 31 = .ok (.if_icmp .ge 55, 3) := by decide +kernel
theorem dX2_takeLeaves_34 : decode cX2_takeLeaves 34 = .ok (.aload_n 1, 1) := by decide +kernel
theorem dX2_takeLeaves_35 : decode cX2_takeLeaves 35 = .ok (.iload_n 2, 1) := by decide +kernel
theorem dX2_takeLeaves_36 : decode cX2_takeLeaves 36 = .ok (.iload_n 3, 1) := by decide +kernel
theorem dX2_takeLeaves_37 : decode cX2_takeLeaves 37 = .ok (.invokevirtual 53, 3) := by decide +kernel
theorem dX2_takeLeaves_40 : decode cX2_takeLeaves 40 = .ok (.istore 4, 2) := by decide +kernel
theorem dX2_takeLeaves_42 : decode cX2_takeLeaves 42 = .ok (.aload_n 0, 1) := by decide +kernel
theorem dX2_takeLeaves_43 : decode cX2_takeLeaves 43 = .ok (.getfield 9, 3) := by decide +kernel
theorem dX2_takeLeaves_46 : decode cX2_takeLeaves 46 = .ok (.aload_n 1, 1) := by decide +kernel
theorem dX2_takeLeaves_47 : decode cX2_takeLeaves 47 = .ok (.getfield 28, 3) := by decide +kernel
theorem dX2_takeLeaves_50 : decode cX2_takeLeaves 50 = .ok (.getfield 62, 3) := by decide +kernel
theorem dX2_takeLeaves_53 : decode cX2_takeLeaves 53 = .ok (.iload_n 3, 1) := by decide +kernel
theorem dX2_takeLeaves_54 : decode cX2_takeLeaves 54 = .ok (.iaload, 1) := by decide +kernel
theorem dX2_takeLeaves_55 : decode cX2_takeLeaves 55 = .ok (.dup2, 1) := by decide +kernel
theorem dX2_takeLeaves_56 : decode cX2_takeLeaves 56 = .ok (.iaload, 1) := by decide +kernel
theorem dX2_takeLeaves_57 : decode cX2_takeLeaves 57 = .ok (.iload 4, 2) := by decide +kernel
theorem dX2_takeLeaves_59 : decode cX2_takeLeaves 59 = .ok (.iadd, 1) := by decide +kernel
theorem dX2_takeLeaves_60 : decode cX2_takeLeaves 60 = .ok (.iastore, 1) := by decide +kernel
theorem dX2_takeLeaves_61 : decode cX2_takeLeaves 61 = .ok (.aload_n 0, 1) := by decide +kernel
theorem dX2_takeLeaves_62 : decode cX2_takeLeaves 62 = .ok (.getfield 9, 3) := by decide +kernel
theorem dX2_takeLeaves_65 : decode cX2_takeLeaves 65 = .ok (.aload_n 1, 1) := by decide +kernel
theorem dX2_takeLeaves_66 : decode cX2_takeLeaves 66 = .ok (.getfield 28, 3) := by decide +kernel
theorem dX2_takeLeaves_69 : decode cX2_takeLeaves 69 = .ok (.getfield 65, 3) := by decide +kernel
theorem dX2_takeLeaves_72 : decode cX2_takeLeaves 72 = .ok (.iload_n 3, 1) := by decide +kernel
theorem dX2_takeLeaves_73 : decode cX2_takeLeaves 73 = .ok (.iaload, 1) := by decide +kernel
theorem dX2_takeLeaves_74 : decode cX2_takeLeaves 74 = .ok (.dup2, 1) := by decide +kernel
theorem dX2_takeLeaves_75 : decode cX2_takeLeaves 75 = .ok (.iaload, 1) := by decide +kernel
theorem dX2_takeLeaves_76 : decode cX2_takeLeaves 76 = .ok (.iload 4, 2) := by decide +kernel
theorem dX2_takeLeaves_78 : decode cX2_takeLeaves 78 = .ok (.isub, 1) := by decide +kernel
theorem dX2_takeLeaves_79 : decode cX2_takeLeaves 79 = .ok (.iastore, 1) := by decide +kernel
theorem dX2_takeLeaves_80 : decode cX2_takeLeaves 80 = .ok (.iinc 3 1, 3) := by decide +kernel
theorem dX2_takeLeaves_83 : decode cX2_takeLeaves 83 = .ok (.goto (-60), 3) := by decide +kernel
theorem dX2_takeLeaves_86 : decode cX2_takeLeaves 86 = .ok (.return_, 1) := by decide +kernel
theorem dX2_isOneWalkFrom_0 : decode cX2_isOneWalkFrom 0 = .ok (.iconst 0, 1) := by decide +kernel
theorem dX2_isOneWalkFrom_1 : decode cX2_isOneWalkFrom 1 = .ok (.istore_n 3, 1) := by decide +kernel
theorem dX2_isOneWalkFrom_2 : decode cX2_isOneWalkFrom 2 = .ok (.iconst 0, 1) := by decide +kernel
theorem dX2_isOneWalkFrom_3 : decode cX2_isOneWalkFrom 3 = .ok (.istore 4, 2) := by decide +kernel
theorem dX2_isOneWalkFrom_5 : decode cX2_isOneWalkFrom 5 = .ok (.iload 4, 2) := by decide +kernel
theorem dX2_isOneWalkFrom_7 : decode cX2_isOneWalkFrom 7 = .ok (.iload_n 2, 1) := by decide +kernel
theorem dX2_isOneWalkFrom_8 : decode cX2_isOneWalkFrom 8 = .ok (.if_icmp .ge 40, 3) := by decide +kernel
theorem dX2_isOneWalkFrom_11 : decode cX2_isOneWalkFrom 11 = .ok (.iload 4, 2) := by decide +kernel
theorem dX2_isOneWalkFrom_13 : decode cX2_isOneWalkFrom 13 = .ok (.iload_n 1, 1) := by decide +kernel
theorem dX2_isOneWalkFrom_14 : decode cX2_isOneWalkFrom 14 = .ok (.if_icmp .ne 6, 3) := by decide +kernel
theorem dX2_isOneWalkFrom_17 : decode cX2_isOneWalkFrom 17 = .ok (.goto 25, 3) := by decide +kernel
theorem dX2_isOneWalkFrom_20 : decode cX2_isOneWalkFrom 20 = .ok (.aload_n 0, 1) := by decide +kernel
theorem dX2_isOneWalkFrom_21 : decode cX2_isOneWalkFrom 21 = .ok (.getfield 9, 3) := by decide +kernel
theorem dX2_isOneWalkFrom_24 : decode cX2_isOneWalkFrom 24 = .ok (.iload 4, 2) := by decide +kernel
theorem dX2_isOneWalkFrom_26 : decode cX2_isOneWalkFrom 26 = .ok (.iaload, 1) := by decide +kernel
theorem dX2_isOneWalkFrom_27 : decode cX2_isOneWalkFrom 27 = .ok (.ifCond .le 5, 3) := by decide +kernel
theorem dX2_isOneWalkFrom_30 : decode cX2_isOneWalkFrom 30 = .ok (.iconst 0, 1) := by decide +kernel
theorem dX2_isOneWalkFrom_31 : decode cX2_isOneWalkFrom 31 = .ok (.ireturn, 1) := by decide +kernel
theorem dX2_isOneWalkFrom_32 : decode cX2_isOneWalkFrom 32 = .ok (.iload_n 3, 1) := by decide +kernel
theorem dX2_isOneWalkFrom_33 : decode cX2_isOneWalkFrom 33 = .ok (.aload_n 0, 1) := by decide +kernel
theorem dX2_isOneWalkFrom_34 : decode cX2_isOneWalkFrom 34 = .ok (.getfield 9, 3) := by decide +kernel
theorem dX2_isOneWalkFrom_37 : decode cX2_isOneWalkFrom 37 = .ok (.iload 4, 2) := by decide +kernel
theorem dX2_isOneWalkFrom_39 : decode cX2_isOneWalkFrom 39 = .ok (.iaload, 1) := by decide +kernel
theorem dX2_isOneWalkFrom_40 : decode cX2_isOneWalkFrom 40 = .ok (.isub, 1) := by decide +kernel
theorem dX2_isOneWalkFrom_41 : decode cX2_isOneWalkFrom 41 = .ok (.istore_n 3, 1) := by decide +kernel
theorem dX2_isOneWalkFrom_42 : decode cX2_isOneWalkFrom 42 = .ok (.iinc 4 1, 3) := by decide +kernel
theorem dX2_isOneWalkFrom_45 : decode cX2_isOneWalkFrom 45 = .ok (.goto (-40), 3) := by decide +kernel
theorem dX2_isOneWalkFrom_48 : decode cX2_isOneWalkFrom 48 = .ok (.iload_n 3, 1) := by decide +kernel
theorem dX2_isOneWalkFrom_49 : decode cX2_isOneWalkFrom 49 = .ok (.iconst 1, 1) := by decide +kernel
theorem dX2_isOneWalkFrom_50 : decode cX2_isOneWalkFrom 50 = .ok (.if_icmp .gt 7, 3) := by decide +kernel
theorem dX2_isOneWalkFrom_53 : decode cX2_isOneWalkFrom 53 = .ok (.iconst 1, 1) := by decide +kernel
theorem dX2_isOneWalkFrom_54 : decode cX2_isOneWalkFrom 54 = .ok (.goto 4, 3) := by decide +kernel
theorem dX2_isOneWalkFrom_57 : decode cX2_isOneWalkFrom 57 = .ok (.iconst 0, 1) := by decide +kernel
theorem dX2_isOneWalkFrom_58 : decode cX2_isOneWalkFrom 58 = .ok (.ireturn, 1) := by decide +kernel
theorem dX2_fewestOthers_0 : decode cX2_fewestOthers 0 = .ok (.bipush (-4), 2) := by decide +kernel
theorem dX2_fewestOthers_2 : decode cX2_fewestOthers 2 = .ok (.istore 4, 2) := by decide +kernel
theorem dX2_fewestOthers_4 : decode cX2_fewestOthers 4 = .ok (.iconst 1, 1) := by decide +kernel
theorem dX2_fewestOthers_5 : decode cX2_fewestOthers 5 = .ok (.aload_n 1, 1) := by decide +kernel
theorem dX2_fewestOthers_6 : decode cX2_fewestOthers 6 = .ok (.getfield 50, 3) := by decide +kernel
theorem dX2_fewestOthers_9 : decode cX2_fewestOthers 9 = .ok (.ishl, 1) := by decide +kernel
theorem dX2_fewestOthers_10 : decode cX2_fewestOthers 10 = .ok (.iconst 1, 1) := by decide +kernel
theorem dX2_fewestOthers_11 : decode cX2_fewestOthers 11 = .ok (.isub, 1) := by decide +kernel
theorem dX2_fewestOthers_12 : decode cX2_fewestOthers 12 = .ok (.istore 5, 2) := by decide +kernel
theorem dX2_fewestOthers_14 : decode cX2_fewestOthers 14 = .ok (.iconst 0, 1) := by decide +kernel
theorem dX2_fewestOthers_15 : decode cX2_fewestOthers 15 = .ok (.istore 6, 2) := by decide +kernel
theorem dX2_fewestOthers_17 : decode cX2_fewestOthers 17 = .ok (.iload 6, 2) := by decide +kernel
theorem dX2_fewestOthers_19 : decode cX2_fewestOthers 19 = .ok (.iload 5, 2) := by decide +kernel
theorem dX2_fewestOthers_21 : decode cX2_fewestOthers 21 = .ok (.if_icmp .gt 57, 3) := by decide +kernel
theorem dX2_fewestOthers_24 : decode cX2_fewestOthers 24 = .ok (.iload 6, 2) := by decide +kernel
theorem dX2_fewestOthers_26 : decode cX2_fewestOthers 26 = .ok (.iload_n 2, 1) := by decide +kernel
theorem dX2_fewestOthers_27 : decode cX2_fewestOthers 27 = .ok (.iconst (-1), 1) := by decide +kernel
theorem dX2_fewestOthers_28 : decode cX2_fewestOthers 28 = .ok (.ixor, 1) := by decide +kernel
theorem dX2_fewestOthers_29 : decode cX2_fewestOthers 29 = .ok (.iand, 1) := by decide +kernel
theorem dX2_fewestOthers_30 : decode cX2_fewestOthers 30 = .ok (.invokestatic 68, 3) := by decide +kernel
theorem dX2_fewestOthers_33 : decode cX2_fewestOthers 33 = .ok (.istore 7, 2) := by decide +kernel
theorem dX2_fewestOthers_35 : decode cX2_fewestOthers 35 = .ok (.iload 6, 2) := by decide +kernel
theorem dX2_fewestOthers_37 : decode cX2_fewestOthers 37 = .ok (.iload_n 2, 1) := by decide +kernel
theorem dX2_fewestOthers_38 : decode cX2_fewestOthers 38 = .ok (.iand, 1) := by decide +kernel
theorem dX2_fewestOthers_39 : decode cX2_fewestOthers 39 = .ok (.iload_n 2, 1) := by decide +kernel
theorem dX2_fewestOthers_40 : decode cX2_fewestOthers 40 = .ok (.if_icmp .ne 32, 3) := by decide +kernel
theorem dX2_fewestOthers_43 : decode cX2_fewestOthers 43 = .ok (.iload 4, 2) := by decide +kernel
theorem dX2_fewestOthers_45 : decode cX2_fewestOthers 45 = .ok (.bipush (-4), 2) := by decide +kernel
theorem dX2_fewestOthers_47 : decode cX2_fewestOthers 47 = .ok (.if_icmp .eq 10, 3) := by decide +kernel
theorem dX2_fewestOthers_50 : decode cX2_fewestOthers 50 = .ok (.iload 7, 2) := by decide +kernel
theorem dX2_fewestOthers_52 : decode cX2_fewestOthers 52 = .ok (.iload 4, 2) := by decide +kernel
theorem dX2_fewestOthers_54 : decode cX2_fewestOthers 54 = .ok (.if_icmp .ge 18, 3) := by decide +kernel
theorem dX2_fewestOthers_57 : decode cX2_fewestOthers 57 = .ok (.aload_n 0, 1) := by decide +kernel
theorem dX2_fewestOthers_58 : decode cX2_fewestOthers 58 = .ok (.aload_n 1, 1) := by decide +kernel
theorem dX2_fewestOthers_59 : decode cX2_fewestOthers 59 = .ok (.iload 6, 2) := by decide +kernel
theorem dX2_fewestOthers_61 : decode cX2_fewestOthers 61 = .ok (.iload_n 3, 1) := by decide +kernel
theorem dX2_fewestOthers_62 : decode cX2_fewestOthers 62 = .ok (.invokevirtual 73, 3) := by decide +kernel
theorem dX2_fewestOthers_65 : decode cX2_fewestOthers 65 = .ok (.ifCond .eq 7, 3) := by decide +kernel
theorem dX2_fewestOthers_68 : decode cX2_fewestOthers 68 = .ok (.iload 7, 2) := by decide +kernel
theorem dX2_fewestOthers_70 : decode cX2_fewestOthers 70 = .ok (.istore 4, 2) := by decide +kernel
theorem dX2_fewestOthers_72 : decode cX2_fewestOthers 72 = .ok (.iinc 6 1, 3) := by decide +kernel
theorem dX2_fewestOthers_75 : decode cX2_fewestOthers 75 = .ok (.goto (-58), 3) := by decide +kernel
theorem dX2_fewestOthers_78 : decode cX2_fewestOthers 78 = .ok (.iload 4, 2) := by decide +kernel
theorem dX2_fewestOthers_80 : decode cX2_fewestOthers 80 = .ok (.ireturn, 1) := by decide +kernel
theorem dX2_comesToAll_0 : decode cX2_comesToAll 0 = .ok (.iconst 1, 1) := by decide +kernel
theorem dX2_comesToAll_1 : decode cX2_comesToAll 1 = .ok (.iload_n 3, 1) := by decide +kernel
theorem dX2_comesToAll_2 : decode cX2_comesToAll 2 = .ok (.ishl, 1) := by decide +kernel
theorem dX2_comesToAll_3 : decode cX2_comesToAll 3 = .ok (.istore 4, 2) := by decide +kernel
theorem dX2_comesToAll_5 : decode cX2_comesToAll 5 = .ok (.iload_n 2, 1) := by decide +kernel
theorem dX2_comesToAll_6 : decode cX2_comesToAll 6 = .ok (.istore 5, 2) := by decide +kernel
theorem dX2_comesToAll_8 : decode cX2_comesToAll 8 = .ok (.iconst 0, 1) := by decide +kernel
theorem dX2_comesToAll_9 : decode cX2_comesToAll 9 = .ok (.istore 6, 2) := by decide +kernel
theorem dX2_comesToAll_11 : decode cX2_comesToAll 11 = .ok (.iload 6, 2) := by decide +kernel
theorem dX2_comesToAll_13 : decode cX2_comesToAll 13 = .ok (.bipush 9, 2) := by decide +kernel
theorem dX2_comesToAll_15 : decode cX2_comesToAll 15 = .ok (.if_icmp .ge 89, 3) := by decide +kernel
theorem dX2_comesToAll_18 : decode cX2_comesToAll 18 = .ok (.iload 5, 2) := by decide +kernel
theorem dX2_comesToAll_20 : decode cX2_comesToAll 20 = .ok (.ifCond .eq 84, 3) := by decide +kernel
theorem dX2_comesToAll_23 : decode cX2_comesToAll 23 = .ok (.iconst 0, 1) := by decide +kernel
theorem dX2_comesToAll_24 : decode cX2_comesToAll 24 = .ok (.istore 7, 2) := by decide +kernel
theorem dX2_comesToAll_26 : decode cX2_comesToAll 26 = .ok (.iload 7, 2) := by decide +kernel
theorem dX2_comesToAll_28 : decode cX2_comesToAll 28 = .ok (.aload_n 1, 1) := by decide +kernel
theorem dX2_comesToAll_29 : decode cX2_comesToAll 29 = .ok (.getfield 50, 3) := by decide +kernel
theorem dX2_comesToAll_32 : decode cX2_comesToAll 32 = .ok (.if_icmp .ge 66, 3) := by decide +kernel
theorem dX2_comesToAll_35 : decode cX2_comesToAll 35 = .ok (.iconst 1, 1) := by decide +kernel
theorem dX2_comesToAll_36 : decode cX2_comesToAll 36 = .ok (.aload_n 1, 1) := by decide +kernel
theorem dX2_comesToAll_37 : decode cX2_comesToAll 37 = .ok (.getfield 65, 3) := by decide +kernel
theorem dX2_comesToAll_40 : decode cX2_comesToAll 40 = .ok (.iload 7, 2) := by decide +kernel
theorem dX2_comesToAll_42 : decode cX2_comesToAll 42 = .ok (.iaload, 1) := by decide +kernel
theorem dX2_comesToAll_43 : decode cX2_comesToAll 43 = .ok (.ishl, 1) := by decide +kernel
theorem dX2_comesToAll_44 : decode cX2_comesToAll 44 = .ok (.iconst 1, 1) := by decide +kernel
theorem dX2_comesToAll_45 : decode cX2_comesToAll 45 = .ok (.aload_n 1, 1) := by decide +kernel
theorem dX2_comesToAll_46 : decode cX2_comesToAll 46 = .ok (.getfield 62, 3) := by decide +kernel
theorem dX2_comesToAll_49 : decode cX2_comesToAll 49 = .ok (.iload 7, 2) := by decide +kernel
theorem dX2_comesToAll_51 : decode cX2_comesToAll 51 = .ok (.iaload, 1) := by decide +kernel
theorem dX2_comesToAll_52 : decode cX2_comesToAll 52 = .ok (.ishl, 1) := by decide +kernel
theorem dX2_comesToAll_53 : decode cX2_comesToAll 53 = .ok (.ior, 1) := by decide +kernel
theorem dX2_comesToAll_54 : decode cX2_comesToAll 54 = .ok (.istore 8, 2) := by decide +kernel
theorem dX2_comesToAll_56 : decode cX2_comesToAll 56 = .ok (.iload 5, 2) := by decide +kernel
theorem dX2_comesToAll_58 : decode cX2_comesToAll 58 = .ok (.iconst 1, 1) := by decide +kernel
theorem dX2_comesToAll_59 : decode cX2_comesToAll 59 = .ok (.iload 7, 2) := by decide +kernel
theorem dX2_comesToAll_61 : decode cX2_comesToAll 61 = .ok (.ishl, 1) := by decide +kernel
theorem dX2_comesToAll_62 : decode cX2_comesToAll 62 = .ok (.iand, 1) := by decide +kernel
theorem dX2_comesToAll_63 : decode cX2_comesToAll 63 = .ok (.ifCond .eq 29, 3) := by decide +kernel
theorem dX2_comesToAll_66 : decode cX2_comesToAll 66 = .ok (.iload 4, 2) := by decide +kernel
theorem dX2_comesToAll_68 : decode cX2_comesToAll 68 = .ok (.iload 8, 2) := by decide +kernel
theorem dX2_comesToAll_70 : decode cX2_comesToAll 70 = .ok (.iand, 1) := by decide +kernel
theorem dX2_comesToAll_71 : decode cX2_comesToAll 71 = .ok (.ifCond .eq 21, 3) := by decide +kernel
theorem dX2_comesToAll_74 : decode cX2_comesToAll 74 = .ok (.iload 4, 2) := by decide +kernel
theorem dX2_comesToAll_76 : decode cX2_comesToAll 76 = .ok (.iload 8, 2) := by decide +kernel
theorem dX2_comesToAll_78 : decode cX2_comesToAll 78 = .ok (.ior, 1) := by decide +kernel
theorem dX2_comesToAll_79 : decode cX2_comesToAll 79 = .ok (.istore 4, 2) := by decide +kernel
theorem dX2_comesToAll_81 : decode cX2_comesToAll 81 = .ok (.iload 5, 2) := by decide +kernel
theorem dX2_comesToAll_83 : decode cX2_comesToAll 83 = .ok (.iconst 1, 1) := by decide +kernel
theorem dX2_comesToAll_84 : decode cX2_comesToAll 84 = .ok (.iload 7, 2) := by decide +kernel
theorem dX2_comesToAll_86 : decode cX2_comesToAll 86 = .ok (.ishl, 1) := by decide +kernel
theorem dX2_comesToAll_87 : decode cX2_comesToAll 87 = .ok (.iconst (-1), 1) := by decide +kernel
theorem dX2_comesToAll_88 : decode cX2_comesToAll 88 = .ok (.ixor, 1) := by decide +kernel
theorem dX2_comesToAll_89 : decode cX2_comesToAll 89 = .ok (.iand, 1) := by decide +kernel
theorem dX2_comesToAll_90 : decode cX2_comesToAll 90 = .ok (.istore 5, 2) := by decide +kernel
theorem dX2_comesToAll_92 : decode cX2_comesToAll 92 = .ok (.iinc 7 1, 3) := by decide +kernel
theorem dX2_comesToAll_95 : decode cX2_comesToAll 95 = .ok (.goto (-69), 3) := by decide +kernel
theorem dX2_comesToAll_98 : decode cX2_comesToAll 98 = .ok (.iinc 6 1, 3) := by decide +kernel
theorem dX2_comesToAll_101 : decode cX2_comesToAll 101 = .ok (.goto (-90), 3) := by decide +kernel
theorem dX2_comesToAll_104 : decode cX2_comesToAll 104 = .ok (.iload 5, 2) := by decide +kernel
theorem dX2_comesToAll_106 : decode cX2_comesToAll 106 = .ok (.ifCond .ne 7, 3) := by decide +kernel
theorem dX2_comesToAll_109 : decode cX2_comesToAll 109 = .ok (.iconst 1, 1) := by decide +kernel
theorem dX2_comesToAll_110 : decode cX2_comesToAll 110 = .ok (.goto 4, 3) := by decide +kernel
theorem dX2_comesToAll_113 : decode cX2_comesToAll 113 = .ok (.iconst 0, 1) := by decide +kernel
theorem dX2_comesToAll_114 : decode cX2_comesToAll 114 = .ok (.ireturn, 1) := by decide +kernel
theorem dX3_init_0 : decode cX3_init 0 = .ok (.aload_n 0, 1) := by decide +kernel
theorem dX3_init_1 : decode cX3_init 1 = .ok (.invokespecial 3, 3) := by decide +kernel
theorem dX3_init_4 : decode cX3_init 4 = .ok (.aload_n 0, 1) := by decide +kernel
theorem dX3_init_5 : decode cX3_init 5 = .ok (.iconst 4, 1) := by decide +kernel
theorem dX3_init_6 : decode cX3_init 6 = .ok (.newarray .int, 2) := by decide +kernel
theorem dX3_init_8 : decode cX3_init 8 = .ok (.putfield 9, 3) := by decide +kernel
theorem dX3_init_11 : decode cX3_init 11 = .ok (.return_, 1) := by decide +kernel
theorem dX3_fewestStiles_0 : decode cX3_fewestStiles 0 = .ok (.aload_n 1, 1) := by decide +kernel
theorem dX3_fewestStiles_1 : decode cX3_fewestStiles 1 = .ok (.getfield 15, 3) := by decide +kernel
theorem dX3_fewestStiles_4 : decode cX3_fewestStiles 4 = .ok (.getfield 21, 3) := by decide +kernel
theorem dX3_fewestStiles_7 : decode cX3_fewestStiles 7 = .ok (.istore_n 2, 1) := by decide +kernel
theorem dX3_fewestStiles_8 : decode cX3_fewestStiles 8 = .ok (.iconst 0, 1) := by decide +kernel
theorem dX3_fewestStiles_9 : decode cX3_fewestStiles 9 = .ok (.istore_n 3, 1) := by decide +kernel
theorem dX3_fewestStiles_10 : decode cX3_fewestStiles 10 = .ok (.iload_n 3, 1) := by decide +kernel
theorem dX3_fewestStiles_11 : decode cX3_fewestStiles 11 = .ok (.iload_n 2, 1) := by decide +kernel
theorem dX3_fewestStiles_12 : decode cX3_fewestStiles 12 = .ok (.if_icmp .ge 20, 3) := by decide +kernel
theorem dX3_fewestStiles_15 : decode cX3_fewestStiles 15 = .ok (.aload_n 0, 1) := by decide +kernel
theorem dX3_fewestStiles_16 : decode cX3_fewestStiles 16 = .ok (.getfield 9, 3) := by decide +kernel
theorem dX3_fewestStiles_19 : decode cX3_fewestStiles 19 = .ok (.iload_n 3, 1) := by decide +kernel
theorem dX3_fewestStiles_20 : decode cX3_fewestStiles 20 = .ok (.aload_n 1, 1) := by decide +kernel
theorem dX3_fewestStiles_21 : decode cX3_fewestStiles 21 = .ok (.iload_n 3, 1) := by decide +kernel
theorem dX3_fewestStiles_22 : decode cX3_fewestStiles 22 = .ok (.invokevirtual 27, 3) := by decide +kernel
theorem dX3_fewestStiles_25 : decode cX3_fewestStiles 25 = .ok (.iastore, 1) := by decide +kernel
theorem dX3_fewestStiles_26 : decode cX3_fewestStiles 26 = .ok (.iinc 3 1, 3) := by decide +kernel
theorem dX3_fewestStiles_29 : decode cX3_fewestStiles 29 = .ok (.goto (-19), 3) := by decide +kernel
theorem dX3_fewestStiles_32 : decode cX3_fewestStiles 32 = .ok (.iconst 1, 1) := by decide +kernel
theorem dX3_fewestStiles_33 : decode cX3_fewestStiles 33 = .ok (.aload_n 1, 1) := by decide +kernel
theorem dX3_fewestStiles_34 : decode cX3_fewestStiles 34 = .ok (.getfield 15, 3) := by decide +kernel
theorem dX3_fewestStiles_37 : decode cX3_fewestStiles 37 = .ok (.getfield 31, 3) := by decide +kernel
theorem dX3_fewestStiles_40 : decode cX3_fewestStiles 40 = .ok (.ishl, 1) := by decide +kernel
theorem dX3_fewestStiles_41 : decode cX3_fewestStiles 41 = .ok (.iconst 1, 1) := by decide +kernel
theorem dX3_fewestStiles_42 : decode cX3_fewestStiles 42 = .ok (.isub, 1) := by decide +kernel
theorem dX3_fewestStiles_43 : decode cX3_fewestStiles 43 = .ok (.istore_n 3, 1) := by decide +kernel
theorem dX3_fewestStiles_44 : decode cX3_fewestStiles 44 = .ok (.iload_n 3, 1) := by decide +kernel
theorem dX3_fewestStiles_45 : decode cX3_fewestStiles 45 = .ok (.istore 4, 2) := by decide +kernel
theorem dX3_fewestStiles_47 : decode cX3_fewestStiles 47 = .ok (.iconst 0, 1) := by decide +kernel
theorem dX3_fewestStiles_48 : decode cX3_fewestStiles 48 = .ok (.istore 5, 2) := by decide +kernel
theorem dX3_fewestStiles_50 : decode cX3_fewestStiles 50 = .ok (.iload 5, 2) := by decide +kernel
theorem dX3_fewestStiles_52 : decode cX3_fewestStiles 52 = .ok (.iload_n 3, 1) := by decide +kernel
theorem dX3_fewestStiles_53 : decode cX3_fewestStiles 53 = .ok (.if_icmp .gt 36, 3) := by decide +kernel
theorem dX3_fewestStiles_56 : decode cX3_fewestStiles 56 = .ok (.iload 5, 2) := by decide +kernel
theorem dX3_fewestStiles_58 : decode cX3_fewestStiles 58 = .ok (.invokestatic 34, 3) := by decide +kernel
theorem dX3_fewestStiles_61 : decode cX3_fewestStiles 61 = .ok (.iload 4, 2) := by decide +kernel
theorem dX3_fewestStiles_63 : decode cX3_fewestStiles 63 = .ok (.invokestatic 34, 3) := by decide +kernel
theorem dX3_fewestStiles_66 : decode cX3_fewestStiles 66 = .ok (.if_icmp .ge 17, 3) := by decide +kernel
theorem dX3_fewestStiles_69 : decode cX3_fewestStiles 69 = .ok (.aload_n 0, 1) := by decide +kernel
theorem dX3_fewestStiles_70 : decode cX3_fewestStiles 70 = .ok (.iload 5, 2) := by decide +kernel
theorem dX3_fewestStiles_72 : decode cX3_fewestStiles 72 = .ok (.iload_n 2, 1) := by decide +kernel
theorem dX3_fewestStiles_73 : decode cX3_fewestStiles 73 = .ok (.invokevirtual 39, 3) := by decide +kernel
theorem dX3_fewestStiles_76 : decode cX3_fewestStiles 76 = .ok (.ifCond .eq 7, 3) := by decide +kernel
theorem dX3_fewestStiles_79 : decode cX3_fewestStiles 79 = .ok (.iload 5, 2) := by decide +kernel
theorem dX3_fewestStiles_81 : decode cX3_fewestStiles 81 = .ok (.istore 4, 2) := by decide +kernel
theorem dX3_fewestStiles_83 : decode cX3_fewestStiles 83 = .ok (.iinc 5 1, 3) := by decide +kernel
theorem dX3_fewestStiles_86 : decode cX3_fewestStiles 86 = .ok (.goto (-36), 3) := by decide +kernel
theorem dX3_fewestStiles_89 : decode cX3_fewestStiles 89 = .ok (.iload 4, 2) := by decide +kernel
theorem dX3_fewestStiles_91 : decode cX3_fewestStiles 91 = .ok (.ireturn, 1) := by decide +kernel
theorem dX3_tellsAll_0 : decode cX3_tellsAll 0 = .ok (.iconst 0, 1) := by decide +kernel
theorem dX3_tellsAll_1 : decode cX3_tellsAll 1 = .ok (.istore_n 3, 1) := by decide +kernel
theorem dX3_tellsAll_2 : decode cX3_tellsAll 2 = .ok (.iload_n 3, 1) := by decide +kernel
theorem dX3_tellsAll_3 : decode cX3_tellsAll 3 = .ok (.iload_n 2, 1) := by decide +kernel
theorem dX3_tellsAll_4 : decode cX3_tellsAll 4 = .ok (.if_icmp .ge 31, 3) := by decide +kernel
theorem dX3_tellsAll_7 : decode cX3_tellsAll 7 = .ok (.aload_n 0, 1) := by decide +kernel
theorem dX3_tellsAll_8 : decode cX3_tellsAll 8 = .ok (.getfield 9, 3) := by decide +kernel
theorem dX3_tellsAll_11 : decode cX3_tellsAll 11 = .ok (.iload_n 3, 1) := by decide +kernel
theorem dX3_tellsAll_12 : decode cX3_tellsAll 12 = .ok (.iaload, 1) := by decide +kernel
theorem dX3_tellsAll_13 : decode cX3_tellsAll 13 = .ok (.ifCond .eq 16, 3) := by decide +kernel
theorem dX3_tellsAll_16 : decode cX3_tellsAll 16 = .ok (.aload_n 0, 1) := by decide +kernel
theorem dX3_tellsAll_17 : decode cX3_tellsAll 17 = .ok (.getfield 9, 3) := by decide +kernel
theorem dX3_tellsAll_20 : decode cX3_tellsAll 20 = .ok (.iload_n 3, 1) := by decide +kernel
theorem dX3_tellsAll_21 : decode cX3_tellsAll 21 = .ok (.iaload, 1) := by decide +kernel
theorem dX3_tellsAll_22 : decode cX3_tellsAll 22 = .ok (.iload_n 1, 1) := by decide +kernel
theorem dX3_tellsAll_23 : decode cX3_tellsAll 23 = .ok (.iand, 1) := by decide +kernel
theorem dX3_tellsAll_24 : decode cX3_tellsAll 24 = .ok (.ifCond .ne 5, 3) := by decide +kernel
theorem dX3_tellsAll_27 : decode cX3_tellsAll 27 = .ok (.iconst 0, 1) := by decide +kernel
theorem dX3_tellsAll_28 : decode cX3_tellsAll 28 = .ok (.ireturn, 1) := by decide +kernel
theorem dX3_tellsAll_29 : decode cX3_tellsAll 29 = .ok (.iinc 3 1, 3) := by decide +kernel
theorem dX3_tellsAll_32 : decode cX3_tellsAll 32 = .ok (.goto (-30), 3) := by decide +kernel
theorem dX3_tellsAll_35 : decode cX3_tellsAll 35 = .ok (.iconst 1, 1) := by decide +kernel
theorem dX3_tellsAll_36 : decode cX3_tellsAll 36 = .ok (.ireturn, 1) := by decide +kernel
theorem dX4_init_0 : decode cX4_init 0 = .ok (.aload_n 0, 1) := by decide +kernel
theorem dX4_init_1 : decode cX4_init 1 = .ok (.invokespecial 3, 3) := by decide +kernel
theorem dX4_init_4 : decode cX4_init 4 = .ok (.aload_n 0, 1) := by decide +kernel
theorem dX4_init_5 : decode cX4_init 5 = .ok (.bipush 9, 2) := by decide +kernel
theorem dX4_init_7 : decode cX4_init 7 = .ok (.newarray .int, 2) := by decide +kernel
theorem dX4_init_9 : decode cX4_init 9 = .ok (.putfield 9, 3) := by decide +kernel
theorem dX4_init_12 : decode cX4_init 12 = .ok (.aload_n 0, 1) := by decide +kernel
theorem dX4_init_13 : decode cX4_init 13 = .ok (.bipush 9, 2) := by decide +kernel
theorem dX4_init_15 : decode cX4_init 15 = .ok (.newarray .int, 2) := by decide +kernel
theorem dX4_init_17 : decode cX4_init 17 = .ok (.putfield 15, 3) := by decide +kernel
theorem dX4_init_20 : decode cX4_init 20 = .ok (.aload_n 0, 1) := by decide +kernel
theorem dX4_init_21 : decode cX4_init 21 = .ok (.bipush 9, 2) := by decide +kernel
theorem dX4_init_23 : decode cX4_init 23 = .ok (.newarray .int, 2) := by decide +kernel
theorem dX4_init_25 : decode cX4_init 25 = .ok (.putfield 18, 3) := by decide +kernel
theorem dX4_init_28 : decode cX4_init 28 = .ok (.aload_n 0, 1) := by decide +kernel
theorem dX4_init_29 : decode cX4_init 29 = .ok (.iconst 4, 1) := by decide +kernel
theorem dX4_init_30 : decode cX4_init 30 = .ok (.newarray .int, 2) := by decide +kernel
theorem dX4_init_32 : decode cX4_init 32 = .ok (.putfield 21, 3) := by decide +kernel
theorem dX4_init_35 : decode cX4_init 35 = .ok (.aload_n 0, 1) := by decide +kernel
theorem dX4_init_36 : decode cX4_init 36 = .ok (.iconst 4, 1) := by decide +kernel
theorem dX4_init_37 : decode cX4_init 37 = .ok (.newarray .int, 2) := by decide +kernel
theorem dX4_init_39 : decode cX4_init 39 = .ok (.putfield 24, 3) := by decide +kernel
theorem dX4_init_42 : decode cX4_init 42 = .ok (.aload_n 0, 1) := by decide +kernel
theorem dX4_init_43 : decode cX4_init 43 = .ok (.iconst 4, 1) := by decide +kernel
theorem dX4_init_44 : decode cX4_init 44 = .ok (.newarray .int, 2) := by decide +kernel
theorem dX4_init_46 : decode cX4_init 46 = .ok (.putfield 27, 3) := by decide +kernel
theorem dX4_init_49 : decode cX4_init 49 = .ok (.return_, 1) := by decide +kernel
theorem dX4_clear_0 : decode cX4_clear 0 = .ok (.aload_n 0, 1) := by decide +kernel
theorem dX4_clear_1 : decode cX4_clear 1 = .ok (.iconst 5, 1) := by decide +kernel
theorem dX4_clear_2 : decode cX4_clear 2 = .ok (.putfield 30, 3) := by decide +kernel
theorem dX4_clear_5 : decode cX4_clear 5 = .ok (.aload_n 0, 1) := by decide +kernel
theorem dX4_clear_6 : decode cX4_clear 6 = .ok (.bipush 40, 2) := by decide +kernel
theorem dX4_clear_8 : decode cX4_clear 8 = .ok (.putfield 34, 3) := by decide +kernel
theorem dX4_clear_11 : decode cX4_clear 11 = .ok (.aload_n 0, 1) := by decide +kernel
theorem dX4_clear_12 : decode cX4_clear 12 = .ok (.iconst 0, 1) := by decide +kernel
theorem dX4_clear_13 : decode cX4_clear 13 = .ok (.putfield 37, 3) := by decide +kernel
theorem dX4_clear_16 : decode cX4_clear 16 = .ok (.aload_n 0, 1) := by decide +kernel
theorem dX4_clear_17 : decode cX4_clear 17 = .ok (.iconst 0, 1) := by decide +kernel
theorem dX4_clear_18 : decode cX4_clear 18 = .ok (.putfield 40, 3) := by decide +kernel
theorem dX4_clear_21 : decode cX4_clear 21 = .ok (.return_, 1) := by decide +kernel
theorem dX4_copyFrom_0 : decode cX4_copyFrom 0 = .ok (.aload_n 0, 1) := by decide +kernel
theorem dX4_copyFrom_1 : decode cX4_copyFrom 1 = .ok (.aload_n 1, 1) := by decide +kernel
theorem dX4_copyFrom_2 : decode cX4_copyFrom 2 = .ok (.getfield 30, 3) := by decide +kernel
theorem dX4_copyFrom_5 : decode cX4_copyFrom 5 = .ok (.putfield 30, 3) := by decide +kernel
theorem dX4_copyFrom_8 : decode cX4_copyFrom 8 = .ok (.aload_n 0, 1) := by decide +kernel
theorem dX4_copyFrom_9 : decode cX4_copyFrom 9 = .ok (.aload_n 1, 1) := by decide +kernel
theorem dX4_copyFrom_10 : decode cX4_copyFrom 10 = .ok (.getfield 34, 3) := by decide +kernel
theorem dX4_copyFrom_13 : decode cX4_copyFrom 13 = .ok (.putfield 34, 3) := by decide +kernel
theorem dX4_copyFrom_16 : decode cX4_copyFrom 16 = .ok (.aload_n 0, 1) := by decide +kernel
theorem dX4_copyFrom_17 : decode cX4_copyFrom 17 = .ok (.aload_n 1, 1) := by decide +kernel
theorem dX4_copyFrom_18 : decode cX4_copyFrom 18 = .ok (.getfield 37, 3) := by decide +kernel
theorem dX4_copyFrom_21 : decode cX4_copyFrom 21 = .ok (.putfield 37, 3) := by decide +kernel
theorem dX4_copyFrom_24 : decode cX4_copyFrom 24 = .ok (.aload_n 0, 1) := by decide +kernel
theorem dX4_copyFrom_25 : decode cX4_copyFrom 25 = .ok (.aload_n 1, 1) := by decide +kernel
theorem dX4_copyFrom_26 : decode cX4_copyFrom 26 = .ok (.getfield 40, 3) := by decide +kernel
theorem dX4_copyFrom_29 : decode cX4_copyFrom 29 = .ok (.putfield 40, 3) := by decide +kernel
theorem dX4_copyFrom_32 : decode cX4_copyFrom 32 = .ok (.aload_n 1, 1) := by decide +kernel
theorem dX4_copyFrom_33 : decode cX4_copyFrom 33 = .ok (.getfield 9, 3) := by decide +kernel
theorem dX4_copyFrom_36 : decode cX4_copyFrom 36 = .ok (.iconst 0, 1) := by decide +kernel
theorem dX4_copyFrom_37 : decode cX4_copyFrom 37 = .ok (.aload_n 0, 1) := by decide +kernel
theorem dX4_copyFrom_38 : decode cX4_copyFrom 38 = .ok (.getfield 9, 3) := by decide +kernel
theorem dX4_copyFrom_41 : decode cX4_copyFrom 41 = .ok (.iconst 0, 1) := by decide +kernel
theorem dX4_copyFrom_42 : decode cX4_copyFrom 42 = .ok (.bipush 9, 2) := by decide +kernel
theorem dX4_copyFrom_44 : decode cX4_copyFrom 44 = .ok (.invokestatic 43, 3) := by decide +kernel
theorem dX4_copyFrom_47 : decode cX4_copyFrom 47 = .ok (.aload_n 1, 1) := by decide +kernel
theorem dX4_copyFrom_48 : decode cX4_copyFrom 48 = .ok (.getfield 15, 3) := by decide +kernel
theorem dX4_copyFrom_51 : decode cX4_copyFrom 51 = .ok (.iconst 0, 1) := by decide +kernel
theorem dX4_copyFrom_52 : decode cX4_copyFrom 52 = .ok (.aload_n 0, 1) := by decide +kernel
theorem dX4_copyFrom_53 : decode cX4_copyFrom 53 = .ok (.getfield 15, 3) := by decide +kernel
theorem dX4_copyFrom_56 : decode cX4_copyFrom 56 = .ok (.iconst 0, 1) := by decide +kernel
theorem dX4_copyFrom_57 : decode cX4_copyFrom 57 = .ok (.bipush 9, 2) := by decide +kernel
theorem dX4_copyFrom_59 : decode cX4_copyFrom 59 = .ok (.invokestatic 43, 3) := by decide +kernel
theorem dX4_copyFrom_62 : decode cX4_copyFrom 62 = .ok (.aload_n 1, 1) := by decide +kernel
theorem dX4_copyFrom_63 : decode cX4_copyFrom 63 = .ok (.getfield 18, 3) := by decide +kernel
theorem dX4_copyFrom_66 : decode cX4_copyFrom 66 = .ok (.iconst 0, 1) := by decide +kernel
theorem dX4_copyFrom_67 : decode cX4_copyFrom 67 = .ok (.aload_n 0, 1) := by decide +kernel
theorem dX4_copyFrom_68 : decode cX4_copyFrom 68 = .ok (.getfield 18, 3) := by decide +kernel
theorem dX4_copyFrom_71 : decode cX4_copyFrom 71 = .ok (.iconst 0, 1) := by decide +kernel
theorem dX4_copyFrom_72 : decode cX4_copyFrom 72 = .ok (.bipush 9, 2) := by decide +kernel
theorem dX4_copyFrom_74 : decode cX4_copyFrom 74 = .ok (.invokestatic 43, 3) := by decide +kernel
theorem dX4_copyFrom_77 : decode cX4_copyFrom 77 = .ok (.aload_n 1, 1) := by decide +kernel
theorem dX4_copyFrom_78 : decode cX4_copyFrom 78 = .ok (.getfield 21, 3) := by decide +kernel
theorem dX4_copyFrom_81 : decode cX4_copyFrom 81 = .ok (.iconst 0, 1) := by decide +kernel
theorem dX4_copyFrom_82 : decode cX4_copyFrom 82 = .ok (.aload_n 0, 1) := by decide +kernel
theorem dX4_copyFrom_83 : decode cX4_copyFrom 83 = .ok (.getfield 21, 3) := by decide +kernel
theorem dX4_copyFrom_86 : decode cX4_copyFrom 86 = .ok (.iconst 0, 1) := by decide +kernel
theorem dX4_copyFrom_87 : decode cX4_copyFrom 87 = .ok (.iconst 4, 1) := by decide +kernel
theorem dX4_copyFrom_88 : decode cX4_copyFrom 88 = .ok (.invokestatic 43, 3) := by decide +kernel
theorem dX4_copyFrom_91 : decode cX4_copyFrom 91 = .ok (.aload_n 1, 1) := by decide +kernel
theorem dX4_copyFrom_92 : decode cX4_copyFrom 92 = .ok (.getfield 24, 3) := by decide +kernel
theorem dX4_copyFrom_95 : decode cX4_copyFrom 95 = .ok (.iconst 0, 1) := by decide +kernel
theorem dX4_copyFrom_96 : decode cX4_copyFrom 96 = .ok (.aload_n 0, 1) := by decide +kernel
theorem dX4_copyFrom_97 : decode cX4_copyFrom 97 = .ok (.getfield 24, 3) := by decide +kernel
theorem dX4_copyFrom_100 : decode cX4_copyFrom 100 = .ok (.iconst 0, 1) := by decide +kernel
theorem dX4_copyFrom_101 : decode cX4_copyFrom 101 = .ok (.iconst 4, 1) := by decide +kernel
theorem dX4_copyFrom_102 : decode cX4_copyFrom 102 = .ok (.invokestatic 43, 3) := by decide +kernel
theorem dX4_copyFrom_105 : decode cX4_copyFrom 105 = .ok (.aload_n 1, 1) := by decide +kernel
theorem dX4_copyFrom_106 : decode cX4_copyFrom 106 = .ok (.getfield 27, 3) := by decide +kernel
theorem dX4_copyFrom_109 : decode cX4_copyFrom 109 = .ok (.iconst 0, 1) := by decide +kernel
theorem dX4_copyFrom_110 : decode cX4_copyFrom 110 = .ok (.aload_n 0, 1) := by decide +kernel
theorem dX4_copyFrom_111 : decode cX4_copyFrom 111 = .ok (.getfield 27, 3) := by decide +kernel
theorem dX4_copyFrom_114 : decode cX4_copyFrom 114 = .ok (.iconst 0, 1) := by decide +kernel
theorem dX4_copyFrom_115 : decode cX4_copyFrom 115 = .ok (.iconst 4, 1) := by decide +kernel
theorem dX4_copyFrom_116 : decode cX4_copyFrom 116 = .ok (.invokestatic 43, 3) := by decide +kernel
theorem dX4_copyFrom_119 : decode cX4_copyFrom 119 = .ok (.return_, 1) := by decide +kernel
theorem dX4_addStile_0 : decode cX4_addStile 0 = .ok (.aload_n 0, 1) := by decide +kernel
theorem dX4_addStile_1 : decode cX4_addStile 1 = .ok (.getfield 37, 3) := by decide +kernel
theorem dX4_addStile_4 : decode cX4_addStile 4 = .ok (.bipush 9, 2) := by decide +kernel
theorem dX4_addStile_6 : decode cX4_addStile 6 = .ok (.if_icmp .ge 29, 3) := by decide +kernel
theorem dX4_addStile_9 : decode cX4_addStile 9 = .ok (.iload_n 1, 1) := by decide +kernel
theorem dX4_addStile_10 : decode cX4_addStile 10 = .ok (.iconst 3, 1) := by decide +kernel
theorem dX4_addStile_11 : decode cX4_addStile 11 = .ok (.if_icmp .gt 24, 3) := by decide +kernel
theorem dX4_addStile_14 : decode cX4_addStile 14 = .ok (.aload_n 0, 1) := by decide +kernel
theorem dX4_addStile_15 : decode cX4_addStile 15 = .ok (.iload_n 2, 1) := by decide +kernel
theorem dX4_addStile_16 : decode cX4_addStile 16 = .ok (.invokevirtual 49, 3) := by decide +kernel
theorem dX4_addStile_19 : decode cX4_addStile 19 = .ok (.ifCond .eq 16, 3) := by decide +kernel
theorem dX4_addStile_22 : decode cX4_addStile 22 = .ok (.aload_n 0, 1) := by decide +kernel
theorem dX4_addStile_23 : decode cX4_addStile 23 = .ok (.iload_n 3, 1) := by decide +kernel
theorem dX4_addStile_24 : decode cX4_addStile 24 = .ok (.invokevirtual 49, 3) := by decide +kernel
theorem dX4_addStile_27 : decode cX4_addStile 27 = .ok (.ifCond .eq 8, 3) := by decide +kernel
theorem dX4_addStile_30 : decode cX4_addStile 30 = .ok (.iload_n 2, 1) := by decide +kernel
theorem dX4_addStile_31 : decode cX4_addStile 31 = .ok (.iload_n 3, 1) := by decide +kernel
theorem dX4_addStile_32 : decode cX4_addStile 32 = .ok (.if_icmp .ne 5, 3) := by decide +kernel
theorem dX4_addStile_35 : decode cX4_addStile 35 = .ok (.iconst 0, 1) := by decide +kernel
theorem dX4_addStile_36 : decode cX4_addStile 36 = .ok (.ireturn, 1) := by decide +kernel
theorem dX4_addStile_37 : decode cX4_addStile 37 = .ok (.aload_n 0, 1) := by decide +kernel
theorem dX4_addStile_38 : decode cX4_addStile 38 = .ok (.getfield 9, 3) := by decide +kernel
theorem dX4_addStile_41 : decode cX4_addStile 41 = .ok (.aload_n 0, 1) := by decide +kernel
theorem dX4_addStile_42 : decode cX4_addStile 42 = .ok (.getfield 37, 3) := by decide +kernel
theorem dX4_addStile_45 : decode cX4_addStile 45 = .ok (.iload_n 1, 1) := by decide +kernel
theorem dX4_addStile_46 : decode cX4_addStile 46 = .ok (.iastore, 1) := by decide +kernel
theorem dX4_addStile_47 : decode cX4_addStile 47 = .ok (.aload_n 0, 1) := by decide +kernel
theorem dX4_addStile_48 : decode cX4_addStile 48 = .ok (.getfield 15, 3) := by decide +kernel
theorem dX4_addStile_51 : decode cX4_addStile 51 = .ok (.aload_n 0, 1) := by decide +kernel
theorem dX4_addStile_52 : decode cX4_addStile 52 = .ok (.getfield 37, 3) := by decide +kernel
theorem dX4_addStile_55 : decode cX4_addStile 55 = .ok (.iload_n 2, 1) := by decide +kernel
theorem dX4_addStile_56 : decode cX4_addStile 56 = .ok (.iastore, 1) := by decide +kernel
theorem dX4_addStile_57 : decode cX4_addStile 57 = .ok (.aload_n 0, 1) := by decide +kernel
theorem dX4_addStile_58 : decode cX4_addStile 58 = .ok (.getfield 18, 3) := by decide +kernel
theorem dX4_addStile_61 : decode cX4_addStile 61 = .ok (.aload_n 0, 1) := by decide +kernel
theorem dX4_addStile_62 : decode cX4_addStile 62 = .ok (.getfield 37, 3) := by decide +kernel
theorem dX4_addStile_65 : decode cX4_addStile 65 = .ok (.iload_n 3, 1) := by decide +kernel
theorem dX4_addStile_66 : decode cX4_addStile 66 = .ok (.iastore, 1) := by decide +kernel
theorem dX4_addStile_67 : decode cX4_addStile 67 = .ok (.aload_n 0, 1) := by decide +kernel
theorem dX4_addStile_68 : decode cX4_addStile 68 = .ok (.dup, 1) := by decide +kernel
theorem dX4_addStile_69 : decode cX4_addStile 69 = .ok (.getfield 37, 3) := by decide +kernel
theorem dX4_addStile_72 : decode cX4_addStile 72 = .ok (.iconst 1, 1) := by decide +kernel
theorem dX4_addStile_73 : decode cX4_addStile 73 = .ok (.iadd, 1) := by decide +kernel
theorem dX4_addStile_74 : decode cX4_addStile 74 = .ok (.putfield 37, 3) := by decide +kernel
theorem dX4_addStile_77 : decode cX4_addStile 77 = .ok (.iconst 1, 1) := by decide +kernel
theorem dX4_addStile_78 : decode cX4_addStile 78 = .ok (.ireturn, 1) := by decide +kernel
theorem dX4_addWalker_0 : decode cX4_addWalker 0 = .ok (.aload_n 0, 1) := by decide +kernel
theorem dX4_addWalker_1 : decode cX4_addWalker 1 = .ok (.getfield 40, 3) := by decide +kernel
theorem dX4_addWalker_4 : decode cX4_addWalker 4 = .ok (.iconst 4, 1) := by decide +kernel
theorem dX4_addWalker_5 : decode cX4_addWalker 5 = .ok (.if_icmp .ge 27, 3) := by decide +kernel
theorem dX4_addWalker_8 : decode cX4_addWalker 8 = .ok (.iload_n 1, 1) := by decide +kernel
theorem dX4_addWalker_9 : decode cX4_addWalker 9 = .ok (.iconst 3, 1) := by decide +kernel
theorem dX4_addWalker_10 : decode cX4_addWalker 10 = .ok (.if_icmp .gt 22, 3) := by decide +kernel
theorem dX4_addWalker_13 : decode cX4_addWalker 13 = .ok (.aload_n 0, 1) := by decide +kernel
theorem dX4_addWalker_14 : decode cX4_addWalker 14 = .ok (.iload_n 2, 1) := by decide +kernel
theorem dX4_addWalker_15 : decode cX4_addWalker 15 = .ok (.invokevirtual 49, 3) := by decide +kernel
theorem dX4_addWalker_18 : decode cX4_addWalker 18 = .ok (.ifCond .eq 14, 3) := by decide +kernel
theorem dX4_addWalker_21 : decode cX4_addWalker 21 = .ok (.iload_n 3, 1) := by decide +kernel
theorem dX4_addWalker_22 : decode cX4_addWalker 22 = .ok (.iconst 1, 1) := by decide +kernel
theorem dX4_addWalker_23 : decode cX4_addWalker 23 = .ok (.if_icmp .lt 9, 3) := by decide +kernel
theorem dX4_addWalker_26 : decode cX4_addWalker 26 = .ok (.iload_n 3, 1) := by decide +kernel
theorem dX4_addWalker_27 : decode cX4_addWalker 27 = .ok (.bipush 9, 2) := by decide +kernel
theorem dX4_addWalker_29 : decode cX4_addWalker 29 = .ok (.if_icmp .le 5, 3) := by decide +kernel
theorem dX4_addWalker_32 : decode cX4_addWalker 32 = .ok (.iconst 0, 1) := by decide +kernel
theorem dX4_addWalker_33 : decode cX4_addWalker 33 = .ok (.ireturn, 1) := by decide +kernel
theorem dX4_addWalker_34 : decode cX4_addWalker 34 = .ok (.aload_n 0, 1) := by decide +kernel
theorem dX4_addWalker_35 : decode cX4_addWalker 35 = .ok (.getfield 21, 3) := by decide +kernel
theorem dX4_addWalker_38 : decode cX4_addWalker 38 = .ok (.aload_n 0, 1) := by decide +kernel
theorem dX4_addWalker_39 : decode cX4_addWalker 39 = .ok (.getfield 40, 3) := by decide +kernel
theorem dX4_addWalker_42 : decode cX4_addWalker 42 = .ok (.iload_n 1, 1) := by decide +kernel
theorem dX4_addWalker_43 : decode cX4_addWalker 43 = .ok (.iastore, 1) := by decide +kernel
theorem dX4_addWalker_44 : decode cX4_addWalker 44 = .ok (.aload_n 0, 1) := by decide +kernel
theorem dX4_addWalker_45 : decode cX4_addWalker 45 = .ok (.getfield 24, 3) := by decide +kernel
theorem dX4_addWalker_48 : decode cX4_addWalker 48 = .ok (.aload_n 0, 1) := by decide +kernel
theorem dX4_addWalker_49 : decode cX4_addWalker 49 = .ok (.getfield 40, 3) := by decide +kernel
theorem dX4_addWalker_52 : decode cX4_addWalker 52 = .ok (.iload_n 2, 1) := by decide +kernel
theorem dX4_addWalker_53 : decode cX4_addWalker 53 = .ok (.iastore, 1) := by decide +kernel
theorem dX4_addWalker_54 : decode cX4_addWalker 54 = .ok (.aload_n 0, 1) := by decide +kernel
theorem dX4_addWalker_55 : decode cX4_addWalker 55 = .ok (.getfield 27, 3) := by decide +kernel
theorem dX4_addWalker_58 : decode cX4_addWalker 58 = .ok (.aload_n 0, 1) := by decide +kernel
theorem dX4_addWalker_59 : decode cX4_addWalker 59 = .ok (.getfield 40, 3) := by decide +kernel
theorem dX4_addWalker_62 : decode cX4_addWalker 62 = .ok (.iload_n 3, 1) := by decide +kernel
theorem dX4_addWalker_63 : decode cX4_addWalker 63 = .ok (.iastore, 1) := by decide +kernel
theorem dX4_addWalker_64 : decode cX4_addWalker 64 = .ok (.aload_n 0, 1) := by decide +kernel
theorem dX4_addWalker_65 : decode cX4_addWalker 65 = .ok (.dup, 1) := by decide +kernel
theorem dX4_addWalker_66 : decode cX4_addWalker 66 = .ok (.getfield 40, 3) := by decide +kernel
theorem dX4_addWalker_69 : decode cX4_addWalker 69 = .ok (.iconst 1, 1) := by decide +kernel
theorem dX4_addWalker_70 : decode cX4_addWalker 70 = .ok (.iadd, 1) := by decide +kernel
theorem dX4_addWalker_71 : decode cX4_addWalker 71 = .ok (.putfield 40, 3) := by decide +kernel
theorem dX4_addWalker_74 : decode cX4_addWalker 74 = .ok (.iconst 1, 1) := by decide +kernel
theorem dX4_addWalker_75 : decode cX4_addWalker 75 = .ok (.ireturn, 1) := by decide +kernel
theorem dX4_hasField_0 : decode cX4_hasField 0 = .ok (.iload_n 1, 1) := by decide +kernel
theorem dX4_hasField_1 : decode cX4_hasField 1 = .ok (.ifCond .lt 15, 3) := by decide +kernel
theorem dX4_hasField_4 : decode cX4_hasField 4 = .ok (.iload_n 1, 1) := by decide +kernel
theorem dX4_hasField_5 : decode cX4_hasField 5 = .ok (.aload_n 0, 1) := by decide +kernel
theorem dX4_hasField_6 : decode cX4_hasField 6 = .ok (.getfield 30, 3) := by decide +kernel
theorem dX4_hasField_9 : decode cX4_hasField 9 = .ok (.if_icmp .ge 7, 3) := by decide +kernel
theorem dX4_hasField_12 : decode cX4_hasField 12 = .ok (.iconst 1, 1) := by decide +kernel
theorem dX4_hasField_13 : decode cX4_hasField 13 = .ok (.goto 4, 3) := by decide +kernel
theorem dX4_hasField_16 : decode cX4_hasField 16 = .ok (.iconst 0, 1) := by decide +kernel
theorem dX4_hasField_17 : decode cX4_hasField 17 = .ok (.ireturn, 1) := by decide +kernel
theorem dX4_hasStile_0 : decode cX4_hasStile 0 = .ok (.iload_n 1, 1) := by decide +kernel
theorem dX4_hasStile_1 : decode cX4_hasStile 1 = .ok (.ifCond .lt 15, 3) := by decide +kernel
theorem dX4_hasStile_4 : decode cX4_hasStile 4 = .ok (.iload_n 1, 1) := by decide +kernel
theorem dX4_hasStile_5 : decode cX4_hasStile 5 = .ok (.aload_n 0, 1) := by decide +kernel
theorem dX4_hasStile_6 : decode cX4_hasStile 6 = .ok (.getfield 37, 3) := by decide +kernel
theorem dX4_hasStile_9 : decode cX4_hasStile 9 = .ok (.if_icmp .ge 7, 3) := by decide +kernel
theorem dX4_hasStile_12 : decode cX4_hasStile 12 = .ok (.iconst 1, 1) := by decide +kernel
theorem dX4_hasStile_13 : decode cX4_hasStile 13 = .ok (.goto 4, 3) := by decide +kernel
theorem dX4_hasStile_16 : decode cX4_hasStile 16 = .ok (.iconst 0, 1) := by decide +kernel
theorem dX4_hasStile_17 : decode cX4_hasStile 17 = .ok (.ireturn, 1) := by decide +kernel
theorem dX4_hasWalker_0 : decode cX4_hasWalker 0 = .ok (.iload_n 1, 1) := by decide +kernel
theorem dX4_hasWalker_1 : decode cX4_hasWalker 1 = .ok (.ifCond .lt 15, 3) := by decide +kernel
theorem dX4_hasWalker_4 : decode cX4_hasWalker 4 = .ok (.iload_n 1, 1) := by decide +kernel
theorem dX4_hasWalker_5 : decode cX4_hasWalker 5 = .ok (.aload_n 0, 1) := by decide +kernel
theorem dX4_hasWalker_6 : decode cX4_hasWalker 6 = .ok (.getfield 40, 3) := by decide +kernel
theorem dX4_hasWalker_9 : decode cX4_hasWalker 9 = .ok (.if_icmp .ge 7, 3) := by decide +kernel
theorem dX4_hasWalker_12 : decode cX4_hasWalker 12 = .ok (.iconst 1, 1) := by decide +kernel
theorem dX4_hasWalker_13 : decode cX4_hasWalker 13 = .ok (.goto 4, 3) := by decide +kernel
theorem dX4_hasWalker_16 : decode cX4_hasWalker 16 = .ok (.iconst 0, 1) := by decide +kernel
theorem dX4_hasWalker_17 : decode cX4_hasWalker 17 = .ok (.ireturn, 1) := by decide +kernel
theorem dX4_isAt_0 : decode cX4_isAt 0 = .ok (.aload_n 0, 1) := by decide +kernel
theorem dX4_isAt_1 : decode cX4_isAt 1 = .ok (.getfield 15, 3) := by decide +kernel
theorem dX4_isAt_4 : decode cX4_isAt 4 = .ok (.iload_n 1, 1) := by decide +kernel
theorem dX4_isAt_5 : decode cX4_isAt 5 = .ok (.iaload, 1) := by decide +kernel
theorem dX4_isAt_6 : decode cX4_isAt 6 = .ok (.iload_n 2, 1) := by decide +kernel
theorem dX4_isAt_7 : decode cX4_isAt 7 = .ok (.if_icmp .eq 13, 3) := by decide +kernel
theorem dX4_isAt_10 : decode cX4_isAt 10 = .ok (.aload_n 0, 1) := by decide +kernel
theorem dX4_isAt_11 : decode cX4_isAt 11 = .ok (.getfield 18, 3) := by decide +kernel
theorem dX4_isAt_14 : decode cX4_isAt 14 = .ok (.iload_n 1, 1) := by decide +kernel
theorem dX4_isAt_15 : decode cX4_isAt 15 = .ok (.iaload, 1) := by decide +kernel
theorem dX4_isAt_16 : decode cX4_isAt 16 = .ok (.iload_n 2, 1) := by decide +kernel
theorem dX4_isAt_17 : decode cX4_isAt 17 = .ok (.if_icmp .ne 7, 3) := by decide +kernel
theorem dX4_isAt_20 : decode cX4_isAt 20 = .ok (.iconst 1, 1) := by decide +kernel
theorem dX4_isAt_21 : decode cX4_isAt 21 = .ok (.goto 4, 3) := by decide +kernel
theorem dX4_isAt_24 : decode cX4_isAt 24 = .ok (.iconst 0, 1) := by decide +kernel
theorem dX4_isAt_25 : decode cX4_isAt 25 = .ok (.ireturn, 1) := by decide +kernel
theorem dX4_across_0 : decode cX4_across 0 = .ok (.aload_n 0, 1) := by decide +kernel
theorem dX4_across_1 : decode cX4_across 1 = .ok (.getfield 15, 3) := by decide +kernel
theorem dX4_across_4 : decode cX4_across 4 = .ok (.iload_n 1, 1) := by decide +kernel
theorem dX4_across_5 : decode cX4_across 5 = .ok (.iaload, 1) := by decide +kernel
theorem dX4_across_6 : decode cX4_across 6 = .ok (.iload_n 2, 1) := by decide +kernel
theorem dX4_across_7 : decode cX4_across 7 = .ok (.if_icmp .ne 12, 3) := by decide +kernel
theorem dX4_across_10 : decode cX4_across 10 = .ok (.aload_n 0, 1) := by decide +kernel
theorem dX4_across_11 : decode cX4_across 11 = .ok (.getfield 18, 3) := by decide +kernel
theorem dX4_across_14 : decode cX4_across 14 = .ok (.iload_n 1, 1) := by decide +kernel
theorem dX4_across_15 : decode cX4_across 15 = .ok (.iaload, 1) := by decide +kernel
theorem dX4_across_16 : decode cX4_across 16 = .ok (.goto 9, 3) := by decide +kernel
theorem dX4_across_19 : decode cX4_across 19 = .ok (.aload_n 0, 1) := by decide +kernel
theorem dX4_across_20 : decode cX4_across 20 = .ok (.getfield 15, 3) := by decide +kernel
theorem dX4_across_23 : decode cX4_across 23 = .ok (.iload_n 1, 1) := by decide +kernel
theorem dX4_across_24 : decode cX4_across 24 = .ok (.iaload, 1) := by decide +kernel
theorem dX4_across_25 : decode cX4_across 25 = .ok (.ireturn, 1) := by decide +kernel
theorem dX4_hasStileBetween_0 : decode cX4_hasStileBetween 0 = .ok (.iconst 0, 1) := by decide +kernel
theorem dX4_hasStileBetween_1 : decode cX4_hasStileBetween 1 = .ok (.istore_n 3, 1) := by decide +kernel
theorem dX4_hasStileBetween_2 : decode cX4_hasStileBetween 2 = .ok (.iload_n 3, 1) := by decide +kernel
theorem dX4_hasStileBetween_3 : decode cX4_hasStileBetween 3 = .ok (.aload_n 0, 1) := by decide +kernel
theorem dX4_hasStileBetween_4 : decode cX4_hasStileBetween 4 = .ok (.getfield 37, 3) := by decide +kernel
theorem dX4_hasStileBetween_7 : decode cX4_hasStileBetween 7 = .ok (.if_icmp .ge 29, 3) := by decide +kernel
theorem dX4_hasStileBetween_10 : decode cX4_hasStileBetween 10 = .ok (.aload_n 0, 1) := by decide +kernel
theorem dX4_hasStileBetween_11 : decode cX4_hasStileBetween 11 = .ok (.iload_n 3, 1) := by decide +kernel
theorem dX4_hasStileBetween_12 : decode cX4_hasStileBetween 12 = .ok (.iload_n 1, 1) := by decide +kernel
theorem dX4_hasStileBetween_13 : decode cX4_hasStileBetween 13 = .ok (.invokevirtual 53, 3) := by decide +kernel
theorem dX4_hasStileBetween_16 : decode cX4_hasStileBetween 16 = .ok (.ifCond .eq 14, 3) := by decide +kernel
theorem dX4_hasStileBetween_19 : decode cX4_hasStileBetween 19 = .ok (.aload_n 0, 1) := by decide +kernel
theorem dX4_hasStileBetween_20 : decode cX4_hasStileBetween 20 = .ok (.iload_n 3, 1) := by decide +kernel
theorem dX4_hasStileBetween_21 : decode cX4_hasStileBetween 21 = .ok (.iload_n 2, 1) := by decide +kernel
theorem dX4_hasStileBetween_22 : decode cX4_hasStileBetween 22 = .ok (.invokevirtual 53, 3) := by decide +kernel
theorem dX4_hasStileBetween_25 : decode cX4_hasStileBetween 25 = .ok (.ifCond .eq 5, 3) := by decide +kernel
theorem dX4_hasStileBetween_28 : decode cX4_hasStileBetween 28 = .ok (.iconst 1, 1) := by decide +kernel
theorem dX4_hasStileBetween_29 : decode cX4_hasStileBetween 29 = .ok (.ireturn, 1) := by decide +kernel
theorem dX4_hasStileBetween_30 : decode cX4_hasStileBetween 30 = .ok (.iinc 3 1, 3) := by decide +kernel
theorem dX4_hasStileBetween_33 : decode cX4_hasStileBetween 33 = .ok (.goto (-31), 3) := by decide +kernel
theorem dX4_hasStileBetween_36 : decode cX4_hasStileBetween 36 = .ok (.iconst 0, 1) := by decide +kernel
theorem dX4_hasStileBetween_37 : decode cX4_hasStileBetween 37 = .ok (.ireturn, 1) := by decide +kernel
theorem dX4_lowestStileAt_0 : decode cX4_lowestStileAt 0 = .ok (.iconst 0, 1) := by decide +kernel
theorem dX4_lowestStileAt_1 : decode cX4_lowestStileAt 1 = .ok (.istore_n 2, 1) := by decide +kernel
theorem dX4_lowestStileAt_2 : decode cX4_lowestStileAt 2 = .ok (.iload_n 2, 1) := by decide +kernel
theorem dX4_lowestStileAt_3 : decode cX4_lowestStileAt 3 = .ok (.aload_n 0, 1) := by decide +kernel
theorem dX4_lowestStileAt_4 : decode cX4_lowestStileAt 4 = .ok (.getfield 37, 3) := by decide +kernel
theorem dX4_lowestStileAt_7 : decode cX4_lowestStileAt 7 = .ok (.if_icmp .ge 20, 3) := by decide +kernel
theorem dX4_lowestStileAt_10 : decode cX4_lowestStileAt 10 = .ok (.aload_n 0, 1) := by decide +kernel
theorem dX4_lowestStileAt_11 : decode cX4_lowestStileAt 11 = .ok (.iload_n 2, 1) := by decide +kernel
theorem dX4_lowestStileAt_12 : decode cX4_lowestStileAt 12 = .ok (.iload_n 1, 1) := by decide +kernel
theorem dX4_lowestStileAt_13 : decode cX4_lowestStileAt 13 = .ok (.invokevirtual 53, 3) := by decide +kernel
theorem dX4_lowestStileAt_16 : decode cX4_lowestStileAt 16 = .ok (.ifCond .eq 5, 3) := by decide +kernel
theorem dX4_lowestStileAt_19 : decode cX4_lowestStileAt 19 = .ok (.iload_n 2, 1) := by decide +kernel
theorem dX4_lowestStileAt_20 : decode cX4_lowestStileAt 20 = .ok (.ireturn, 1) := by decide +kernel
theorem dX4_lowestStileAt_21 : decode cX4_lowestStileAt 21 = .ok (.iinc 2 1, 3) := by decide +kernel
theorem dX4_lowestStileAt_24 : decode cX4_lowestStileAt 24 = .ok (.goto (-22), 3) := by decide +kernel
theorem dX4_lowestStileAt_27 : decode cX4_lowestStileAt 27 = .ok (.bipush (-4), 2) := by decide +kernel
theorem dX4_lowestStileAt_29 : decode cX4_lowestStileAt 29 = .ok (.ireturn, 1) := by decide +kernel
theorem dX4_wearOf_0 : decode cX4_wearOf 0 = .ok (.aload_n 0, 1) := by decide +kernel
theorem dX4_wearOf_1 : decode cX4_wearOf 1 = .ok (.getfield 9, 3) := by decide +kernel
theorem dX4_wearOf_4 : decode cX4_wearOf 4 = .ok (.iload_n 2, 1) := by decide +kernel
theorem dX4_wearOf_5 : decode cX4_wearOf 5 = .ok (.iaload, 1) := by decide +kernel
theorem dX4_wearOf_6 : decode cX4_wearOf 6 = .ok (.istore_n 3, 1) := by decide +kernel
theorem dX4_wearOf_7 : decode cX4_wearOf 7 = .ok (.iload_n 3, 1) := by decide +kernel
theorem dX4_wearOf_8 : decode cX4_wearOf 8 = .ok (.iconst 2, 1) := by decide +kernel
theorem dX4_wearOf_9 : decode cX4_wearOf 9 = .ok (.if_icmp .eq 8, 3) := by decide +kernel
theorem dX4_wearOf_12 : decode cX4_wearOf 12 = .ok (.iload_n 3, 1) := by decide +kernel
theorem dX4_wearOf_13 : decode cX4_wearOf 13 = .ok (.iconst 3, 1) := by decide +kernel
theorem dX4_wearOf_14 : decode cX4_wearOf 14 = .ok (.if_icmp .ne 5, 3) := by decide +kernel
theorem dX4_wearOf_17 : decode cX4_wearOf 17 = .ok (.iconst 0, 1) := by decide +kernel
theorem dX4_wearOf_18 : decode cX4_wearOf 18 = .ok (.ireturn, 1) := by decide +kernel
theorem dX4_wearOf_19 : decode cX4_wearOf 19 = .ok (.iload_n 3, 1) := by decide +kernel
theorem dX4_wearOf_20 : decode cX4_wearOf 20 = .ok (.iconst 1, 1) := by decide +kernel
theorem dX4_wearOf_21 : decode cX4_wearOf 21 = .ok (.if_icmp .ne 14, 3) := by decide +kernel
theorem dX4_wearOf_24 : decode cX4_wearOf 24 = .ok (.iconst 2, 1) := by decide +kernel
theorem dX4_wearOf_25 : decode cX4_wearOf 25 = .ok (.aload_n 0, 1) := by decide +kernel
theorem dX4_wearOf_26 : decode cX4_wearOf 26 = .ok (.getfield 27, 3) := by decide +kernel
theorem dX4_wearOf_29 : decode cX4_wearOf 29 = .ok (.iload_n 1, 1) := by decide +kernel
theorem dX4_wearOf_30 : decode cX4_wearOf 30 = .ok (.iaload, 1) := by decide +kernel
theorem dX4_wearOf_31 : decode cX4_wearOf 31 = .ok (.imul, 1) := by decide +kernel
theorem dX4_wearOf_32 : decode cX4_wearOf 32 = .ok (.goto 9, 3) := by decide +kernel
theorem dX4_wearOf_35 : decode cX4_wearOf 35 = .ok (.aload_n 0, 1) := by decide +kernel
theorem dX4_wearOf_36 : decode cX4_wearOf 36 = .ok (.getfield 27, 3) := by decide +kernel
theorem dX4_wearOf_39 : decode cX4_wearOf 39 = .ok (.iload_n 1, 1) := by decide +kernel
theorem dX4_wearOf_40 : decode cX4_wearOf 40 = .ok (.iaload, 1) := by decide +kernel
theorem dX4_wearOf_41 : decode cX4_wearOf 41 = .ok (.istore 4, 2) := by decide +kernel
theorem dX4_wearOf_43 : decode cX4_wearOf 43 = .ok (.aload_n 0, 1) := by decide +kernel
theorem dX4_wearOf_44 : decode cX4_wearOf 44 = .ok (.getfield 21, 3) := by decide +kernel
theorem dX4_wearOf_47 : decode cX4_wearOf 47 = .ok (.iload_n 1, 1) := by decide +kernel
theorem dX4_wearOf_48 : decode cX4_wearOf 48 = .ok (.iaload, 1) := by decide +kernel
theorem dX4_wearOf_49 : decode cX4_wearOf 49 = .ok (.iconst 2, 1) := by decide +kernel
theorem dX4_wearOf_50 : decode cX4_wearOf 50 = .ok (.if_icmp .ne 10, 3) := by decide +kernel
theorem dX4_wearOf_53 : decode cX4_wearOf 53 = .ok (.iconst 2, 1) := by decide +kernel
theorem dX4_wearOf_54 : decode cX4_wearOf 54 = .ok (.iload 4, 2) := by decide +kernel
theorem dX4_wearOf_56 : decode cX4_wearOf 56 = .ok (.imul, 1) := by decide +kernel
theorem dX4_wearOf_57 : decode cX4_wearOf 57 = .ok (.goto 5, 3) := by decide +kernel
theorem dX4_wearOf_60 : decode cX4_wearOf 60 = .ok (.iload 4, 2) := by decide +kernel
theorem dX4_wearOf_62 : decode cX4_wearOf 62 = .ok (.ireturn, 1) := by decide +kernel
theorem dX4_gainOf_0 : decode cX4_gainOf 0 = .ok (.aload_n 0, 1) := by decide +kernel
theorem dX4_gainOf_1 : decode cX4_gainOf 1 = .ok (.getfield 9, 3) := by decide +kernel
theorem dX4_gainOf_4 : decode cX4_gainOf 4 = .ok (.iload_n 2, 1) := by decide +kernel
theorem dX4_gainOf_5 : decode cX4_gainOf 5 = .ok (.iaload, 1) := by decide +kernel
theorem dX4_gainOf_6 : decode cX4_gainOf 6 = .ok (.iconst 3, 1) := by decide +kernel
theorem dX4_gainOf_7 : decode cX4_gainOf 7 = .ok (.if_icmp .eq 13, 3) := by decide +kernel
theorem dX4_gainOf_10 : decode cX4_gainOf 10 = .ok (.aload_n 0, 1) := by decide +kernel
theorem dX4_gainOf_11 : decode cX4_gainOf 11 = .ok (.getfield 21, 3) := by decide +kernel
theorem dX4_gainOf_14 : decode cX4_gainOf 14 = .ok (.iload_n 1, 1) := by decide +kernel
theorem dX4_gainOf_15 : decode cX4_gainOf 15 = .ok (.iaload, 1) := by decide +kernel
theorem dX4_gainOf_16 : decode cX4_gainOf 16 = .ok (.iconst 3, 1) := by decide +kernel
theorem dX4_gainOf_17 : decode cX4_gainOf 17 = .ok (.if_icmp .ne 5, 3) := by decide +kernel
theorem dX4_gainOf_20 : decode cX4_gainOf 20 = .ok (.iconst 0, 1) := by decide +kernel
theorem dX4_gainOf_21 : decode cX4_gainOf 21 = .ok (.ireturn, 1) := by decide +kernel
theorem dX4_gainOf_22 : decode cX4_gainOf 22 = .ok (.aload_n 0, 1) := by decide +kernel
theorem dX4_gainOf_23 : decode cX4_gainOf 23 = .ok (.getfield 21, 3) := by decide +kernel
theorem dX4_gainOf_26 : decode cX4_gainOf 26 = .ok (.iload_n 1, 1) := by decide +kernel
theorem dX4_gainOf_27 : decode cX4_gainOf 27 = .ok (.iaload, 1) := by decide +kernel
theorem dX4_gainOf_28 : decode cX4_gainOf 28 = .ok (.iconst 1, 1) := by decide +kernel
theorem dX4_gainOf_29 : decode cX4_gainOf 29 = .ok (.if_icmp .ne 7, 3) := by decide +kernel
theorem dX4_gainOf_32 : decode cX4_gainOf 32 = .ok (.iconst 2, 1) := by decide +kernel
theorem dX4_gainOf_33 : decode cX4_gainOf 33 = .ok (.goto 4, 3) := by decide +kernel
theorem dX4_gainOf_36 : decode cX4_gainOf 36 = .ok (.iconst 1, 1) := by decide +kernel
theorem dX4_gainOf_37 : decode cX4_gainOf 37 = .ok (.ireturn, 1) := by decide +kernel
theorem dX4_treadsToWear_0 : decode cX4_treadsToWear 0 = .ok (.iload_n 3, 1) := by decide +kernel
theorem dX4_treadsToWear_1 : decode cX4_treadsToWear 1 = .ok (.ifCond .ne 5, 3) := by decide +kernel
theorem dX4_treadsToWear_4 : decode cX4_treadsToWear 4 = .ok (.iconst 0, 1) := by decide +kernel
theorem dX4_treadsToWear_5 : decode cX4_treadsToWear 5 = .ok (.ireturn, 1) := by decide +kernel
theorem dX4_treadsToWear_6 : decode cX4_treadsToWear 6 = .ok (.aload_n 0, 1) := by decide +kernel
theorem dX4_treadsToWear_7 : decode cX4_treadsToWear 7 = .ok (.iload_n 1, 1) := by decide +kernel
theorem dX4_treadsToWear_8 : decode cX4_treadsToWear 8 = .ok (.iload_n 2, 1) := by decide +kernel
theorem dX4_treadsToWear_9 : decode cX4_treadsToWear 9 = .ok (.invokevirtual 57, 3) := by decide +kernel
theorem dX4_treadsToWear_12 : decode cX4_treadsToWear 12 = .ok (.istore 4, 2) := by decide +kernel
theorem dX4_treadsToWear_14 : decode cX4_treadsToWear 14 = .ok (.iload 4, 2) := by decide +kernel
theorem dX4_treadsToWear_16 : decode cX4_treadsToWear 16 = .ok (.ifCond .le 10, 3) := by decide +kernel
theorem dX4_treadsToWear_19 : decode cX4_treadsToWear 19 = .ok (.iload_n 3, 1) := by decide +kernel
theorem dX4_treadsToWear_20 : decode cX4_treadsToWear 20 = .ok (.iload 4, 2) := by decide +kernel
theorem dX4_treadsToWear_22 : decode cX4_treadsToWear 22 = .ok (.irem, 1) := by decide +kernel
theorem dX4_treadsToWear_23 : decode cX4_treadsToWear 23 = .ok (.ifCond .eq 6, 3) := by decide +kernel
theorem dX4_treadsToWear_26 : decode cX4_treadsToWear 26 = .ok (.bipush (-4), 2) := by decide +kernel
theorem dX4_treadsToWear_28 : decode cX4_treadsToWear 28 = .ok (.ireturn, 1) := by decide +kernel
theorem dX4_treadsToWear_29 : decode cX4_treadsToWear 29 = .ok (.iload_n 3, 1) := by decide +kernel
theorem dX4_treadsToWear_30 : decode cX4_treadsToWear 30 = .ok (.iload 4, 2) := by decide +kernel
theorem dX4_treadsToWear_32 : decode cX4_treadsToWear 32 = .ok (.idiv, 1) := by decide +kernel
theorem dX4_treadsToWear_33 : decode cX4_treadsToWear 33 = .ok (.ireturn, 1) := by decide +kernel
theorem dX5_init_0 : decode cX5_init 0 = .ok (.aload_n 0, 1) := by decide +kernel
theorem dX5_init_1 : decode cX5_init 1 = .ok (.invokespecial 3, 3) := by decide +kernel
theorem dX5_init_4 : decode cX5_init 4 = .ok (.aload_n 0, 1) := by decide +kernel
theorem dX5_init_5 : decode cX5_init 5 = .ok (.bipush 6, 2) := by decide +kernel
theorem dX5_init_7 : decode cX5_init 7 = .ok (.newarray .int, 2) := by decide +kernel
theorem dX5_init_9 : decode cX5_init 9 = .ok (.putfield 9, 3) := by decide +kernel
theorem dX5_init_12 : decode cX5_init 12 = .ok (.aload_n 0, 1) := by decide +kernel
theorem dX5_init_13 : decode cX5_init 13 = .ok (.bipush 6, 2) := by decide +kernel
theorem dX5_init_15 : decode cX5_init 15 = .ok (.newarray .int, 2) := by decide +kernel
theorem dX5_init_17 : decode cX5_init 17 = .ok (.putfield 15, 3) := by decide +kernel
theorem dX5_init_20 : decode cX5_init 20 = .ok (.return_, 1) := by decide +kernel
theorem dX5_add_0 : decode cX5_add 0 = .ok (.aload_n 0, 1) := by decide +kernel
theorem dX5_add_1 : decode cX5_add 1 = .ok (.getfield 18, 3) := by decide +kernel
theorem dX5_add_4 : decode cX5_add 4 = .ok (.bipush 6, 2) := by decide +kernel
theorem dX5_add_6 : decode cX5_add 6 = .ok (.if_icmp .lt 5, 3) := by decide +kernel
theorem dX5_add_9 : decode cX5_add 9 = .ok (.iconst 0, 1) := by decide +kernel
theorem dX5_add_10 : decode cX5_add 10 = .ok (.ireturn, 1) := by decide +kernel
theorem dX5_add_11 : decode cX5_add 11 = .ok (.aload_n 0, 1) := by decide +kernel
theorem dX5_add_12 : decode cX5_add 12 = .ok (.getfield 9, 3) := by decide +kernel
theorem dX5_add_15 : decode cX5_add 15 = .ok (.aload_n 0, 1) := by decide +kernel
theorem dX5_add_16 : decode cX5_add 16 = .ok (.getfield 18, 3) := by decide +kernel
theorem dX5_add_19 : decode cX5_add 19 = .ok (.iload_n 1, 1) := by decide +kernel
theorem dX5_add_20 : decode cX5_add 20 = .ok (.iastore, 1) := by decide +kernel
theorem dX5_add_21 : decode cX5_add 21 = .ok (.aload_n 0, 1) := by decide +kernel
theorem dX5_add_22 : decode cX5_add 22 = .ok (.getfield 15, 3) := by decide +kernel
theorem dX5_add_25 : decode cX5_add 25 = .ok (.aload_n 0, 1) := by decide +kernel
theorem dX5_add_26 : decode cX5_add 26 = .ok (.getfield 18, 3) := by decide +kernel
theorem dX5_add_29 : decode cX5_add 29 = .ok (.iload_n 2, 1) := by decide +kernel
theorem dX5_add_30 : decode cX5_add 30 = .ok (.iastore, 1) := by decide +kernel
theorem dX5_add_31 : decode cX5_add 31 = .ok (.aload_n 0, 1) := by decide +kernel
theorem dX5_add_32 : decode cX5_add 32 = .ok (.dup, 1) := by decide +kernel
theorem dX5_add_33 : decode cX5_add 33 = .ok (.getfield 18, 3) := by decide +kernel
theorem dX5_add_36 : decode cX5_add 36 = .ok (.iconst 1, 1) := by decide +kernel
theorem dX5_add_37 : decode cX5_add 37 = .ok (.iadd, 1) := by decide +kernel
theorem dX5_add_38 : decode cX5_add 38 = .ok (.putfield 18, 3) := by decide +kernel
theorem dX5_add_41 : decode cX5_add 41 = .ok (.iconst 1, 1) := by decide +kernel
theorem dX5_add_42 : decode cX5_add 42 = .ok (.ireturn, 1) := by decide +kernel
theorem dX5_canBeOf_0 : decode cX5_canBeOf 0 = .ok (.iconst 0, 1) := by decide +kernel
theorem dX5_canBeOf_1 : decode cX5_canBeOf 1 = .ok (.istore 4, 2) := by decide +kernel
theorem dX5_canBeOf_3 : decode cX5_canBeOf 3 = .ok (.iload 4, 2) := by decide +kernel
theorem dX5_canBeOf_5 : decode cX5_canBeOf 5 = .ok (.aload_n 0, 1) := by decide +kernel
theorem dX5_canBeOf_6 : decode cX5_canBeOf 6 = .ok (.getfield 18, 3) := by decide +kernel
theorem dX5_canBeOf_9 : decode cX5_canBeOf 9 = .ok (.if_icmp .ge 40, 3) := by decide +kernel
theorem dX5_canBeOf_12 : decode cX5_canBeOf 12 = .ok (.aload_n 0, 1) := by decide +kernel
theorem dX5_canBeOf_13 : decode cX5_canBeOf 13 = .ok (.getfield 9, 3) := by decide +kernel
theorem dX5_canBeOf_16 : decode cX5_canBeOf 16 = .ok (.iload 4, 2) := by decide +kernel
theorem dX5_canBeOf_18 : decode cX5_canBeOf 18 = .ok (.iaload, 1) := by decide +kernel
theorem dX5_canBeOf_19 : decode cX5_canBeOf 19 = .ok (.iload_n 3, 1) := by decide +kernel
theorem dX5_canBeOf_20 : decode cX5_canBeOf 20 = .ok (.if_icmp .ne 23, 3) := by decide +kernel
theorem dX5_canBeOf_23 : decode cX5_canBeOf 23 = .ok (.aload_n 1, 1) := by decide +kernel
theorem dX5_canBeOf_24 : decode cX5_canBeOf 24 = .ok (.iload_n 2, 1) := by decide +kernel
theorem dX5_canBeOf_25 : decode cX5_canBeOf 25 = .ok (.iload_n 3, 1) := by decide +kernel
theorem dX5_canBeOf_26 : decode cX5_canBeOf 26 = .ok (.aload_n 0, 1) := by decide +kernel
theorem dX5_canBeOf_27 : decode cX5_canBeOf 27 = .ok (.getfield 15, 3) := by decide +kernel
theorem dX5_canBeOf_30 : decode cX5_canBeOf 30 = .ok (.iload 4, 2) := by decide +kernel
theorem dX5_canBeOf_32 : decode cX5_canBeOf 32 = .ok (.iaload, 1) := by decide +kernel
theorem dX5_canBeOf_33 : decode cX5_canBeOf 33 = .ok (.invokevirtual 22, 3) := by decide +kernel
theorem dX5_canBeOf_36 : decode cX5_canBeOf 36 = .ok (.bipush (-4), 2) := by decide +kernel
theorem dX5_canBeOf_38 : decode cX5_canBeOf 38 = .ok (.if_icmp .ne 5, 3) := by decide +kernel
theorem dX5_canBeOf_41 : decode cX5_canBeOf 41 = .ok (.iconst 0, 1) := by decide +kernel
theorem dX5_canBeOf_42 : decode cX5_canBeOf 42 = .ok (.ireturn, 1) := by decide +kernel
theorem dX5_canBeOf_43 : decode cX5_canBeOf 43 = .ok (.iinc 4 1, 3) := by decide +kernel
theorem dX5_canBeOf_46 : decode cX5_canBeOf 46 = .ok (.goto (-43), 3) := by decide +kernel
theorem dX5_canBeOf_49 : decode cX5_canBeOf 49 = .ok (.iconst 1, 1) := by decide +kernel
theorem dX5_canBeOf_50 : decode cX5_canBeOf 50 = .ok (.ireturn, 1) := by decide +kernel
theorem dX6_init_0 : decode cX6_init 0 = .ok (.aload_n 0, 1) := by decide +kernel
theorem dX6_init_1 : decode cX6_init 1 = .ok (.invokespecial 3, 3) := by decide +kernel
theorem dX6_init_4 : decode cX6_init 4 = .ok (.aload_n 0, 1) := by decide +kernel
theorem dX6_init_5 : decode cX6_init 5 = .ok (.bipush 9, 2) := by decide +kernel
theorem dX6_init_7 : decode cX6_init 7 = .ok (.newarray .int, 2) := by decide +kernel
theorem dX6_init_9 : decode cX6_init 9 = .ok (.putfield 9, 3) := by decide +kernel
theorem dX6_init_12 : decode cX6_init 12 = .ok (.aload_n 0, 1) := by decide +kernel
theorem dX6_init_13 : decode cX6_init 13 = .ok (.iconst 4, 1) := by decide +kernel
theorem dX6_init_14 : decode cX6_init 14 = .ok (.newarray .int, 2) := by decide +kernel
theorem dX6_init_16 : decode cX6_init 16 = .ok (.putfield 15, 3) := by decide +kernel
theorem dX6_init_19 : decode cX6_init 19 = .ok (.aload_n 0, 1) := by decide +kernel
theorem dX6_init_20 : decode cX6_init 20 = .ok (.iconst 4, 1) := by decide +kernel
theorem dX6_init_21 : decode cX6_init 21 = .ok (.newarray .int, 2) := by decide +kernel
theorem dX6_init_23 : decode cX6_init 23 = .ok (.putfield 18, 3) := by decide +kernel
theorem dX6_init_26 : decode cX6_init 26 = .ok (.aload_n 0, 1) := by decide +kernel
theorem dX6_init_27 : decode cX6_init 27 = .ok (.iconst 4, 1) := by decide +kernel
theorem dX6_init_28 : decode cX6_init 28 = .ok (.newarray .int, 2) := by decide +kernel
theorem dX6_init_30 : decode cX6_init 30 = .ok (.putfield 21, 3) := by decide +kernel
theorem dX6_init_33 : decode cX6_init 33 = .ok (.aload_n 0, 1) := by decide +kernel
theorem dX6_init_34 : decode cX6_init 34 = .ok (.bipush 36, 2) := by decide +kernel
theorem dX6_init_36 : decode cX6_init 36 = .ok (.newarray .int, 2) := by decide +kernel
theorem dX6_init_38 : decode cX6_init 38 = .ok (.putfield 24, 3) := by decide +kernel
theorem dX6_init_41 : decode cX6_init 41 = .ok (.aload_n 0, 1) := by decide +kernel
theorem dX6_init_42 : decode cX6_init 42 = .ok (.aload_n 1, 1) := by decide +kernel
theorem dX6_init_43 : decode cX6_init 43 = .ok (.putfield 27, 3) := by decide +kernel
theorem dX6_init_46 : decode cX6_init 46 = .ok (.return_, 1) := by decide +kernel
theorem dX6_begin_0 : decode cX6_begin 0 = .ok (.aload_n 0, 1) := by decide +kernel
theorem dX6_begin_1 : decode cX6_begin 1 = .ok (.iconst 0, 1) := by decide +kernel
theorem dX6_begin_2 : decode cX6_begin 2 = .ok (.putfield 31, 3) := by decide +kernel
theorem dX6_begin_5 : decode cX6_begin 5 = .ok (.iconst 0, 1) := by decide +kernel
theorem dX6_begin_6 : decode cX6_begin 6 = .ok (.istore_n 1, 1) := by decide +kernel
theorem dX6_begin_7 : decode cX6_begin 7 = .ok (.iload_n 1, 1) := by decide +kernel
theorem dX6_begin_8 : decode cX6_begin 8 = .ok (.bipush 9, 2) := by decide +kernel
theorem dX6_begin_10 : decode cX6_begin 10 = .ok (.if_icmp .ge 14, 3) := by decide +kernel
theorem dX6_begin_13 : decode cX6_begin 13 = .ok (.aload_n 0, 1) := by decide +kernel
theorem dX6_begin_14 : decode cX6_begin 14 = .ok (.iload_n 1, 1) := by decide +kernel
theorem dX6_begin_15 : decode cX6_begin 15 = .ok (.invokevirtual 35, 3) := by decide +kernel
theorem dX6_begin_18 : decode cX6_begin 18 = .ok (.iinc 1 1, 3) := by decide +kernel
theorem dX6_begin_21 : decode cX6_begin 21 = .ok (.goto (-14), 3) := by decide +kernel
theorem dX6_begin_24 : decode cX6_begin 24 = .ok (.iconst 0, 1) := by decide +kernel
theorem dX6_begin_25 : decode cX6_begin 25 = .ok (.istore_n 1, 1) := by decide +kernel
theorem dX6_begin_26 : decode cX6_begin 26 = .ok (.iload_n 1, 1) := by decide +kernel
theorem dX6_begin_27 : decode cX6_begin 27 = .ok (.iconst 4, 1) := by decide +kernel
theorem dX6_begin_28 : decode cX6_begin 28 = .ok (.if_icmp .ge 39, 3) := by decide +kernel
theorem dX6_begin_31 : decode cX6_begin 31 = .ok (.aload_n 0, 1) := by decide +kernel
theorem dX6_begin_32 : decode cX6_begin 32 = .ok (.getfield 15, 3) := by decide +kernel
theorem dX6_begin_35 : decode cX6_begin 35 = .ok (.iload_n 1, 1) := by decide +kernel
theorem dX6_begin_36 : decode cX6_begin 36 = .ok (.aload_n 0, 1) := by decide +kernel
theorem dX6_begin_37 : decode cX6_begin 37 = .ok (.getfield 27, 3) := by decide +kernel
theorem dX6_begin_40 : decode cX6_begin 40 = .ok (.getfield 39, 3) := by decide +kernel
theorem dX6_begin_43 : decode cX6_begin 43 = .ok (.iload_n 1, 1) := by decide +kernel
theorem dX6_begin_44 : decode cX6_begin 44 = .ok (.iaload, 1) := by decide +kernel
theorem dX6_begin_45 : decode cX6_begin 45 = .ok (.iastore, 1) := by decide +kernel
theorem dX6_begin_46 : decode cX6_begin 46 = .ok (.aload_n 0, 1) := by decide +kernel
theorem dX6_begin_47 : decode cX6_begin 47 = .ok (.getfield 18, 3) := by decide +kernel
theorem dX6_begin_50 : decode cX6_begin 50 = .ok (.iload_n 1, 1) := by decide +kernel
theorem dX6_begin_51 : decode cX6_begin 51 = .ok (.iconst 0, 1) := by decide +kernel
theorem dX6_begin_52 : decode cX6_begin 52 = .ok (.iastore, 1) := by decide +kernel
theorem dX6_begin_53 : decode cX6_begin 53 = .ok (.aload_n 0, 1) := by decide +kernel
theorem dX6_begin_54 : decode cX6_begin 54 = .ok (.getfield 21, 3) := by decide +kernel
theorem dX6_begin_57 : decode cX6_begin 57 = .ok (.iload_n 1, 1) := by decide +kernel
theorem dX6_begin_58 : decode cX6_begin 58 = .ok (.bipush (-4), 2) := by decide +kernel
theorem dX6_begin_60 : decode cX6_begin 60 = .ok (.iastore, 1) := by decide +kernel
theorem dX6_begin_61 : decode cX6_begin 61 = .ok (.iinc 1 1, 3) := by decide +kernel
theorem dX6_begin_64 : decode cX6_begin 64 = .ok (.goto (-38), 3) := by decide +kernel
theorem dX6_begin_67 : decode cX6_begin 67 = .ok (.return_, 1) := by decide +kernel
theorem dX6_copyFrom_0 : decode cX6_copyFrom 0 = .ok (.aload_n 0, 1) := by decide +kernel
theorem dX6_copyFrom_1 : decode cX6_copyFrom 1 = .ok (.aload_n 1, 1) := by decide +kernel
theorem dX6_copyFrom_2 : decode cX6_copyFrom 2 = .ok (.getfield 31, 3) := by decide +kernel
theorem dX6_copyFrom_5 : decode cX6_copyFrom 5 = .ok (.putfield 31, 3) := by decide +kernel
theorem dX6_copyFrom_8 : decode cX6_copyFrom 8 = .ok (.aload_n 1, 1) := by decide +kernel
theorem dX6_copyFrom_9 : decode cX6_copyFrom 9 = .ok (.getfield 9, 3) := by decide +kernel
theorem dX6_copyFrom_12 : decode cX6_copyFrom 12 = .ok (.iconst 0, 1) := by decide +kernel
theorem dX6_copyFrom_13 : decode cX6_copyFrom 13 = .ok (.aload_n 0, 1) := by decide +kernel
theorem dX6_copyFrom_14 : decode cX6_copyFrom 14 = .ok (.getfield 9, 3) := by decide +kernel
theorem dX6_copyFrom_17 : decode cX6_copyFrom 17 = .ok (.iconst 0, 1) := by decide +kernel
theorem dX6_copyFrom_18 : decode cX6_copyFrom 18 = .ok (.bipush 9, 2) := by decide +kernel
theorem dX6_copyFrom_20 : decode cX6_copyFrom 20 = .ok (.invokestatic 44, 3) := by decide +kernel
theorem dX6_copyFrom_23 : decode cX6_copyFrom 23 = .ok (.aload_n 1, 1) := by decide +kernel
theorem dX6_copyFrom_24 : decode cX6_copyFrom 24 = .ok (.getfield 15, 3) := by decide +kernel
theorem dX6_copyFrom_27 : decode cX6_copyFrom 27 = .ok (.iconst 0, 1) := by decide +kernel
theorem dX6_copyFrom_28 : decode cX6_copyFrom 28 = .ok (.aload_n 0, 1) := by decide +kernel
theorem dX6_copyFrom_29 : decode cX6_copyFrom 29 = .ok (.getfield 15, 3) := by decide +kernel
theorem dX6_copyFrom_32 : decode cX6_copyFrom 32 = .ok (.iconst 0, 1) := by decide +kernel
theorem dX6_copyFrom_33 : decode cX6_copyFrom 33 = .ok (.iconst 4, 1) := by decide +kernel
theorem dX6_copyFrom_34 : decode cX6_copyFrom 34 = .ok (.invokestatic 44, 3) := by decide +kernel
theorem dX6_copyFrom_37 : decode cX6_copyFrom 37 = .ok (.aload_n 1, 1) := by decide +kernel
theorem dX6_copyFrom_38 : decode cX6_copyFrom 38 = .ok (.getfield 18, 3) := by decide +kernel
theorem dX6_copyFrom_41 : decode cX6_copyFrom 41 = .ok (.iconst 0, 1) := by decide +kernel
theorem dX6_copyFrom_42 : decode cX6_copyFrom 42 = .ok (.aload_n 0, 1) := by decide +kernel
theorem dX6_copyFrom_43 : decode cX6_copyFrom 43 = .ok (.getfield 18, 3) := by decide +kernel
theorem dX6_copyFrom_46 : decode cX6_copyFrom 46 = .ok (.iconst 0, 1) := by decide +kernel
theorem dX6_copyFrom_47 : decode cX6_copyFrom 47 = .ok (.iconst 4, 1) := by decide +kernel
theorem dX6_copyFrom_48 : decode cX6_copyFrom 48 = .ok (.invokestatic 44, 3) := by decide +kernel
theorem dX6_copyFrom_51 : decode cX6_copyFrom 51 = .ok (.aload_n 1, 1) := by decide +kernel
theorem dX6_copyFrom_52 : decode cX6_copyFrom 52 = .ok (.getfield 21, 3) := by decide +kernel
theorem dX6_copyFrom_55 : decode cX6_copyFrom 55 = .ok (.iconst 0, 1) := by decide +kernel
theorem dX6_copyFrom_56 : decode cX6_copyFrom 56 = .ok (.aload_n 0, 1) := by decide +kernel
theorem dX6_copyFrom_57 : decode cX6_copyFrom 57 = .ok (.getfield 21, 3) := by decide +kernel
theorem dX6_copyFrom_60 : decode cX6_copyFrom 60 = .ok (.iconst 0, 1) := by decide +kernel
theorem dX6_copyFrom_61 : decode cX6_copyFrom 61 = .ok (.iconst 4, 1) := by decide +kernel
theorem dX6_copyFrom_62 : decode cX6_copyFrom 62 = .ok (.invokestatic 44, 3) := by decide +kernel
theorem dX6_copyFrom_65 : decode cX6_copyFrom 65 = .ok (.aload_n 1, 1) := by decide +kernel
theorem dX6_copyFrom_66 : decode cX6_copyFrom 66 = .ok (.getfield 24, 3) := by decide +kernel
theorem dX6_copyFrom_69 : decode cX6_copyFrom 69 = .ok (.iconst 0, 1) := by decide +kernel
theorem dX6_copyFrom_70 : decode cX6_copyFrom 70 = .ok (.aload_n 0, 1) := by decide +kernel
theorem dX6_copyFrom_71 : decode cX6_copyFrom 71 = .ok (.getfield 24, 3) := by decide +kernel
theorem dX6_copyFrom_74 : decode cX6_copyFrom 74 = .ok (.iconst 0, 1) := by decide +kernel
theorem dX6_copyFrom_75 : decode cX6_copyFrom 75 = .ok (.bipush 36, 2) := by decide +kernel
theorem dX6_copyFrom_77 : decode cX6_copyFrom 77 = .ok (.invokestatic 44, 3) := by decide +kernel
theorem dX6_copyFrom_80 : decode cX6_copyFrom 80 = .ok (.return_, 1) := by decide +kernel
theorem dX6_goOver_0 : decode cX6_goOver 0 = .ok (.aload_n 0, 1) := by decide +kernel
theorem dX6_goOver_1 : decode cX6_goOver 1 = .ok (.getfield 24, 3) := by decide +kernel
theorem dX6_goOver_4 : decode cX6_goOver 4 = .ok (.iload_n 1, 1) := by decide +kernel
theorem dX6_goOver_5 : decode cX6_goOver 5 = .ok (.bipush 9, 2) := by decide +kernel
theorem dX6_goOver_7 : decode cX6_goOver 7 = .ok (.imul, 1) := by decide +kernel
theorem dX6_goOver_8 : decode cX6_goOver 8 = .ok (.iload_n 2, 1) := by decide +kernel
theorem dX6_goOver_9 : decode cX6_goOver 9 = .ok (.iadd, 1) := by decide +kernel
theorem dX6_goOver_10 : decode cX6_goOver 10 = .ok (.dup2, 1) := by decide +kernel
theorem dX6_goOver_11 : decode cX6_goOver 11 = .ok (.iaload, 1) := by decide +kernel
theorem dX6_goOver_12 : decode cX6_goOver 12 = .ok (.aload_n 0, 1) := by decide +kernel
theorem dX6_goOver_13 : decode cX6_goOver 13 = .ok (.getfield 27, 3) := by decide +kernel
theorem dX6_goOver_16 : decode cX6_goOver 16 = .ok (.getfield 50, 3) := by decide +kernel
theorem dX6_goOver_19 : decode cX6_goOver 19 = .ok (.iload_n 2, 1) := by decide +kernel
theorem dX6_goOver_20 : decode cX6_goOver 20 = .ok (.iaload, 1) := by decide +kernel
theorem dX6_goOver_21 : decode cX6_goOver 21 = .ok (.aload_n 0, 1) := by decide +kernel
theorem dX6_goOver_22 : decode cX6_goOver 22 = .ok (.getfield 15, 3) := by decide +kernel
theorem dX6_goOver_25 : decode cX6_goOver 25 = .ok (.iload_n 1, 1) := by decide +kernel
theorem dX6_goOver_26 : decode cX6_goOver 26 = .ok (.iaload, 1) := by decide +kernel
theorem dX6_goOver_27 : decode cX6_goOver 27 = .ok (.if_icmp .ne 7, 3) := by decide +kernel
theorem dX6_goOver_30 : decode cX6_goOver 30 = .ok (.iconst 1, 1) := by decide +kernel
theorem dX6_goOver_31 : decode cX6_goOver 31 = .ok (.goto 4, 3) := by decide +kernel
theorem dX6_goOver_34 : decode cX6_goOver 34 = .ok (.iconst (-1), 1) := by decide +kernel
theorem dX6_goOver_35 : decode cX6_goOver 35 = .ok (.iadd, 1) := by decide +kernel
theorem dX6_goOver_36 : decode cX6_goOver 36 = .ok (.iastore, 1) := by decide +kernel
theorem dX6_goOver_37 : decode cX6_goOver 37 = .ok (.aload_n 0, 1) := by decide +kernel
theorem dX6_goOver_38 : decode cX6_goOver 38 = .ok (.getfield 15, 3) := by decide +kernel
theorem dX6_goOver_41 : decode cX6_goOver 41 = .ok (.iload_n 1, 1) := by decide +kernel
theorem dX6_goOver_42 : decode cX6_goOver 42 = .ok (.aload_n 0, 1) := by decide +kernel
theorem dX6_goOver_43 : decode cX6_goOver 43 = .ok (.getfield 27, 3) := by decide +kernel
theorem dX6_goOver_46 : decode cX6_goOver 46 = .ok (.iload_n 2, 1) := by decide +kernel
theorem dX6_goOver_47 : decode cX6_goOver 47 = .ok (.aload_n 0, 1) := by decide +kernel
theorem dX6_goOver_48 : decode cX6_goOver 48 = .ok (.getfield 15, 3) := by decide +kernel
theorem dX6_goOver_51 : decode cX6_goOver 51 = .ok (.iload_n 1, 1) := by decide +kernel
theorem dX6_goOver_52 : decode cX6_goOver 52 = .ok (.iaload, 1) := by decide +kernel
theorem dX6_goOver_53 : decode cX6_goOver 53 = .ok (.invokevirtual 53, 3) := by decide +kernel
theorem dX6_goOver_56 : decode cX6_goOver 56 = .ok (.iastore, 1) := by decide +kernel
theorem dX6_goOver_57 : decode cX6_goOver 57 = .ok (.aload_n 0, 1) := by decide +kernel
theorem dX6_goOver_58 : decode cX6_goOver 58 = .ok (.getfield 21, 3) := by decide +kernel
theorem dX6_goOver_61 : decode cX6_goOver 61 = .ok (.iload_n 1, 1) := by decide +kernel
theorem dX6_goOver_62 : decode cX6_goOver 62 = .ok (.iload_n 2, 1) := by decide +kernel
theorem dX6_goOver_63 : decode cX6_goOver 63 = .ok (.iastore, 1) := by decide +kernel
theorem dX6_goOver_64 : decode cX6_goOver 64 = .ok (.aload_n 0, 1) := by decide +kernel
theorem dX6_goOver_65 : decode cX6_goOver 65 = .ok (.getfield 18, 3) := by decide +kernel
theorem dX6_goOver_68 : decode cX6_goOver 68 = .ok (.iload_n 1, 1) := by decide +kernel
theorem dX6_goOver_69 : decode cX6_goOver 69 = .ok (.dup2, 1) := by decide +kernel
theorem dX6_goOver_70 : decode cX6_goOver 70 = .ok (.iaload, 1) := by decide +kernel
theorem dX6_goOver_71 : decode cX6_goOver 71 = .ok (.aload_n 0, 1) := by decide +kernel
theorem dX6_goOver_72 : decode cX6_goOver 72 = .ok (.getfield 27, 3) := by decide +kernel
theorem dX6_goOver_75 : decode cX6_goOver 75 = .ok (.iload_n 1, 1) := by decide +kernel
theorem dX6_goOver_76 : decode cX6_goOver 76 = .ok (.iload_n 2, 1) := by decide +kernel
theorem dX6_goOver_77 : decode cX6_goOver 77 = .ok (.invokevirtual 57, 3) := by decide +kernel
theorem dX6_goOver_80 : decode cX6_goOver 80 = .ok (.iadd, 1) := by decide +kernel
theorem dX6_goOver_81 : decode cX6_goOver 81 = .ok (.iastore, 1) := by decide +kernel
theorem dX6_goOver_82 : decode cX6_goOver 82 = .ok (.aload_n 0, 1) := by decide +kernel
theorem dX6_goOver_83 : decode cX6_goOver 83 = .ok (.iload_n 2, 1) := by decide +kernel
theorem dX6_goOver_84 : decode cX6_goOver 84 = .ok (.aload_n 0, 1) := by decide +kernel
theorem dX6_goOver_85 : decode cX6_goOver 85 = .ok (.getfield 27, 3) := by decide +kernel
theorem dX6_goOver_88 : decode cX6_goOver 88 = .ok (.iload_n 1, 1) := by decide +kernel
theorem dX6_goOver_89 : decode cX6_goOver 89 = .ok (.iload_n 2, 1) := by decide +kernel
theorem dX6_goOver_90 : decode cX6_goOver 90 = .ok (.invokevirtual 60, 3) := by decide +kernel
theorem dX6_goOver_93 : decode cX6_goOver 93 = .ok (.invokevirtual 63, 3) := by decide +kernel
theorem dX6_goOver_96 : decode cX6_goOver 96 = .ok (.aload_n 0, 1) := by decide +kernel
theorem dX6_goOver_97 : decode cX6_goOver 97 = .ok (.dup, 1) := by decide +kernel
theorem dX6_goOver_98 : decode cX6_goOver 98 = .ok (.getfield 31, 3) := by decide +kernel
theorem dX6_goOver_101 : decode cX6_goOver 101 = .ok (.iconst 1, 1) := by decide +kernel
theorem dX6_goOver_102 : decode cX6_goOver 102 = .ok (.iadd, 1) := by decide +kernel
theorem dX6_goOver_103 : decode cX6_goOver 103 = .ok (.putfield 31, 3) := by decide +kernel
theorem dX6_goOver_106 : decode cX6_goOver 106 = .ok (.return_, 1) := by decide +kernel
theorem dX6_wearBy_0 : decode cX6_wearBy 0 = .ok (.aload_n 0, 1) := by decide +kernel
theorem dX6_wearBy_1 : decode cX6_wearBy 1 = .ok (.getfield 9, 3) := by decide +kernel
theorem dX6_wearBy_4 : decode cX6_wearBy 4 = .ok (.iload_n 1, 1) := by decide +kernel
theorem dX6_wearBy_5 : decode cX6_wearBy 5 = .ok (.aload_n 0, 1) := by decide +kernel
theorem dX6_wearBy_6 : decode cX6_wearBy 6 = .ok (.getfield 9, 3) := by decide +kernel
theorem dX6_wearBy_9 : decode cX6_wearBy 9 = .ok (.iload_n 1, 1) := by decide +kernel
theorem dX6_wearBy_10 : decode cX6_wearBy 10 = .ok (.iaload, 1) := by decide +kernel
theorem dX6_wearBy_11 : decode cX6_wearBy 11 = .ok (.iload_n 2, 1) := by decide +kernel
theorem dX6_wearBy_12 : decode cX6_wearBy 12 = .ok (.iadd, 1) := by decide +kernel
theorem dX6_wearBy_13 : decode cX6_wearBy 13 = .ok (.sipush 999, 3) := by decide +kernel
theorem dX6_wearBy_16 : decode cX6_wearBy 16 = .ok (.invokestatic 67, 3) := by decide +kernel
theorem dX6_wearBy_19 : decode cX6_wearBy 19 = .ok (.iastore, 1) := by decide +kernel
theorem dX6_wearBy_20 : decode cX6_wearBy 20 = .ok (.return_, 1) := by decide +kernel
theorem dX6_renew_0 : decode cX6_renew 0 = .ok (.aload_n 0, 1) := by decide +kernel
theorem dX6_renew_1 : decode cX6_renew 1 = .ok (.getfield 9, 3) := by decide +kernel
theorem dX6_renew_4 : decode cX6_renew 4 = .ok (.iload_n 1, 1) := by decide +kernel
theorem dX6_renew_5 : decode cX6_renew 5 = .ok (.iconst 0, 1) := by decide +kernel
theorem dX6_renew_6 : decode cX6_renew 6 = .ok (.iastore, 1) := by decide +kernel
theorem dX6_renew_7 : decode cX6_renew 7 = .ok (.iconst 0, 1) := by decide +kernel
theorem dX6_renew_8 : decode cX6_renew 8 = .ok (.istore_n 2, 1) := by decide +kernel
theorem dX6_renew_9 : decode cX6_renew 9 = .ok (.iload_n 2, 1) := by decide +kernel
theorem dX6_renew_10 : decode cX6_renew 10 = .ok (.iconst 4, 1) := by decide +kernel
theorem dX6_renew_11 : decode cX6_renew 11 = .ok (.if_icmp .ge 21, 3) := by decide +kernel
theorem dX6_renew_14 : decode cX6_renew 14 = .ok (.aload_n 0, 1) := by decide +kernel
theorem dX6_renew_15 : decode cX6_renew 15 = .ok (.getfield 24, 3) := by decide +kernel
theorem dX6_renew_18 : decode cX6_renew 18 = .ok (.iload_n 2, 1) := by decide +kernel
theorem dX6_renew_19 : decode cX6_renew 19 = .ok (.bipush 9, 2) := by decide +kernel
theorem dX6_renew_21 : decode cX6_renew 21 = .ok (.imul, 1) := by decide +kernel
theorem dX6_renew_22 : decode cX6_renew 22 = .ok (.iload_n 1, 1) := by decide +kernel
theorem dX6_renew_23 : decode cX6_renew 23 = .ok (.iadd, 1) := by decide +kernel
theorem dX6_renew_24 : decode cX6_renew 24 = .ok (.iconst 0, 1) := by decide +kernel
theorem dX6_renew_25 : decode cX6_renew 25 = .ok (.iastore, 1) := by decide +kernel
theorem dX6_renew_26 : decode cX6_renew 26 = .ok (.iinc 2 1, 3) := by decide +kernel
theorem dX6_renew_29 : decode cX6_renew 29 = .ok (.goto (-20), 3) := by decide +kernel
theorem dX6_renew_32 : decode cX6_renew 32 = .ok (.return_, 1) := by decide +kernel
theorem dX6_accountOf_0 : decode cX6_accountOf 0 = .ok (.aload_n 0, 1) := by decide +kernel
theorem dX6_accountOf_1 : decode cX6_accountOf 1 = .ok (.getfield 24, 3) := by decide +kernel
theorem dX6_accountOf_4 : decode cX6_accountOf 4 = .ok (.iload_n 1, 1) := by decide +kernel
theorem dX6_accountOf_5 : decode cX6_accountOf 5 = .ok (.bipush 9, 2) := by decide +kernel
theorem dX6_accountOf_7 : decode cX6_accountOf 7 = .ok (.imul, 1) := by decide +kernel
theorem dX6_accountOf_8 : decode cX6_accountOf 8 = .ok (.iload_n 2, 1) := by decide +kernel
theorem dX6_accountOf_9 : decode cX6_accountOf 9 = .ok (.iadd, 1) := by decide +kernel
theorem dX6_accountOf_10 : decode cX6_accountOf 10 = .ok (.iaload, 1) := by decide +kernel
theorem dX6_accountOf_11 : decode cX6_accountOf 11 = .ok (.ireturn, 1) := by decide +kernel
theorem dX6_unevenStiles_0 : decode cX6_unevenStiles 0 = .ok (.iconst 0, 1) := by decide +kernel
theorem dX6_unevenStiles_1 : decode cX6_unevenStiles 1 = .ok (.istore_n 2, 1) := by decide +kernel
theorem dX6_unevenStiles_2 : decode cX6_unevenStiles 2 = .ok (.iconst 0, 1) := by decide +kernel
theorem dX6_unevenStiles_3 : decode cX6_unevenStiles 3 = .ok (.istore_n 3, 1) := by decide +kernel
theorem dX6_unevenStiles_4 : decode cX6_unevenStiles 4 = .ok (.iload_n 3, 1) := by decide +kernel
theorem dX6_unevenStiles_5 : decode cX6_unevenStiles 5 = .ok (.aload_n 0, 1) := by decide +kernel
theorem dX6_unevenStiles_6 : decode cX6_unevenStiles 6 = .ok (.getfield 27, 3) := by decide +kernel
theorem dX6_unevenStiles_9 : decode cX6_unevenStiles 9 = .ok (.getfield 72, 3) := by decide +kernel
theorem dX6_unevenStiles_12 : decode cX6_unevenStiles 12 = .ok (.if_icmp .ge 24, 3) := by decide +kernel
theorem dX6_unevenStiles_15 : decode cX6_unevenStiles 15 = .ok (.aload_n 0, 1) := by decide +kernel
theorem dX6_unevenStiles_16 : decode cX6_unevenStiles 16 = .ok (.iload_n 1, 1) := by decide +kernel
theorem dX6_unevenStiles_17 : decode cX6_unevenStiles 17 = .ok (.iload_n 3, 1) := by decide +kernel
theorem dX6_unevenStiles_18 : decode cX6_unevenStiles 18 = .ok (.invokevirtual 75, 3) := by decide +kernel
theorem dX6_unevenStiles_21 : decode cX6_unevenStiles 21 = .ok (.ifCond .eq 9, 3) := by decide +kernel
theorem dX6_unevenStiles_24 : decode cX6_unevenStiles 24 = .ok (.iload_n 2, 1) := by decide +kernel
theorem dX6_unevenStiles_25 : decode cX6_unevenStiles 25 = .ok (.iconst 1, 1) := by decide +kernel
theorem dX6_unevenStiles_26 : decode cX6_unevenStiles 26 = .ok (.iload_n 3, 1) := by decide +kernel
theorem dX6_unevenStiles_27 : decode cX6_unevenStiles 27 = .ok (.ishl, 1) := by decide +kernel
theorem dX6_unevenStiles_28 : decode cX6_unevenStiles 28 = .ok (.ior, 1) := by decide +kernel
theorem dX6_unevenStiles_29 : decode cX6_unevenStiles 29 = .ok (.istore_n 2, 1) := by decide +kernel
theorem dX6_unevenStiles_30 : decode cX6_unevenStiles 30 = .ok (.iinc 3 1, 3) := by decide +kernel
theorem dX6_unevenStiles_33 : decode cX6_unevenStiles 33 = .ok (.goto (-29), 3) := by decide +kernel
theorem dX6_unevenStiles_36 : decode cX6_unevenStiles 36 = .ok (.iload_n 2, 1) := by decide +kernel
theorem dX6_unevenStiles_37 : decode cX6_unevenStiles 37 = .ok (.ireturn, 1) := by decide +kernel
theorem dX6_isLevel_0 : decode cX6_isLevel 0 = .ok (.aload_n 0, 1) := by decide +kernel
theorem dX6_isLevel_1 : decode cX6_isLevel 1 = .ok (.iload_n 1, 1) := by decide +kernel
theorem dX6_isLevel_2 : decode cX6_isLevel 2 = .ok (.invokevirtual 78, 3) := by decide +kernel
theorem dX6_isLevel_5 : decode cX6_isLevel 5 = .ok (.ifCond .ne 7, 3) := by decide +kernel
theorem dX6_isLevel_8 : decode cX6_isLevel 8 = .ok (.iconst 1, 1) := by decide +kernel
theorem dX6_isLevel_9 : decode cX6_isLevel 9 = .ok (.goto 4, 3) := by decide +kernel
theorem dX6_isLevel_12 : decode cX6_isLevel 12 = .ok (.iconst 0, 1) := by decide +kernel
theorem dX6_isLevel_13 : decode cX6_isLevel 13 = .ok (.ireturn, 1) := by decide +kernel
theorem dX6_isBroken_0 : decode cX6_isBroken 0 = .ok (.aload_n 0, 1) := by decide +kernel
theorem dX6_isBroken_1 : decode cX6_isBroken 1 = .ok (.getfield 9, 3) := by decide +kernel
theorem dX6_isBroken_4 : decode cX6_isBroken 4 = .ok (.iload_n 1, 1) := by decide +kernel
theorem dX6_isBroken_5 : decode cX6_isBroken 5 = .ok (.iaload, 1) := by decide +kernel
theorem dX6_isBroken_6 : decode cX6_isBroken 6 = .ok (.aload_n 0, 1) := by decide +kernel
theorem dX6_isBroken_7 : decode cX6_isBroken 7 = .ok (.getfield 27, 3) := by decide +kernel
theorem dX6_isBroken_10 : decode cX6_isBroken 10 = .ok (.getfield 82, 3) := by decide +kernel
theorem dX6_isBroken_13 : decode cX6_isBroken 13 = .ok (.if_icmp .lt 7, 3) := by decide +kernel
theorem dX6_isBroken_16 : decode cX6_isBroken 16 = .ok (.iconst 1, 1) := by decide +kernel
theorem dX6_isBroken_17 : decode cX6_isBroken 17 = .ok (.goto 4, 3) := by decide +kernel
theorem dX6_isBroken_20 : decode cX6_isBroken 20 = .ok (.iconst 0, 1) := by decide +kernel
theorem dX6_isBroken_21 : decode cX6_isBroken 21 = .ok (.ireturn, 1) := by decide +kernel
theorem dX6_isOpenAt_0 : decode cX6_isOpenAt 0 = .ok (.aload_n 0, 1) := by decide +kernel
theorem dX6_isOpenAt_1 : decode cX6_isOpenAt 1 = .ok (.getfield 27, 3) := by decide +kernel
theorem dX6_isOpenAt_4 : decode cX6_isOpenAt 4 = .ok (.iload_n 1, 1) := by decide +kernel
theorem dX6_isOpenAt_5 : decode cX6_isOpenAt 5 = .ok (.iload_n 2, 1) := by decide +kernel
theorem dX6_isOpenAt_6 : decode cX6_isOpenAt 6 = .ok (.invokevirtual 85, 3) := by decide +kernel
theorem dX6_isOpenAt_9 : decode cX6_isOpenAt 9 = .ok (.ifCond .eq 15, 3) := by decide +kernel
theorem dX6_isOpenAt_12 : decode cX6_isOpenAt 12 = .ok (.aload_n 0, 1) := by decide +kernel
theorem dX6_isOpenAt_13 : decode cX6_isOpenAt 13 = .ok (.iload_n 1, 1) := by decide +kernel
theorem dX6_isOpenAt_14 : decode cX6_isOpenAt 14 = .ok (.invokevirtual 89, 3) := by decide +kernel
theorem dX6_isOpenAt_17 : decode cX6_isOpenAt 17 = .ok (.ifCond .ne 7, 3) := by decide +kernel
theorem dX6_isOpenAt_20 : decode cX6_isOpenAt 20 = .ok (.iconst 1, 1) := by decide +kernel
theorem dX6_isOpenAt_21 : decode cX6_isOpenAt 21 = .ok (.goto 4, 3) := by decide +kernel
theorem dX6_isOpenAt_24 : decode cX6_isOpenAt 24 = .ok (.iconst 0, 1) := by decide +kernel
theorem dX6_isOpenAt_25 : decode cX6_isOpenAt 25 = .ok (.ireturn, 1) := by decide +kernel
theorem dX6_openStilesAt_0 : decode cX6_openStilesAt 0 = .ok (.iconst 0, 1) := by decide +kernel
theorem dX6_openStilesAt_1 : decode cX6_openStilesAt 1 = .ok (.istore_n 2, 1) := by decide +kernel
theorem dX6_openStilesAt_2 : decode cX6_openStilesAt 2 = .ok (.iconst 0, 1) := by decide +kernel
theorem dX6_openStilesAt_3 : decode cX6_openStilesAt 3 = .ok (.istore_n 3, 1) := by decide +kernel
theorem dX6_openStilesAt_4 : decode cX6_openStilesAt 4 = .ok (.iload_n 3, 1) := by decide +kernel
theorem dX6_openStilesAt_5 : decode cX6_openStilesAt 5 = .ok (.aload_n 0, 1) := by decide +kernel
theorem dX6_openStilesAt_6 : decode cX6_openStilesAt 6 = .ok (.getfield 27, 3) := by decide +kernel
theorem dX6_openStilesAt_9 : decode cX6_openStilesAt 9 = .ok (.getfield 72, 3) := by decide +kernel
theorem dX6_openStilesAt_12 : decode cX6_openStilesAt 12 = .ok (.if_icmp .ge 21, 3) := by decide +kernel
theorem dX6_openStilesAt_15 : decode cX6_openStilesAt 15 = .ok (.aload_n 0, 1) := by decide +kernel
theorem dX6_openStilesAt_16 : decode cX6_openStilesAt 16 = .ok (.iload_n 3, 1) := by decide +kernel
theorem dX6_openStilesAt_17 : decode cX6_openStilesAt 17 = .ok (.iload_n 1, 1) := by decide +kernel
theorem dX6_openStilesAt_18 : decode cX6_openStilesAt 18 = .ok (.invokevirtual 93, 3) := by decide +kernel
theorem dX6_openStilesAt_21 : decode cX6_openStilesAt 21 = .ok (.ifCond .eq 6, 3) := by decide +kernel
theorem dX6_openStilesAt_24 : decode cX6_openStilesAt 24 = .ok (.iinc 2 1, 3) := by decide +kernel
theorem dX6_openStilesAt_27 : decode cX6_openStilesAt 27 = .ok (.iinc 3 1, 3) := by decide +kernel
theorem dX6_openStilesAt_30 : decode cX6_openStilesAt 30 = .ok (.goto (-26), 3) := by decide +kernel
theorem dX6_openStilesAt_33 : decode cX6_openStilesAt 33 = .ok (.iload_n 2, 1) := by decide +kernel
theorem dX6_openStilesAt_34 : decode cX6_openStilesAt 34 = .ok (.ireturn, 1) := by decide +kernel
theorem dX6_openStileAt_0 : decode cX6_openStileAt 0 = .ok (.iconst 0, 1) := by decide +kernel
theorem dX6_openStileAt_1 : decode cX6_openStileAt 1 = .ok (.istore_n 3, 1) := by decide +kernel
theorem dX6_openStileAt_2 : decode cX6_openStileAt 2 = .ok (.iconst 0, 1) := by decide +kernel
theorem dX6_openStileAt_3 : decode cX6_openStileAt 3 = .ok (.istore 4, 2) := by decide +kernel
theorem dX6_openStileAt_5 : decode cX6_openStileAt 5 = .ok (.iconst 0, 1) := by decide +kernel
theorem dX6_openStileAt_6 : decode cX6_openStileAt 6 = .ok (.istore 5, 2) := by decide +kernel
theorem dX6_openStileAt_8 : decode cX6_openStileAt 8 = .ok (.iload 5, 2) := by decide +kernel
theorem dX6_openStileAt_10 : decode cX6_openStileAt 10 = .ok (.aload_n 0, 1) := by decide +kernel
theorem dX6_openStileAt_11 : decode cX6_openStileAt 11 = .ok (.getfield 27, 3) := by decide +kernel
theorem dX6_openStileAt_14 : decode cX6_openStileAt 14 = .ok (.getfield 72, 3) := by decide +kernel
theorem dX6_openStileAt_17 : decode cX6_openStileAt 17 = .ok (.if_icmp .ge 31, 3) := by decide +kernel
theorem dX6_openStileAt_20 : decode cX6_openStileAt 20 = .ok (.iload 4, 2) := by decide +kernel
theorem dX6_openStileAt_22 : decode cX6_openStileAt 22 = .ok (.iload_n 2, 1) := by decide +kernel
theorem dX6_openStileAt_23 : decode cX6_openStileAt 23 = .ok (.if_icmp .gt 25, 3) := by decide +kernel
theorem dX6_openStileAt_26 : decode cX6_openStileAt 26 = .ok (.aload_n 0, 1) := by decide +kernel
theorem dX6_openStileAt_27 : decode cX6_openStileAt 27 = .ok (.iload 5, 2) := by decide +kernel
theorem dX6_openStileAt_29 : decode cX6_openStileAt 29 = .ok (.iload_n 1, 1) := by decide +kernel
theorem dX6_openStileAt_30 : decode cX6_openStileAt 30 = .ok (.invokevirtual 93, 3) := by decide +kernel
theorem dX6_openStileAt_33 : decode cX6_openStileAt 33 = .ok (.ifCond .eq 9, 3) := by decide +kernel
theorem dX6_openStileAt_36 : decode cX6_openStileAt 36 = .ok (.iload 5, 2) := by decide +kernel
theorem dX6_openStileAt_38 : decode cX6_openStileAt 38 = .ok (.istore_n 3, 1) := by decide +kernel
theorem dX6_openStileAt_39 : decode cX6_openStileAt 39 = .ok (.iinc 4 1, 3) := by decide +kernel
theorem dX6_openStileAt_42 : decode cX6_openStileAt 42 = .ok (.iinc 5 1, 3) := by decide +kernel
theorem dX6_openStileAt_45 : decode cX6_openStileAt 45 = .ok (.goto (-37), 3) := by decide +kernel
theorem dX6_openStileAt_48 : decode cX6_openStileAt 48 = .ok (.iload_n 3, 1) := by decide +kernel
theorem dX6_openStileAt_49 : decode cX6_openStileAt 49 = .ok (.ireturn, 1) := by decide +kernel
theorem dX6_brokenStiles_0 : decode cX6_brokenStiles 0 = .ok (.iconst 0, 1) := by decide +kernel
theorem dX6_brokenStiles_1 : decode cX6_brokenStiles 1 = .ok (.istore_n 1, 1) := by decide +kernel
theorem dX6_brokenStiles_2 : decode cX6_brokenStiles 2 = .ok (.iconst 0, 1) := by decide +kernel
theorem dX6_brokenStiles_3 : decode cX6_brokenStiles 3 = .ok (.istore_n 2, 1) := by decide +kernel
theorem dX6_brokenStiles_4 : decode cX6_brokenStiles 4 = .ok (.iload_n 2, 1) := by decide +kernel
theorem dX6_brokenStiles_5 : decode cX6_brokenStiles 5 = .ok (.aload_n 0, 1) := by decide +kernel
theorem dX6_brokenStiles_6 : decode cX6_brokenStiles 6 = .ok (.getfield 27, 3) := by decide +kernel
theorem dX6_brokenStiles_9 : decode cX6_brokenStiles 9 = .ok (.getfield 72, 3) := by decide +kernel
theorem dX6_brokenStiles_12 : decode cX6_brokenStiles 12 = .ok (.if_icmp .ge 20, 3) := by decide +kernel
theorem dX6_brokenStiles_15 : decode cX6_brokenStiles 15 = .ok (.aload_n 0, 1) := by decide +kernel
theorem dX6_brokenStiles_16 : decode cX6_brokenStiles 16 = .ok (.iload_n 2, 1) := by decide +kernel
theorem dX6_brokenStiles_17 : decode cX6_brokenStiles 17 = .ok (.invokevirtual 89, 3) := by decide +kernel
theorem dX6_brokenStiles_20 : decode cX6_brokenStiles 20 = .ok (.ifCond .eq 6, 3) := by decide +kernel
theorem dX6_brokenStiles_23 : decode cX6_brokenStiles 23 = .ok (.iinc 1 1, 3) := by decide +kernel
theorem dX6_brokenStiles_26 : decode cX6_brokenStiles 26 = .ok (.iinc 2 1, 3) := by decide +kernel
theorem dX6_brokenStiles_29 : decode cX6_brokenStiles 29 = .ok (.goto (-25), 3) := by decide +kernel
theorem dX6_brokenStiles_32 : decode cX6_brokenStiles 32 = .ok (.iload_n 1, 1) := by decide +kernel
theorem dX6_brokenStiles_33 : decode cX6_brokenStiles 33 = .ok (.ireturn, 1) := by decide +kernel
theorem dX6_wornOfAll_0 : decode cX6_wornOfAll 0 = .ok (.iconst 0, 1) := by decide +kernel
theorem dX6_wornOfAll_1 : decode cX6_wornOfAll 1 = .ok (.istore_n 1, 1) := by decide +kernel
theorem dX6_wornOfAll_2 : decode cX6_wornOfAll 2 = .ok (.iconst 0, 1) := by decide +kernel
theorem dX6_wornOfAll_3 : decode cX6_wornOfAll 3 = .ok (.istore_n 2, 1) := by decide +kernel
theorem dX6_wornOfAll_4 : decode cX6_wornOfAll 4 = .ok (.iload_n 2, 1) := by decide +kernel
theorem dX6_wornOfAll_5 : decode cX6_wornOfAll 5 = .ok (.aload_n 0, 1) := by decide +kernel
theorem dX6_wornOfAll_6 : decode cX6_wornOfAll 6 = .ok (.getfield 27, 3) := by decide +kernel
theorem dX6_wornOfAll_9 : decode cX6_wornOfAll 9 = .ok (.getfield 72, 3) := by decide +kernel
theorem dX6_wornOfAll_12 : decode cX6_wornOfAll 12 = .ok (.if_icmp .ge 18, 3) := by decide +kernel
theorem dX6_wornOfAll_15 : decode cX6_wornOfAll 15 = .ok (.iload_n 1, 1) := by decide +kernel
theorem dX6_wornOfAll_16 : decode cX6_wornOfAll 16 = .ok (.aload_n 0, 1) := by decide +kernel
theorem dX6_wornOfAll_17 : decode cX6_wornOfAll 17 = .ok (.getfield 9, 3) := by decide +kernel
theorem dX6_wornOfAll_20 : decode cX6_wornOfAll 20 = .ok (.iload_n 2, 1) := by decide +kernel
theorem dX6_wornOfAll_21 : decode cX6_wornOfAll 21 = .ok (.iaload, 1) := by decide +kernel
theorem dX6_wornOfAll_22 : decode cX6_wornOfAll 22 = .ok (.iadd, 1) := by decide +kernel
theorem dX6_wornOfAll_23 : decode cX6_wornOfAll 23 = .ok (.istore_n 1, 1) := by decide +kernel
theorem dX6_wornOfAll_24 : decode cX6_wornOfAll 24 = .ok (.iinc 2 1, 3) := by decide +kernel
theorem dX6_wornOfAll_27 : decode cX6_wornOfAll 27 = .ok (.goto (-23), 3) := by decide +kernel
theorem dX6_wornOfAll_30 : decode cX6_wornOfAll 30 = .ok (.iload_n 1, 1) := by decide +kernel
theorem dX6_wornOfAll_31 : decode cX6_wornOfAll 31 = .ok (.ireturn, 1) := by decide +kernel
theorem dX6_creditOfAll_0 : decode cX6_creditOfAll 0 = .ok (.iconst 0, 1) := by decide +kernel
theorem dX6_creditOfAll_1 : decode cX6_creditOfAll 1 = .ok (.istore_n 1, 1) := by decide +kernel
theorem dX6_creditOfAll_2 : decode cX6_creditOfAll 2 = .ok (.iconst 0, 1) := by decide +kernel
theorem dX6_creditOfAll_3 : decode cX6_creditOfAll 3 = .ok (.istore_n 2, 1) := by decide +kernel
theorem dX6_creditOfAll_4 : decode cX6_creditOfAll 4 = .ok (.iload_n 2, 1) := by decide +kernel
theorem dX6_creditOfAll_5 : decode cX6_creditOfAll 5 = .ok (.aload_n 0, 1) := by decide +kernel
theorem dX6_creditOfAll_6 : decode cX6_creditOfAll 6 = .ok (.getfield 27, 3) := by decide +kernel
theorem dX6_creditOfAll_9 : decode cX6_creditOfAll 9 = .ok (.getfield 96, 3) := by decide +kernel
theorem dX6_creditOfAll_12 : decode cX6_creditOfAll 12 = .ok (.if_icmp .ge 18, 3) := by decide +kernel
theorem dX6_creditOfAll_15 : decode cX6_creditOfAll 15 = .ok (.iload_n 1, 1) := by decide +kernel
theorem dX6_creditOfAll_16 : decode cX6_creditOfAll 16 = .ok (.aload_n 0, 1) := by decide +kernel
theorem dX6_creditOfAll_17 : decode cX6_creditOfAll 17 = .ok (.getfield 18, 3) := by decide +kernel
theorem dX6_creditOfAll_20 : decode cX6_creditOfAll 20 = .ok (.iload_n 2, 1) := by decide +kernel
theorem dX6_creditOfAll_21 : decode cX6_creditOfAll 21 = .ok (.iaload, 1) := by decide +kernel
theorem dX6_creditOfAll_22 : decode cX6_creditOfAll 22 = .ok (.iadd, 1) := by decide +kernel
theorem dX6_creditOfAll_23 : decode cX6_creditOfAll 23 = .ok (.istore_n 1, 1) := by decide +kernel
theorem dX6_creditOfAll_24 : decode cX6_creditOfAll 24 = .ok (.iinc 2 1, 3) := by decide +kernel
theorem dX6_creditOfAll_27 : decode cX6_creditOfAll 27 = .ok (.goto (-23), 3) := by decide +kernel
theorem dX6_creditOfAll_30 : decode cX6_creditOfAll 30 = .ok (.iload_n 1, 1) := by decide +kernel
theorem dX6_creditOfAll_31 : decode cX6_creditOfAll 31 = .ok (.ireturn, 1) := by decide +kernel
theorem dX7_init_0 : decode cX7_init 0 = .ok (.aload_n 0, 1) := by decide +kernel
theorem dX7_init_1 : decode cX7_init 1 = .ok (.invokespecial 1, 3) := by decide +kernel
theorem dX7_init_4 : decode cX7_init 4 = .ok (.iload_n 1, 1) := by decide +kernel
theorem dX7_init_5 : decode cX7_init 5 = .ok (.iconst 1, 1) := by decide +kernel
theorem dX7_init_6 : decode cX7_init 6 = .ok (.invokestatic 7, 3) := by decide +kernel
theorem dX7_init_9 : decode cX7_init 9 = .ok (.istore_n 3, 1) := by decide +kernel
theorem dX7_init_10 : decode cX7_init 10 = .ok (.aload_n 0, 1) := by decide +kernel
theorem dX7_init_11 : decode cX7_init 11 = .ok (.iload_n 3, 1) := by decide +kernel
theorem dX7_init_12 : decode cX7_init 12 = .ok (.anewarray 13, 3) := by decide +kernel
theorem dX7_init_15 : decode cX7_init 15 = .ok (.putfield 15, 3) := by decide +kernel
theorem dX7_init_18 : decode cX7_init 18 = .ok (.iconst 0, 1) := by decide +kernel
theorem dX7_init_19 : decode cX7_init 19 = .ok (.istore 4, 2) := by decide +kernel
theorem dX7_init_21 : decode cX7_init 21 = .ok (.iload 4, 2) := by decide +kernel
theorem dX7_init_23 : decode cX7_init 23 = .ok (.iload_n 3, 1) := by decide +kernel
theorem dX7_init_24 : decode cX7_init 24 = .ok (.if_icmp .ge 24, 3) := by decide +kernel
theorem dX7_init_27 : decode cX7_init 27 = .ok (.aload_n 0, 1) := by decide +kernel
theorem dX7_init_28 : decode cX7_init 28 = .ok (.getfield 15, 3) := by decide +kernel
theorem dX7_init_31 : decode cX7_init 31 = .ok (.iload 4, 2) := by decide +kernel
theorem dX7_init_33 : decode cX7_init 33 = .ok (.new 13, 3) := by decide +kernel
theorem dX7_init_36 : decode cX7_init 36 = .ok (.dup, 1) := by decide +kernel
theorem dX7_init_37 : decode cX7_init 37 = .ok (.aload_n 2, 1) := by decide +kernel
theorem dX7_init_38 : decode cX7_init 38 = .ok (.invokespecial 21, 3) := by decide +kernel
theorem dX7_init_41 : decode cX7_init 41 = .ok (.aastore, 1) := by decide +kernel
theorem dX7_init_42 : decode cX7_init 42 = .ok (.iinc 4 1, 3) := by decide +kernel
theorem dX7_init_45 : decode cX7_init 45 = .ok (.goto (-24), 3) := by decide +kernel
theorem dX7_init_48 : decode cX7_init 48 = .ok (.return_, 1) := by decide +kernel
theorem dX7_isFull_0 : decode cX7_isFull 0 = .ok (.aload_n 0, 1) := by decide +kernel
theorem dX7_isFull_1 : decode cX7_isFull 1 = .ok (.getfield 24, 3) := by decide +kernel
theorem dX7_isFull_4 : decode cX7_isFull 4 = .ok (.aload_n 0, 1) := by decide +kernel
theorem dX7_isFull_5 : decode cX7_isFull 5 = .ok (.getfield 15, 3) := by decide +kernel
theorem dX7_isFull_8 : decode cX7_isFull 8 = .ok (.arraylength, 1) := by decide +kernel
theorem dX7_isFull_9 : decode cX7_isFull 9 = .ok (.if_icmp .lt 7, 3) := by decide +kernel
theorem dX7_isFull_12 : decode cX7_isFull 12 = .ok (.iconst 1, 1) := by decide +kernel
theorem dX7_isFull_13 : decode cX7_isFull 13 = .ok (.goto 4, 3) := by decide +kernel
theorem dX7_isFull_16 : decode cX7_isFull 16 = .ok (.iconst 0, 1) := by decide +kernel
theorem dX7_isFull_17 : decode cX7_isFull 17 = .ok (.ireturn, 1) := by decide +kernel
theorem dX7_push_0 : decode cX7_push 0 = .ok (.aload_n 0, 1) := by decide +kernel
theorem dX7_push_1 : decode cX7_push 1 = .ok (.invokevirtual 28, 3) := by decide +kernel
theorem dX7_push_4 : decode cX7_push 4 = .ok (.ifCond .eq 7, 3) := by decide +kernel
theorem dX7_push_7 : decode cX7_push 7 = .ok (.aload_n 0, 1) := by decide +kernel
theorem dX7_push_8 : decode cX7_push 8 = .ok (.invokevirtual 32, 3) := by decide +kernel
theorem dX7_push_11 : decode cX7_push 11 = .ok (.aload_n 0, 1) := by decide +kernel
theorem dX7_push_12 : decode cX7_push 12 = .ok (.getfield 15, 3) := by decide +kernel
theorem dX7_push_15 : decode cX7_push 15 = .ok (.aload_n 0, 1) := by decide +kernel
theorem dX7_push_16 : decode cX7_push 16 = .ok (.getfield 24, 3) := by decide +kernel
theorem dX7_push_19 : decode cX7_push 19 = .ok (.aaload, 1) := by decide +kernel
theorem dX7_push_20 : decode cX7_push 20 = .ok (.aload_n 1, 1) := by decide +kernel
theorem dX7_push_21 : decode cX7_push 21 = .ok (.invokevirtual 35, 3) := by decide +kernel
theorem dX7_push_24 : decode cX7_push 24 = .ok (.aload_n 0, 1) := by decide +kernel
theorem dX7_push_25 : decode cX7_push 25 = .ok (.dup, 1) := by decide +kernel
theorem dX7_push_26 : decode cX7_push 26 = .ok (.getfield 24, 3) := by decide +kernel
theorem dX7_push_29 : decode cX7_push 29 = .ok (.iconst 1, 1) := by decide +kernel
theorem dX7_push_30 : decode cX7_push 30 = .ok (.iadd, 1) := by decide +kernel
theorem dX7_push_31 : decode cX7_push 31 = .ok (.putfield 24, 3) := by decide +kernel
theorem dX7_push_34 : decode cX7_push 34 = .ok (.return_, 1) := by decide +kernel
theorem dX7_popInto_0 : decode cX7_popInto 0 = .ok (.aload_n 0, 1) := by decide +kernel
theorem dX7_popInto_1 : decode cX7_popInto 1 = .ok (.getfield 24, 3) := by decide +kernel
theorem dX7_popInto_4 : decode cX7_popInto 4 = .ok (.iconst 1, 1) := by decide +kernel
theorem dX7_popInto_5 : decode cX7_popInto 5 = .ok (.if_icmp .ge 5, 3) := by decide +kernel
theorem dX7_popInto_8 : decode cX7_popInto 8 = .ok (.iconst 0, 1) := by decide +kernel
theorem dX7_popInto_9 : decode cX7_popInto 9 = .ok (.ireturn, 1) := by decide +kernel
theorem dX7_popInto_10 : decode cX7_popInto 10 = .ok (.aload_n 0, 1) := by decide +kernel
theorem dX7_popInto_11 : decode cX7_popInto 11 = .ok (.dup, 1) := by decide +kernel
theorem dX7_popInto_12 : decode cX7_popInto 12 = .ok (.getfield 24, 3) := by decide +kernel
theorem dX7_popInto_15 : decode cX7_popInto 15 = .ok (.iconst 1, 1) := by decide +kernel
theorem dX7_popInto_16 : decode cX7_popInto 16 = .ok (.isub, 1) := by decide +kernel
theorem dX7_popInto_17 : decode cX7_popInto 17 = .ok (.putfield 24, 3) := by decide +kernel
theorem dX7_popInto_20 : decode cX7_popInto 20 = .ok (.aload_n 1, 1) := by decide +kernel
theorem dX7_popInto_21 : decode cX7_popInto 21 = .ok (.aload_n 0, 1) := by decide +kernel
theorem dX7_popInto_22 : decode cX7_popInto 22 = .ok (.getfield 15, 3) := by decide +kernel
theorem dX7_popInto_25 : decode cX7_popInto 25 = .ok (.aload_n 0, 1) := by decide +kernel
theorem dX7_popInto_26 : decode cX7_popInto 26 = .ok (.getfield 24, 3) := by decide +kernel
theorem dX7_popInto_29 : decode cX7_popInto 29 = .ok (.aaload, 1) := by decide +kernel
theorem dX7_popInto_30 : decode cX7_popInto 30 = .ok (.invokevirtual 35, 3) := by decide +kernel
theorem dX7_popInto_33 : decode cX7_popInto 33 = .ok (.iconst 1, 1) := by decide +kernel
theorem dX7_popInto_34 : decode cX7_popInto 34 = .ok (.ireturn, 1) := by decide +kernel
theorem dX7_loseOldest_0 : decode cX7_loseOldest 0 = .ok (.aload_n 0, 1) := by decide +kernel
theorem dX7_loseOldest_1 : decode cX7_loseOldest 1 = .ok (.getfield 15, 3) := by decide +kernel
theorem dX7_loseOldest_4 : decode cX7_loseOldest 4 = .ok (.iconst 0, 1) := by decide +kernel
theorem dX7_loseOldest_5 : decode cX7_loseOldest 5 = .ok (.aaload, 1) := by decide +kernel
theorem dX7_loseOldest_6 : decode cX7_loseOldest 6 = .ok (.astore_n 1, 1) := by decide +kernel
theorem dX7_loseOldest_7 : decode cX7_loseOldest 7 = .ok (.iconst 1, 1) := by decide +kernel
theorem dX7_loseOldest_8 : decode cX7_loseOldest 8 = .ok (.istore_n 2, 1) := by decide +kernel
theorem dX7_loseOldest_9 : decode cX7_loseOldest 9 = .ok (.iload_n 2, 1) := by decide +kernel
theorem dX7_loseOldest_10 : decode cX7_loseOldest 10 = .ok (.aload_n 0, 1) := by decide +kernel
theorem dX7_loseOldest_11 : decode cX7_loseOldest 11 = .ok (.getfield 15, 3) := by decide +kernel
theorem dX7_loseOldest_14 : decode cX7_loseOldest 14 = .ok (.arraylength, 1) := by decide +kernel
theorem dX7_loseOldest_15 : decode cX7_loseOldest 15 = .ok (.if_icmp .ge 23, 3) := by decide +kernel
theorem dX7_loseOldest_18 : decode cX7_loseOldest 18 = .ok (.aload_n 0, 1) := by decide +kernel
theorem dX7_loseOldest_19 : decode cX7_loseOldest 19 = .ok (.getfield 15, 3) := by decide +kernel
theorem dX7_loseOldest_22 : decode cX7_loseOldest 22 = .ok (.iload_n 2, 1) := by decide +kernel
theorem dX7_loseOldest_23 : decode cX7_loseOldest 23 = .ok (.iconst 1, 1) := by decide +kernel
theorem dX7_loseOldest_24 : decode cX7_loseOldest 24 = .ok (.isub, 1) := by decide +kernel
theorem dX7_loseOldest_25 : decode cX7_loseOldest 25 = .ok (.aload_n 0, 1) := by decide +kernel
theorem dX7_loseOldest_26 : decode cX7_loseOldest 26 = .ok (.getfield 15, 3) := by decide +kernel
theorem dX7_loseOldest_29 : decode cX7_loseOldest 29 = .ok (.iload_n 2, 1) := by decide +kernel
theorem dX7_loseOldest_30 : decode cX7_loseOldest 30 = .ok (.aaload, 1) := by decide +kernel
theorem dX7_loseOldest_31 : decode cX7_loseOldest 31 = .ok (.aastore, 1) := by decide +kernel
theorem dX7_loseOldest_32 : decode cX7_loseOldest 32 = .ok (.iinc 2 1, 3) := by decide +kernel
theorem dX7_loseOldest_35 : decode cX7_loseOldest 35 = .ok (.goto (-26), 3) := by decide +kernel
theorem dX7_loseOldest_38 : decode cX7_loseOldest 38 = .ok (.aload_n 0, 1) := by decide +kernel
theorem dX7_loseOldest_39 : decode cX7_loseOldest 39 = .ok (.getfield 15, 3) := by decide +kernel
theorem dX7_loseOldest_42 : decode cX7_loseOldest 42 = .ok (.aload_n 0, 1) := by decide +kernel
theorem dX7_loseOldest_43 : decode cX7_loseOldest 43 = .ok (.getfield 15, 3) := by decide +kernel
theorem dX7_loseOldest_46 : decode cX7_loseOldest 46 = .ok (.arraylength, 1) := by decide +kernel
theorem dX7_loseOldest_47 : decode cX7_loseOldest 47 = .ok (.iconst 1, 1) := by decide +kernel
theorem dX7_loseOldest_48 : decode cX7_loseOldest 48 = .ok (.isub, 1) := by decide +kernel
theorem dX7_loseOldest_49 : decode cX7_loseOldest 49 = .ok (.aload_n 1, 1) := by decide +kernel
theorem dX7_loseOldest_50 : decode cX7_loseOldest 50 = .ok (.aastore, 1) := by decide +kernel
theorem dX7_loseOldest_51 : decode cX7_loseOldest 51 = .ok (.aload_n 0, 1) := by decide +kernel
theorem dX7_loseOldest_52 : decode cX7_loseOldest 52 = .ok (.aload_n 0, 1) := by decide +kernel
theorem dX7_loseOldest_53 : decode cX7_loseOldest 53 = .ok (.getfield 15, 3) := by decide +kernel
theorem dX7_loseOldest_56 : decode cX7_loseOldest 56 = .ok (.arraylength, 1) := by decide +kernel
theorem dX7_loseOldest_57 : decode cX7_loseOldest 57 = .ok (.iconst 1, 1) := by decide +kernel
theorem dX7_loseOldest_58 : decode cX7_loseOldest 58 = .ok (.isub, 1) := by decide +kernel
theorem dX7_loseOldest_59 : decode cX7_loseOldest 59 = .ok (.putfield 24, 3) := by decide +kernel
theorem dX7_loseOldest_62 : decode cX7_loseOldest 62 = .ok (.return_, 1) := by decide +kernel
theorem dX8_init_0 : decode cX8_init 0 = .ok (.aload_n 0, 1) := by decide +kernel
theorem dX8_init_1 : decode cX8_init 1 = .ok (.invokespecial 3, 3) := by decide +kernel
theorem dX8_init_4 : decode cX8_init 4 = .ok (.aload_n 0, 1) := by decide +kernel
theorem dX8_init_5 : decode cX8_init 5 = .ok (.new 9, 3) := by decide +kernel
theorem dX8_init_8 : decode cX8_init 8 = .ok (.dup, 1) := by decide +kernel
theorem dX8_init_9 : decode cX8_init 9 = .ok (.invokespecial 11, 3) := by decide +kernel
theorem dX8_init_12 : decode cX8_init 12 = .ok (.putfield 12, 3) := by decide +kernel
theorem dX8_init_15 : decode cX8_init 15 = .ok (.aload_n 0, 1) := by decide +kernel
theorem dX8_init_16 : decode cX8_init 16 = .ok (.sipush 200, 3) := by decide +kernel
theorem dX8_init_19 : decode cX8_init 19 = .ok (.newarray .char, 2) := by decide +kernel
theorem dX8_init_21 : decode cX8_init 21 = .ok (.putfield 18, 3) := by decide +kernel
theorem dX8_init_24 : decode cX8_init 24 = .ok (.aload_n 0, 1) := by decide +kernel
theorem dX8_init_25 : decode cX8_init 25 = .ok (.iconst 3, 1) := by decide +kernel
theorem dX8_init_26 : decode cX8_init 26 = .ok (.newarray .int, 2) := by decide +kernel
theorem dX8_init_28 : decode cX8_init 28 = .ok (.putfield 22, 3) := by decide +kernel
theorem dX8_init_31 : decode cX8_init 31 = .ok (.return_, 1) := by decide +kernel
theorem dX8_append_0 : decode cX8_append 0 = .ok (.aload_n 0, 1) := by decide +kernel
theorem dX8_append_1 : decode cX8_append 1 = .ok (.getfield 26, 3) := by decide +kernel
theorem dX8_append_4 : decode cX8_append 4 = .ok (.sipush 200, 3) := by decide +kernel
theorem dX8_append_7 : decode cX8_append 7 = .ok (.if_icmp .lt 5, 3) := by decide +kernel
theorem dX8_append_10 : decode cX8_append 10 = .ok (.iconst 0, 1) := by decide +kernel
theorem dX8_append_11 : decode cX8_append 11 = .ok (.ireturn, 1) := by decide +kernel
theorem dX8_append_12 : decode cX8_append 12 = .ok (.aload_n 0, 1) := by decide +kernel
theorem dX8_append_13 : decode cX8_append 13 = .ok (.getfield 18, 3) := by decide +kernel
theorem dX8_append_16 : decode cX8_append 16 = .ok (.aload_n 0, 1) := by decide +kernel
theorem dX8_append_17 : decode cX8_append 17 = .ok (.getfield 26, 3) := by decide +kernel
theorem dX8_append_20 : decode cX8_append 20 = .ok (.iload_n 1, 1) := by decide +kernel
theorem dX8_append_21 : decode cX8_append 21 = .ok (.castore, 1) := by decide +kernel
theorem dX8_append_22 : decode cX8_append 22 = .ok (.aload_n 0, 1) := by decide +kernel
theorem dX8_append_23 : decode cX8_append 23 = .ok (.dup, 1) := by decide +kernel
theorem dX8_append_24 : decode cX8_append 24 = .ok (.getfield 26, 3) := by decide +kernel
theorem dX8_append_27 : decode cX8_append 27 = .ok (.iconst 1, 1) := by decide +kernel
theorem dX8_append_28 : decode cX8_append 28 = .ok (.iadd, 1) := by decide +kernel
theorem dX8_append_29 : decode cX8_append 29 = .ok (.putfield 26, 3) := by decide +kernel
theorem dX8_append_32 : decode cX8_append 32 = .ok (.iconst 1, 1) := by decide +kernel
theorem dX8_append_33 : decode cX8_append 33 = .ok (.ireturn, 1) := by decide +kernel
theorem dX8_firstFault_0 : decode cX8_firstFault 0 = .ok (.aload_n 0, 1) := by decide +kernel
theorem dX8_firstFault_1 : decode cX8_firstFault 1 = .ok (.getfield 12, 3) := by decide +kernel
theorem dX8_firstFault_4 : decode cX8_firstFault 4 = .ok (.invokevirtual 30, 3) := by decide +kernel
theorem dX8_firstFault_7 : decode cX8_firstFault 7 = .ok (.aload_n 0, 1) := by decide +kernel
theorem dX8_firstFault_8 : decode cX8_firstFault 8 = .ok (.iconst 0, 1) := by decide +kernel
theorem dX8_firstFault_9 : decode cX8_firstFault 9 = .ok (.putfield 33, 3) := by decide +kernel
theorem dX8_firstFault_12 : decode cX8_firstFault 12 = .ok (.iconst 0, 1) := by decide +kernel
theorem dX8_firstFault_13 : decode cX8_firstFault 13 = .ok (.istore_n 1, 1) := by decide +kernel
theorem dX8_firstFault_14 : decode cX8_firstFault 14 = .ok (.iload_n 1, 1) := by decide +kernel
theorem dX8_firstFault_15 : decode cX8_firstFault 15 = .ok (.aload_n 0, 1) := by decide +kernel
theorem dX8_firstFault_16 : decode cX8_firstFault 16 = .ok (.getfield 26, 3) := by decide +kernel
theorem dX8_firstFault_19 : decode cX8_firstFault 19 = .ok (.if_icmp .ge 34, 3) := by decide +kernel
theorem dX8_firstFault_22 : decode cX8_firstFault 22 = .ok (.aload_n 0, 1) := by decide +kernel
theorem dX8_firstFault_23 : decode cX8_firstFault 23 = .ok (.iload_n 1, 1) := by decide +kernel
theorem dX8_firstFault_24 : decode cX8_firstFault 24 = .ok (.invokevirtual 37, 3) := by decide +kernel
theorem dX8_firstFault_27 : decode cX8_firstFault 27 = .ok (.istore_n 2, 1) := by decide +kernel
theorem dX8_firstFault_28 : decode cX8_firstFault 28 = .ok (.iload_n 2, 1) := by decide +kernel
theorem dX8_firstFault_29 : decode cX8_firstFault 29 = .ok (.iload_n 1, 1) := by decide +kernel
theorem dX8_firstFault_30 : decode cX8_firstFault 30 = .ok (.if_icmp .le 16, 3) := by decide +kernel
theorem dX8_firstFault_33 : decode cX8_firstFault 33 = .ok (.aload_n 0, 1) := by decide +kernel
theorem dX8_firstFault_34 : decode cX8_firstFault 34 = .ok (.aload_n 0, 1) := by decide +kernel
theorem dX8_firstFault_35 : decode cX8_firstFault 35 = .ok (.getfield 18, 3) := by decide +kernel
theorem dX8_firstFault_38 : decode cX8_firstFault 38 = .ok (.iload_n 1, 1) := by decide +kernel
theorem dX8_firstFault_39 : decode cX8_firstFault 39 = .ok (.caload, 1) := by decide +kernel
theorem dX8_firstFault_40 : decode cX8_firstFault 40 = .ok (.invokevirtual 41, 3) := by decide +kernel
theorem dX8_firstFault_43 : decode cX8_firstFault 43 = .ok (.ifCond .ne 5, 3) := by decide +kernel
theorem dX8_firstFault_46 : decode cX8_firstFault 46 = .ok (.iload_n 1, 1) := by decide +kernel
theorem dX8_firstFault_47 : decode cX8_firstFault 47 = .ok (.ireturn, 1) := by decide +kernel
theorem dX8_firstFault_48 : decode cX8_firstFault 48 = .ok (.iload_n 2, 1) := by decide +kernel
theorem dX8_firstFault_49 : decode cX8_firstFault 49 = .ok (.istore_n 1, 1) := by decide +kernel
theorem dX8_firstFault_50 : decode cX8_firstFault 50 = .ok (.goto (-36), 3) := by decide +kernel
theorem dX8_firstFault_53 : decode cX8_firstFault 53 = .ok (.bipush (-4), 2) := by decide +kernel
theorem dX8_firstFault_55 : decode cX8_firstFault 55 = .ok (.ireturn, 1) := by decide +kernel
theorem dX8_readNumbers_0 : decode cX8_readNumbers 0 = .ok (.aload_n 0, 1) := by decide +kernel
theorem dX8_readNumbers_1 : decode cX8_readNumbers 1 = .ok (.iconst 0, 1) := by decide +kernel
theorem dX8_readNumbers_2 : decode cX8_readNumbers 2 = .ok (.putfield 45, 3) := by decide +kernel
theorem dX8_readNumbers_5 : decode cX8_readNumbers 5 = .ok (.iconst 0, 1) := by decide +kernel
theorem dX8_readNumbers_6 : decode cX8_readNumbers 6 = .ok (.istore_n 2, 1) := by decide +kernel
theorem dX8_readNumbers_7 : decode cX8_readNumbers 7 = .ok (.iconst 0, 1) := by decide +kernel
theorem dX8_readNumbers_8 : decode cX8_readNumbers 8 = .ok (.istore_n 3, 1) := by decide +kernel
theorem dX8_readNumbers_9 : decode cX8_readNumbers 9 = .ok (.iload_n 1, 1) := by decide +kernel
theorem dX8_readNumbers_10 : decode cX8_readNumbers 10 = .ok (.iconst 1, 1) := by decide +kernel
theorem dX8_readNumbers_11 : decode cX8_readNumbers 11 = .ok (.iadd, 1) := by decide +kernel
theorem dX8_readNumbers_12 : decode cX8_readNumbers 12 = .ok (.istore 4, 2) := by decide +kernel
theorem dX8_readNumbers_14 : decode cX8_readNumbers 14 = .ok (.iload 4, 2) := by decide +kernel
theorem dX8_readNumbers_16 : decode cX8_readNumbers 16 = .ok (.aload_n 0, 1) := by decide +kernel
theorem dX8_readNumbers_17 : decode cX8_readNumbers 17 = .ok (.getfield 26, 3) := by decide +kernel
theorem dX8_readNumbers_20 : decode cX8_readNumbers 20 = .ok (.if_icmp .ge 118, 3) := by decide +kernel
theorem dX8_readNumbers_23 : decode cX8_readNumbers 23 = .ok (.aload_n 0, 1) := by decide +kernel
theorem dX8_readNumbers_24 : decode cX8_readNumbers 24 = .ok (.getfield 18, 3) := by decide +kernel
theorem dX8_readNumbers_27 : decode cX8_readNumbers 27 = .ok (.iload 4, 2) := by decide +kernel
theorem dX8_readNumbers_29 : decode cX8_readNumbers 29 = .ok (.caload, 1) := by decide +kernel
theorem dX8_readNumbers_30 : decode cX8_readNumbers 30 = .ok (.istore 5, 2) := by decide +kernel
theorem dX8_readNumbers_32 : decode cX8_readNumbers 32 = .ok (.iload 5, 2) := by decide +kernel
theorem dX8_readNumbers_34 : decode cX8_readNumbers 34 = .ok (.bipush 48, 2) := by decide +kernel
theorem dX8_readNumbers_36 : decode cX8_readNumbers 36 = .ok (.if_icmp .lt 32, 3) := by decide +kernel
theorem dX8_readNumbers_39 : decode cX8_readNumbers 39 = .ok (.iload 5, 2) := by decide +kernel
theorem dX8_readNumbers_41 : decode cX8_readNumbers 41 = .ok (.bipush 57, 2) := by decide +kernel
theorem dX8_readNumbers_43 : decode cX8_readNumbers 43 = .ok (.if_icmp .gt 25, 3) := by decide +kernel
theorem dX8_readNumbers_46 : decode cX8_readNumbers 46 = .ok (.iload_n 3, 1) := by decide +kernel
theorem dX8_readNumbers_47 : decode cX8_readNumbers 47 = .ok (.iconst 2, 1) := by decide +kernel
theorem dX8_readNumbers_48 : decode cX8_readNumbers 48 = .ok (.if_icmp .ge 20, 3) := by decide +kernel
theorem dX8_readNumbers_51 : decode cX8_readNumbers 51 = .ok (.bipush 10, 2) := by decide +kernel
theorem dX8_readNumbers_53 : decode cX8_readNumbers 53 = .ok (.iload_n 2, 1) := by decide +kernel
theorem dX8_readNumbers_54 : decode cX8_readNumbers 54 = .ok (.imul, 1) := by decide +kernel
theorem dX8_readNumbers_55 : decode cX8_readNumbers 55 = .ok (.iload 5, 2) := by decide +kernel
theorem dX8_readNumbers_57 : decode cX8_readNumbers 57 = .ok (.iadd, 1) := by decide +kernel
theorem dX8_readNumbers_58 : decode cX8_readNumbers 58 = .ok (.bipush 48, 2) := by decide +kernel
theorem dX8_readNumbers_60 : decode cX8_readNumbers 60 = .ok (.isub, 1) := by decide +kernel
theorem dX8_readNumbers_61 : decode cX8_readNumbers 61 = .ok (.istore_n 2, 1) := by decide +kernel
theorem dX8_readNumbers_62 : decode cX8_readNumbers 62 = .ok (.iinc 3 1, 3) := by decide +kernel
theorem dX8_readNumbers_65 : decode cX8_readNumbers 65 = .ok (.goto 67, 3) := by decide +kernel
theorem dX8_readNumbers_68 : decode cX8_readNumbers 68 = .ok (.iload_n 3, 1) := by decide +kernel
theorem dX8_readNumbers_69 : decode cX8_readNumbers 69 = .ok (.ifCond .eq 25, 3) := by decide +kernel
theorem dX8_readNumbers_72 : decode cX8_readNumbers 72 = .ok (.aload_n 0, 1) := by decide +kernel
theorem dX8_readNumbers_73 : decode cX8_readNumbers 73 = .ok (.getfield 45, 3) := by decide +kernel
theorem dX8_readNumbers_76 : decode cX8_readNumbers 76 = .ok (.iconst 3, 1) := by decide +kernel
theorem dX8_readNumbers_77 : decode cX8_readNumbers 77 = .ok (.if_icmp .ge 17, 3) := by decide +kernel
theorem dX8_readNumbers_80 : decode cX8_readNumbers 80 = .ok (.iload 5, 2) := by decide +kernel
theorem dX8_readNumbers_82 : decode cX8_readNumbers 82 = .ok (.bipush 44, 2) := by decide +kernel
theorem dX8_readNumbers_84 : decode cX8_readNumbers 84 = .ok (.if_icmp .eq 12, 3) := by decide +kernel
theorem dX8_readNumbers_87 : decode cX8_readNumbers 87 = .ok (.iload 5, 2) := by decide +kernel
theorem dX8_readNumbers_89 : decode cX8_readNumbers 89 = .ok (.bipush 59, 2) := by decide +kernel
theorem dX8_readNumbers_91 : decode cX8_readNumbers 91 = .ok (.if_icmp .eq 5, 3) := by decide +kernel
theorem dX8_readNumbers_94 : decode cX8_readNumbers 94 = .ok (.iload_n 1, 1) := by decide +kernel
theorem dX8_readNumbers_95 : decode cX8_readNumbers 95 = .ok (.ireturn, 1) := by decide +kernel
theorem dX8_readNumbers_96 : decode cX8_readNumbers 96 = .ok (.aload_n 0, 1) := by decide +kernel
theorem dX8_readNumbers_97 : decode cX8_readNumbers 97 = .ok (.getfield 22, 3) := by decide +kernel
theorem dX8_readNumbers_100 : decode cX8_readNumbers 100 = .ok (.aload_n 0, 1) := by decide +kernel
theorem dX8_readNumbers_101 : decode cX8_readNumbers 101 = .ok (.getfield 45, 3) := by decide +kernel
theorem dX8_readNumbers_104 : decode cX8_readNumbers 104 = .ok (.iload_n 2, 1) := by decide +kernel
theorem dX8_readNumbers_105 : decode cX8_readNumbers 105 = .ok (.iastore, 1) := by decide +kernel
theorem dX8_readNumbers_106 : decode cX8_readNumbers 106 = .ok (.aload_n 0, 1) := by decide +kernel
theorem dX8_readNumbers_107 : decode cX8_readNumbers 107 = .ok (.dup, 1) := by decide +kernel
theorem dX8_readNumbers_108 : decode cX8_readNumbers 108 = .ok (.getfield 45, 3) := by decide +kernel
theorem dX8_readNumbers_111 : decode cX8_readNumbers 111 = .ok (.iconst 1, 1) := by decide +kernel
theorem dX8_readNumbers_112 : decode cX8_readNumbers 112 = .ok (.iadd, 1) := by decide +kernel
theorem dX8_readNumbers_113 : decode cX8_readNumbers 113 = .ok (.putfield 45, 3) := by decide +kernel
theorem dX8_readNumbers_116 : decode cX8_readNumbers 116 = .ok (.iload 5, 2) := by decide +kernel
theorem dX8_readNumbers_118 : decode cX8_readNumbers 118 = .ok (.bipush 59, 2) := by decide +kernel
theorem dX8_readNumbers_120 : decode cX8_readNumbers 120 = .ok (.if_icmp .ne 8, 3) := by decide +kernel
theorem dX8_readNumbers_123 : decode cX8_readNumbers 123 = .ok (.iload 4, 2) := by decide +kernel
theorem dX8_readNumbers_125 : decode cX8_readNumbers 125 = .ok (.iconst 1, 1) := by decide +kernel
theorem dX8_readNumbers_126 : decode cX8_readNumbers 126 = .ok (.iadd, 1) := by decide +kernel
theorem dX8_readNumbers_127 : decode cX8_readNumbers 127 = .ok (.ireturn, 1) := by decide +kernel
theorem dX8_readNumbers_128 : decode cX8_readNumbers 128 = .ok (.iconst 0, 1) := by decide +kernel
theorem dX8_readNumbers_129 : decode cX8_readNumbers 129 = .ok (.istore_n 2, 1) := by decide +kernel
theorem dX8_readNumbers_130 : decode cX8_readNumbers 130 = .ok (.iconst 0, 1) := by decide +kernel
theorem dX8_readNumbers_131 : decode cX8_readNumbers 131 = .ok (.istore_n 3, 1) := by decide +kernel
theorem dX8_readNumbers_132 : decode cX8_readNumbers 132 = .ok (.iinc 4 1, 3) := by decide +kernel
theorem dX8_readNumbers_135 : decode cX8_readNumbers 135 = .ok (.goto (-121), 3) := by decide +kernel
theorem dX8_readNumbers_138 : decode cX8_readNumbers 138 = .ok (.iload_n 1, 1) := by decide +kernel
theorem dX8_readNumbers_139 : decode cX8_readNumbers 139 = .ok (.ireturn, 1) := by decide +kernel
theorem dX8_takeItem_0 : decode cX8_takeItem 0 = .ok (.iload_n 1, 1) := by decide +kernel
theorem dX8_takeItem_1 : decode cX8_takeItem 1 = .ok (.bipush 102, 2) := by decide +kernel
theorem dX8_takeItem_3 : decode cX8_takeItem 3 = .ok (.if_icmp .ne 8, 3) := by decide +kernel
theorem dX8_takeItem_6 : decode cX8_takeItem 6 = .ok (.aload_n 0, 1) := by decide +kernel
theorem dX8_takeItem_7 : decode cX8_takeItem 7 = .ok (.invokevirtual 48, 3) := by decide +kernel
theorem dX8_takeItem_10 : decode cX8_takeItem 10 = .ok (.ireturn, 1) := by decide +kernel
theorem dX8_takeItem_11 : decode cX8_takeItem 11 = .ok (.aload_n 0, 1) := by decide +kernel
theorem dX8_takeItem_12 : decode cX8_takeItem 12 = .ok (.iconst 1, 1) := by decide +kernel
theorem dX8_takeItem_13 : decode cX8_takeItem 13 = .ok (.putfield 33, 3) := by decide +kernel
theorem dX8_takeItem_16 : decode cX8_takeItem 16 = .ok (.iload_n 1, 1) := by decide +kernel
theorem dX8_takeItem_17 : decode cX8_takeItem 17 = .ok (.lookupswitch 124 #[(108, 119), (115, 35), (119, 77)], 35) := by decide +kernel
theorem dX8_takeItem_52 : decode cX8_takeItem 52 = .ok (.aload_n 0, 1) := by decide +kernel
theorem dX8_takeItem_53 : decode cX8_takeItem 53 = .ok (.getfield 45, 3) := by decide +kernel
theorem dX8_takeItem_56 : decode cX8_takeItem 56 = .ok (.iconst 3, 1) := by decide +kernel
theorem dX8_takeItem_57 : decode cX8_takeItem 57 = .ok (.if_icmp .ne 35, 3) := by decide +kernel
theorem dX8_takeItem_60 : decode cX8_takeItem 60 = .ok (.aload_n 0, 1) := by decide +kernel
theorem dX8_takeItem_61 : decode cX8_takeItem 61 = .ok (.getfield 12, 3) := by decide +kernel
theorem dX8_takeItem_64 : decode cX8_takeItem 64 = .ok (.aload_n 0, 1) := by decide +kernel
theorem dX8_takeItem_65 : decode cX8_takeItem 65 = .ok (.getfield 22, 3) := by decide +kernel
theorem dX8_takeItem_68 : decode cX8_takeItem 68 = .ok (.iconst 0, 1) := by decide +kernel
theorem dX8_takeItem_69 : decode cX8_takeItem 69 = .ok (.iaload, 1) := by decide +kernel
theorem dX8_takeItem_70 : decode cX8_takeItem 70 = .ok (.aload_n 0, 1) := by decide +kernel
theorem dX8_takeItem_71 : decode cX8_takeItem 71 = .ok (.getfield 22, 3) := by decide +kernel
theorem dX8_takeItem_74 : decode cX8_takeItem 74 = .ok (.iconst 1, 1) := by decide +kernel
theorem dX8_takeItem_75 : decode cX8_takeItem 75 = .ok (.iaload, 1) := by decide +kernel
theorem dX8_takeItem_76 : decode cX8_takeItem 76 = .ok (.aload_n 0, 1) := by decide +kernel
theorem dX8_takeItem_77 : decode cX8_takeItem 77 = .ok (.getfield 22, 3) := by decide +kernel
theorem dX8_takeItem_80 : decode cX8_takeItem 80 = .ok (.iconst 2, 1) := by decide +kernel
theorem dX8_takeItem_81 : decode cX8_takeItem 81 = .ok (.iaload, 1) := by decide +kernel
theorem dX8_takeItem_82 : decode cX8_takeItem 82 = .ok (.invokevirtual 52, 3) := by decide +kernel
theorem dX8_takeItem_85 : decode cX8_takeItem 85 = .ok (.ifCond .eq 7, 3) := by decide +kernel
theorem dX8_takeItem_88 : decode cX8_takeItem 88 = .ok (.iconst 1, 1) := by decide +kernel
theorem dX8_takeItem_89 : decode cX8_takeItem 89 = .ok (.goto 4, 3) := by decide +kernel
theorem dX8_takeItem_92 : decode cX8_takeItem 92 = .ok (.iconst 0, 1) := by decide +kernel
theorem dX8_takeItem_93 : decode cX8_takeItem 93 = .ok (.ireturn, 1) := by decide +kernel
theorem dX8_takeItem_94 : decode cX8_takeItem 94 = .ok (.aload_n 0, 1) := by decide +kernel
theorem dX8_takeItem_95 : decode cX8_takeItem 95 = .ok (.getfield 45, 3) := by decide +kernel
theorem dX8_takeItem_98 : decode cX8_takeItem 98 = .ok (.iconst 3, 1) := by decide +kernel
theorem dX8_takeItem_99 : decode cX8_takeItem 99 = .ok (.if_icmp .ne 35, 3) := by decide +kernel
theorem dX8_takeItem_102 : decode cX8_takeItem 102 = .ok (.aload_n 0, 1) := by decide +kernel
theorem dX8_takeItem_103 : decode cX8_takeItem 103 = .ok (.getfield 12, 3) := by decide +kernel
theorem dX8_takeItem_106 : decode cX8_takeItem 106 = .ok (.aload_n 0, 1) := by decide +kernel
theorem dX8_takeItem_107 : decode cX8_takeItem 107 = .ok (.getfield 22, 3) := by decide +kernel
theorem dX8_takeItem_110 : decode cX8_takeItem 110 = .ok (.iconst 0, 1) := by decide +kernel
theorem dX8_takeItem_111 : decode cX8_takeItem 111 = .ok (.iaload, 1) := by decide +kernel
theorem dX8_takeItem_112 : decode cX8_takeItem 112 = .ok (.aload_n 0, 1) := by decide +kernel
theorem dX8_takeItem_113 : decode cX8_takeItem 113 = .ok (.getfield 22, 3) := by decide +kernel
theorem dX8_takeItem_116 : decode cX8_takeItem 116 = .ok (.iconst 1, 1) := by decide +kernel
theorem dX8_takeItem_117 : decode cX8_takeItem 117 = .ok (.iaload, 1) := by decide +kernel
theorem dX8_takeItem_118 : decode cX8_takeItem 118 = .ok (.aload_n 0, 1) := by decide +kernel
theorem dX8_takeItem_119 : decode cX8_takeItem 119 = .ok (.getfield 22, 3) := by decide +kernel
theorem dX8_takeItem_122 : decode cX8_takeItem 122 = .ok (.iconst 2, 1) := by decide +kernel
theorem dX8_takeItem_123 : decode cX8_takeItem 123 = .ok (.iaload, 1) := by decide +kernel
theorem dX8_takeItem_124 : decode cX8_takeItem 124 = .ok (.invokevirtual 56, 3) := by decide +kernel
theorem dX8_takeItem_127 : decode cX8_takeItem 127 = .ok (.ifCond .eq 7, 3) := by decide +kernel
theorem dX8_takeItem_130 : decode cX8_takeItem 130 = .ok (.iconst 1, 1) := by decide +kernel
theorem dX8_takeItem_131 : decode cX8_takeItem 131 = .ok (.goto 4, 3) := by decide +kernel
theorem dX8_takeItem_134 : decode cX8_takeItem 134 = .ok (.iconst 0, 1) := by decide +kernel
theorem dX8_takeItem_135 : decode cX8_takeItem 135 = .ok (.ireturn, 1) := by decide +kernel
theorem dX8_takeItem_136 : decode cX8_takeItem 136 = .ok (.aload_n 0, 1) := by decide +kernel
theorem dX8_takeItem_137 : decode cX8_takeItem 137 = .ok (.invokevirtual 59, 3) := by decide +kernel
theorem dX8_takeItem_140 : decode cX8_takeItem 140 = .ok (.ireturn, 1) := by decide +kernel
theorem dX8_takeItem_141 : decode cX8_takeItem 141 = .ok (.iconst 0, 1) := by decide +kernel
theorem dX8_takeItem_142 : decode cX8_takeItem 142 = .ok (.ireturn, 1) := by decide +kernel
theorem dX8_takeFields_0 : decode cX8_takeFields 0 = .ok (.aload_n 0, 1) := by decide +kernel
theorem dX8_takeFields_1 : decode cX8_takeFields 1 = .ok (.getfield 33, 3) := by decide +kernel
theorem dX8_takeFields_4 : decode cX8_takeFields 4 = .ok (.ifCond .ne 32, 3) := by decide +kernel
theorem dX8_takeFields_7 : decode cX8_takeFields 7 = .ok (.aload_n 0, 1) := by decide +kernel
theorem dX8_takeFields_8 : decode cX8_takeFields 8 = .ok (.getfield 45, 3) := by decide +kernel
theorem dX8_takeFields_11 : decode cX8_takeFields 11 = .ok (.iconst 1, 1) := by decide +kernel
theorem dX8_takeFields_12 : decode cX8_takeFields 12 = .ok (.if_icmp .ne 24, 3) := by decide +kernel
theorem dX8_takeFields_15 : decode cX8_takeFields 15 = .ok (.aload_n 0, 1) := by decide +kernel
theorem dX8_takeFields_16 : decode cX8_takeFields 16 = .ok (.getfield 22, 3) := by decide +kernel
theorem dX8_takeFields_19 : decode cX8_takeFields 19 = .ok (.iconst 0, 1) := by decide +kernel
theorem dX8_takeFields_20 : decode cX8_takeFields 20 = .ok (.iaload, 1) := by decide +kernel
theorem dX8_takeFields_21 : decode cX8_takeFields 21 = .ok (.iconst 1, 1) := by decide +kernel
theorem dX8_takeFields_22 : decode cX8_takeFields 22 = .ok (.if_icmp .lt 14, 3) := by decide +kernel
theorem dX8_takeFields_25 : decode cX8_takeFields 25 = .ok (.aload_n 0, 1) := by decide +kernel
theorem dX8_takeFields_26 : decode cX8_takeFields 26 = .ok (.getfield 22, 3) := by decide +kernel
theorem dX8_takeFields_29 : decode cX8_takeFields 29 = .ok (.iconst 0, 1) := by decide +kernel
theorem dX8_takeFields_30 : decode cX8_takeFields 30 = .ok (.iaload, 1) := by decide +kernel
theorem dX8_takeFields_31 : decode cX8_takeFields 31 = .ok (.bipush 8, 2) := by decide +kernel
theorem dX8_takeFields_33 : decode cX8_takeFields 33 = .ok (.if_icmp .le 5, 3) := by decide +kernel
theorem dX8_takeFields_36 : decode cX8_takeFields 36 = .ok (.iconst 0, 1) := by decide +kernel
theorem dX8_takeFields_37 : decode cX8_takeFields 37 = .ok (.ireturn, 1) := by decide +kernel
theorem dX8_takeFields_38 : decode cX8_takeFields 38 = .ok (.aload_n 0, 1) := by decide +kernel
theorem dX8_takeFields_39 : decode cX8_takeFields 39 = .ok (.getfield 12, 3) := by decide +kernel
theorem dX8_takeFields_42 : decode cX8_takeFields 42 = .ok (.aload_n 0, 1) := by decide +kernel
theorem dX8_takeFields_43 : decode cX8_takeFields 43 = .ok (.getfield 22, 3) := by decide +kernel
theorem dX8_takeFields_46 : decode cX8_takeFields 46 = .ok (.iconst 0, 1) := by decide +kernel
theorem dX8_takeFields_47 : decode cX8_takeFields 47 = .ok (.iaload, 1) := by decide +kernel
theorem dX8_takeFields_48 : decode cX8_takeFields 48 = .ok (.putfield 62, 3) := by decide +kernel
theorem dX8_takeFields_51 : decode cX8_takeFields 51 = .ok (.iconst 1, 1) := by decide +kernel
theorem dX8_takeFields_52 : decode cX8_takeFields 52 = .ok (.ireturn, 1) := by decide +kernel
theorem dX8_takeLimit_0 : decode cX8_takeLimit 0 = .ok (.aload_n 0, 1) := by decide +kernel
theorem dX8_takeLimit_1 : decode cX8_takeLimit 1 = .ok (.getfield 45, 3) := by decide +kernel
theorem dX8_takeLimit_4 : decode cX8_takeLimit 4 = .ok (.iconst 1, 1) := by decide +kernel
theorem dX8_takeLimit_5 : decode cX8_takeLimit 5 = .ok (.if_icmp .ne 14, 3) := by decide +kernel
theorem dX8_takeLimit_8 : decode cX8_takeLimit 8 = .ok (.aload_n 0, 1) := by decide +kernel
theorem dX8_takeLimit_9 : decode cX8_takeLimit 9 = .ok (.getfield 22, 3) := by decide +kernel
theorem dX8_takeLimit_12 : decode cX8_takeLimit 12 = .ok (.iconst 0, 1) := by decide +kernel
theorem dX8_takeLimit_13 : decode cX8_takeLimit 13 = .ok (.iaload, 1) := by decide +kernel
theorem dX8_takeLimit_14 : decode cX8_takeLimit 14 = .ok (.bipush 10, 2) := by decide +kernel
theorem dX8_takeLimit_16 : decode cX8_takeLimit 16 = .ok (.if_icmp .ge 5, 3) := by decide +kernel
theorem dX8_takeLimit_19 : decode cX8_takeLimit 19 = .ok (.iconst 0, 1) := by decide +kernel
theorem dX8_takeLimit_20 : decode cX8_takeLimit 20 = .ok (.ireturn, 1) := by decide +kernel
theorem dX8_takeLimit_21 : decode cX8_takeLimit 21 = .ok (.aload_n 0, 1) := by decide +kernel
theorem dX8_takeLimit_22 : decode cX8_takeLimit 22 = .ok (.getfield 12, 3) := by decide +kernel
theorem dX8_takeLimit_25 : decode cX8_takeLimit 25 = .ok (.aload_n 0, 1) := by decide +kernel
theorem dX8_takeLimit_26 : decode cX8_takeLimit 26 = .ok (.getfield 22, 3) := by decide +kernel
theorem dX8_takeLimit_29 : decode cX8_takeLimit 29 = .ok (.iconst 0, 1) := by decide +kernel
theorem dX8_takeLimit_30 : decode cX8_takeLimit 30 = .ok (.iaload, 1) := by decide +kernel
theorem dX8_takeLimit_31 : decode cX8_takeLimit 31 = .ok (.putfield 65, 3) := by decide +kernel
theorem dX8_takeLimit_34 : decode cX8_takeLimit 34 = .ok (.iconst 1, 1) := by decide +kernel
theorem dX8_takeLimit_35 : decode cX8_takeLimit 35 = .ok (.ireturn, 1) := by decide +kernel
theorem dX9_init_0 : decode cX9_init 0 = .ok (.aload_n 0, 1) := by decide +kernel
theorem dX9_init_1 : decode cX9_init 1 = .ok (.invokespecial 1, 3) := by decide +kernel
theorem dX9_init_4 : decode cX9_init 4 = .ok (.aload_n 0, 1) := by decide +kernel
theorem dX9_init_5 : decode cX9_init 5 = .ok (.new 7, 3) := by decide +kernel
theorem dX9_init_8 : decode cX9_init 8 = .ok (.dup, 1) := by decide +kernel
theorem dX9_init_9 : decode cX9_init 9 = .ok (.invokespecial 9, 3) := by decide +kernel
theorem dX9_init_12 : decode cX9_init 12 = .ok (.putfield 10, 3) := by decide +kernel
theorem dX9_init_15 : decode cX9_init 15 = .ok (.aload_n 0, 1) := by decide +kernel
theorem dX9_init_16 : decode cX9_init 16 = .ok (.new 16, 3) := by decide +kernel
theorem dX9_init_19 : decode cX9_init 19 = .ok (.dup, 1) := by decide +kernel
theorem dX9_init_20 : decode cX9_init 20 = .ok (.invokespecial 18, 3) := by decide +kernel
theorem dX9_init_23 : decode cX9_init 23 = .ok (.putfield 19, 3) := by decide +kernel
theorem dX9_init_26 : decode cX9_init 26 = .ok (.aload_n 0, 1) := by decide +kernel
theorem dX9_init_27 : decode cX9_init 27 = .ok (.new 23, 3) := by decide +kernel
theorem dX9_init_30 : decode cX9_init 30 = .ok (.dup, 1) := by decide +kernel
theorem dX9_init_31 : decode cX9_init 31 = .ok (.aload_n 0, 1) := by decide +kernel
theorem dX9_init_32 : decode cX9_init 32 = .ok (.getfield 19, 3) := by decide +kernel
theorem dX9_init_35 : decode cX9_init 35 = .ok (.invokespecial 25, 3) := by decide +kernel
theorem dX9_init_38 : decode cX9_init 38 = .ok (.putfield 28, 3) := by decide +kernel
theorem dX9_init_41 : decode cX9_init 41 = .ok (.aload_n 0, 1) := by decide +kernel
theorem dX9_init_42 : decode cX9_init 42 = .ok (.new 23, 3) := by decide +kernel
theorem dX9_init_45 : decode cX9_init 45 = .ok (.dup, 1) := by decide +kernel
theorem dX9_init_46 : decode cX9_init 46 = .ok (.aload_n 0, 1) := by decide +kernel
theorem dX9_init_47 : decode cX9_init 47 = .ok (.getfield 19, 3) := by decide +kernel
theorem dX9_init_50 : decode cX9_init 50 = .ok (.invokespecial 25, 3) := by decide +kernel
theorem dX9_init_53 : decode cX9_init 53 = .ok (.putfield 32, 3) := by decide +kernel
theorem dX9_init_56 : decode cX9_init 56 = .ok (.aload_n 0, 1) := by decide +kernel
theorem dX9_init_57 : decode cX9_init 57 = .ok (.new 35, 3) := by decide +kernel
theorem dX9_init_60 : decode cX9_init 60 = .ok (.dup, 1) := by decide +kernel
theorem dX9_init_61 : decode cX9_init 61 = .ok (.bipush 8, 2) := by decide +kernel
theorem dX9_init_63 : decode cX9_init 63 = .ok (.aload_n 0, 1) := by decide +kernel
theorem dX9_init_64 : decode cX9_init 64 = .ok (.getfield 19, 3) := by decide +kernel
theorem dX9_init_67 : decode cX9_init 67 = .ok (.invokespecial 37, 3) := by decide +kernel
theorem dX9_init_70 : decode cX9_init 70 = .ok (.putfield 40, 3) := by decide +kernel
theorem dX9_init_73 : decode cX9_init 73 = .ok (.aload_n 0, 1) := by decide +kernel
theorem dX9_init_74 : decode cX9_init 74 = .ok (.new 35, 3) := by decide +kernel
theorem dX9_init_77 : decode cX9_init 77 = .ok (.dup, 1) := by decide +kernel
theorem dX9_init_78 : decode cX9_init 78 = .ok (.iconst 2, 1) := by decide +kernel
theorem dX9_init_79 : decode cX9_init 79 = .ok (.aload_n 0, 1) := by decide +kernel
theorem dX9_init_80 : decode cX9_init 80 = .ok (.getfield 19, 3) := by decide +kernel
theorem dX9_init_83 : decode cX9_init 83 = .ok (.invokespecial 37, 3) := by decide +kernel
theorem dX9_init_86 : decode cX9_init 86 = .ok (.putfield 44, 3) := by decide +kernel
theorem dX9_init_89 : decode cX9_init 89 = .ok (.aload_n 0, 1) := by decide +kernel
theorem dX9_init_90 : decode cX9_init 90 = .ok (.new 47, 3) := by decide +kernel
theorem dX9_init_93 : decode cX9_init 93 = .ok (.dup, 1) := by decide +kernel
theorem dX9_init_94 : decode cX9_init 94 = .ok (.invokespecial 49, 3) := by decide +kernel
theorem dX9_init_97 : decode cX9_init 97 = .ok (.putfield 50, 3) := by decide +kernel
theorem dX9_init_100 : decode cX9_init 100 = .ok (.aload_n 0, 1) := by decide +kernel
theorem dX9_init_101 : decode cX9_init 101 = .ok (.new 54, 3) := by decide +kernel
theorem dX9_init_104 : decode cX9_init 104 = .ok (.dup, 1) := by decide +kernel
theorem dX9_init_105 : decode cX9_init 105 = .ok (.invokespecial 56, 3) := by decide +kernel
theorem dX9_init_108 : decode cX9_init 108 = .ok (.putfield 57, 3) := by decide +kernel
theorem dX9_init_111 : decode cX9_init 111 = .ok (.aload_n 0, 1) := by decide +kernel
theorem dX9_init_112 : decode cX9_init 112 = .ok (.new 61, 3) := by decide +kernel
theorem dX9_init_115 : decode cX9_init 115 = .ok (.dup, 1) := by decide +kernel
theorem dX9_init_116 : decode cX9_init 116 = .ok (.invokespecial 63, 3) := by decide +kernel
theorem dX9_init_119 : decode cX9_init 119 = .ok (.putfield 64, 3) := by decide +kernel
theorem dX9_init_122 : decode cX9_init 122 = .ok (.aload_n 0, 1) := by decide +kernel
theorem dX9_init_123 : decode cX9_init 123 = .ok (.new 68, 3) := by decide +kernel
theorem dX9_init_126 : decode cX9_init 126 = .ok (.dup, 1) := by decide +kernel
theorem dX9_init_127 : decode cX9_init 127 = .ok (.invokespecial 70, 3) := by decide +kernel
theorem dX9_init_130 : decode cX9_init 130 = .ok (.putfield 71, 3) := by decide +kernel
theorem dX9_init_133 : decode cX9_init 133 = .ok (.aload_n 0, 1) := by decide +kernel
theorem dX9_init_134 : decode cX9_init 134 = .ok (.new 75, 3) := by decide +kernel
theorem dX9_init_137 : decode cX9_init 137 = .ok (.dup, 1) := by decide +kernel
theorem dX9_init_138 : decode cX9_init 138 = .ok (.invokespecial 77, 3) := by decide +kernel
theorem dX9_init_141 : decode cX9_init 141 = .ok (.putfield 78, 3) := by decide +kernel
theorem dX9_init_144 : decode cX9_init 144 = .ok (.aload_n 0, 1) := by decide +kernel
theorem dX9_init_145 : decode cX9_init 145 = .ok (.invokevirtual 82, 3) := by decide +kernel
theorem dX9_init_148 : decode cX9_init 148 = .ok (.return_, 1) := by decide +kernel
theorem dX9_write_0 : decode cX9_write 0 = .ok (.iload_n 1, 1) := by decide +kernel
theorem dX9_write_1 : decode cX9_write 1 = .ok (.bipush 32, 2) := by decide +kernel
theorem dX9_write_3 : decode cX9_write 3 = .ok (.if_icmp .lt 9, 3) := by decide +kernel
theorem dX9_write_6 : decode cX9_write 6 = .ok (.iload_n 1, 1) := by decide +kernel
theorem dX9_write_7 : decode cX9_write 7 = .ok (.bipush 126, 2) := by decide +kernel
theorem dX9_write_9 : decode cX9_write 9 = .ok (.if_icmp .le 5, 3) := by decide +kernel
theorem dX9_write_12 : decode cX9_write 12 = .ok (.iconst (-1), 1) := by decide +kernel
theorem dX9_write_13 : decode cX9_write 13 = .ok (.ireturn, 1) := by decide +kernel
theorem dX9_write_14 : decode cX9_write 14 = .ok (.aload_n 0, 1) := by decide +kernel
theorem dX9_write_15 : decode cX9_write 15 = .ok (.getfield 10, 3) := by decide +kernel
theorem dX9_write_18 : decode cX9_write 18 = .ok (.iload_n 1, 1) := by decide +kernel
theorem dX9_write_19 : decode cX9_write 19 = .ok (.i2c, 1) := by decide +kernel
theorem dX9_write_20 : decode cX9_write 20 = .ok (.invokevirtual 85, 3) := by decide +kernel
theorem dX9_write_23 : decode cX9_write 23 = .ok (.ifCond .eq 13, 3) := by decide +kernel
theorem dX9_write_26 : decode cX9_write 26 = .ok (.aload_n 0, 1) := by decide +kernel
theorem dX9_write_27 : decode cX9_write 27 = .ok (.getfield 10, 3) := by decide +kernel
theorem dX9_write_30 : decode cX9_write 30 = .ok (.getfield 89, 3) := by decide +kernel
theorem dX9_write_33 : decode cX9_write 33 = .ok (.goto 5, 3) := by decide +kernel
theorem dX9_write_36 : decode cX9_write 36 = .ok (.bipush (-3), 2) := by decide +kernel
theorem dX9_write_38 : decode cX9_write 38 = .ok (.ireturn, 1) := by decide +kernel
theorem dX9_wipe_0 : decode cX9_wipe 0 = .ok (.aload_n 0, 1) := by decide +kernel
theorem dX9_wipe_1 : decode cX9_wipe 1 = .ok (.getfield 10, 3) := by decide +kernel
theorem dX9_wipe_4 : decode cX9_wipe 4 = .ok (.getfield 89, 3) := by decide +kernel
theorem dX9_wipe_7 : decode cX9_wipe 7 = .ok (.istore_n 1, 1) := by decide +kernel
theorem dX9_wipe_8 : decode cX9_wipe 8 = .ok (.aload_n 0, 1) := by decide +kernel
theorem dX9_wipe_9 : decode cX9_wipe 9 = .ok (.getfield 10, 3) := by decide +kernel
theorem dX9_wipe_12 : decode cX9_wipe 12 = .ok (.iconst 0, 1) := by decide +kernel
theorem dX9_wipe_13 : decode cX9_wipe 13 = .ok (.putfield 89, 3) := by decide +kernel
theorem dX9_wipe_16 : decode cX9_wipe 16 = .ok (.iload_n 1, 1) := by decide +kernel
theorem dX9_wipe_17 : decode cX9_wipe 17 = .ok (.ireturn, 1) := by decide +kernel
theorem dX9_fault_0 : decode cX9_fault 0 = .ok (.aload_n 0, 1) := by decide +kernel
theorem dX9_fault_1 : decode cX9_fault 1 = .ok (.getfield 10, 3) := by decide +kernel
theorem dX9_fault_4 : decode cX9_fault 4 = .ok (.invokevirtual 93, 3) := by decide +kernel
theorem dX9_fault_7 : decode cX9_fault 7 = .ok (.ireturn, 1) := by decide +kernel
theorem dX9_lay_0 : decode cX9_lay 0 = .ok (.aload_n 0, 1) := by decide +kernel
theorem dX9_lay_1 : decode cX9_lay 1 = .ok (.getfield 10, 3) := by decide +kernel
theorem dX9_lay_4 : decode cX9_lay 4 = .ok (.invokevirtual 93, 3) := by decide +kernel
theorem dX9_lay_7 : decode cX9_lay 7 = .ok (.bipush (-4), 2) := by decide +kernel
theorem dX9_lay_9 : decode cX9_lay 9 = .ok (.if_icmp .ne 16, 3) := by decide +kernel
theorem dX9_lay_12 : decode cX9_lay 12 = .ok (.aload_n 0, 1) := by decide +kernel
theorem dX9_lay_13 : decode cX9_lay 13 = .ok (.getfield 10, 3) := by decide +kernel
theorem dX9_lay_16 : decode cX9_lay 16 = .ok (.getfield 97, 3) := by decide +kernel
theorem dX9_lay_19 : decode cX9_lay 19 = .ok (.getfield 100, 3) := by decide +kernel
theorem dX9_lay_22 : decode cX9_lay 22 = .ok (.ifCond .ne 6, 3) := by decide +kernel
theorem dX9_lay_25 : decode cX9_lay 25 = .ok (.bipush (-2), 2) := by decide +kernel
theorem dX9_lay_27 : decode cX9_lay 27 = .ok (.ireturn, 1) := by decide +kernel
theorem dX9_lay_28 : decode cX9_lay 28 = .ok (.aload_n 0, 1) := by decide +kernel
theorem dX9_lay_29 : decode cX9_lay 29 = .ok (.invokevirtual 103, 3) := by decide +kernel
theorem dX9_lay_32 : decode cX9_lay 32 = .ok (.aload_n 0, 1) := by decide +kernel
theorem dX9_lay_33 : decode cX9_lay 33 = .ok (.getfield 19, 3) := by decide +kernel
theorem dX9_lay_36 : decode cX9_lay 36 = .ok (.getfield 106, 3) := by decide +kernel
theorem dX9_lay_39 : decode cX9_lay 39 = .ok (.ireturn, 1) := by decide +kernel
theorem dX9_stile_0 : decode cX9_stile 0 = .ok (.aload_n 0, 1) := by decide +kernel
theorem dX9_stile_1 : decode cX9_stile 1 = .ok (.getfield 19, 3) := by decide +kernel
theorem dX9_stile_4 : decode cX9_stile 4 = .ok (.iload_n 1, 1) := by decide +kernel
theorem dX9_stile_5 : decode cX9_stile 5 = .ok (.invokevirtual 109, 3) := by decide +kernel
theorem dX9_stile_8 : decode cX9_stile 8 = .ok (.ifCond .ne 5, 3) := by decide +kernel
theorem dX9_stile_11 : decode cX9_stile 11 = .ok (.iconst (-1), 1) := by decide +kernel
theorem dX9_stile_12 : decode cX9_stile 12 = .ok (.ireturn, 1) := by decide +kernel
theorem dX9_stile_13 : decode cX9_stile 13 = .ok (.iload_n 2, 1) := by decide +kernel
theorem dX9_stile_14 : decode cX9_stile 14 = .ok (.tableswitch 91 0 4 #[34, 44, 54, 64, 74], 34) := by decide +kernel
theorem dX9_stile_48 : decode cX9_stile 48 = .ok (.aload_n 0, 1) := by decide +kernel
theorem dX9_stile_49 : decode cX9_stile 49 = .ok (.getfield 19, 3) := by decide +kernel
theorem dX9_stile_52 : decode cX9_stile 52 = .ok (.getfield 113, 3) := by decide +kernel
theorem dX9_stile_55 : decode cX9_stile 55 = .ok (.iload_n 1, 1) := by decide +kernel
theorem dX9_stile_56 : decode cX9_stile 56 = .ok (.iaload, 1) := by decide +kernel
theorem dX9_stile_57 : decode cX9_stile 57 = .ok (.ireturn, 1) := by decide +kernel
theorem dX9_stile_58 : decode cX9_stile 58 = .ok (.aload_n 0, 1) := by decide +kernel
theorem dX9_stile_59 : decode cX9_stile 59 = .ok (.getfield 19, 3) := by decide +kernel
theorem dX9_stile_62 : decode cX9_stile 62 = .ok (.getfield 117, 3) := by decide +kernel
theorem dX9_stile_65 : decode cX9_stile 65 = .ok (.iload_n 1, 1) := by decide +kernel
theorem dX9_stile_66 : decode cX9_stile 66 = .ok (.iaload, 1) := by decide +kernel
theorem dX9_stile_67 : decode cX9_stile 67 = .ok (.ireturn, 1) := by decide +kernel
theorem dX9_stile_68 : decode cX9_stile 68 = .ok (.aload_n 0, 1) := by decide +kernel
theorem dX9_stile_69 : decode cX9_stile 69 = .ok (.getfield 19, 3) := by decide +kernel
theorem dX9_stile_72 : decode cX9_stile 72 = .ok (.getfield 120, 3) := by decide +kernel
theorem dX9_stile_75 : decode cX9_stile 75 = .ok (.iload_n 1, 1) := by decide +kernel
theorem dX9_stile_76 : decode cX9_stile 76 = .ok (.iaload, 1) := by decide +kernel
theorem dX9_stile_77 : decode cX9_stile 77 = .ok (.ireturn, 1) := by decide +kernel
theorem dX9_stile_78 : decode cX9_stile 78 = .ok (.aload_n 0, 1) := by decide +kernel
theorem dX9_stile_79 : decode cX9_stile 79 = .ok (.getfield 28, 3) := by decide +kernel
theorem dX9_stile_82 : decode cX9_stile 82 = .ok (.getfield 123, 3) := by decide +kernel
theorem dX9_stile_85 : decode cX9_stile 85 = .ok (.iload_n 1, 1) := by decide +kernel
theorem dX9_stile_86 : decode cX9_stile 86 = .ok (.iaload, 1) := by decide +kernel
theorem dX9_stile_87 : decode cX9_stile 87 = .ok (.ireturn, 1) := by decide +kernel
theorem dX9_stile_88 : decode cX9_stile 88 = .ok (.aload_n 0, 1) := by decide +kernel
theorem dX9_stile_89 : decode cX9_stile 89 = .ok (.getfield 28, 3) := by decide +kernel
theorem dX9_stile_92 : decode cX9_stile 92 = .ok (.iload_n 1, 1) := by decide +kernel
theorem dX9_stile_93 : decode cX9_stile 93 = .ok (.invokevirtual 126, 3) := by decide +kernel
theorem dX9_stile_96 : decode cX9_stile 96 = .ok (.ifCond .eq 7, 3) := by decide +kernel
theorem dX9_stile_99 : decode cX9_stile 99 = .ok (.iconst 1, 1) := by decide +kernel
theorem dX9_stile_100 : decode cX9_stile 100 = .ok (.goto 4, 3) := by decide +kernel
theorem dX9_stile_103 : decode cX9_stile 103 = .ok (.iconst 0, 1) := by decide +kernel
theorem dX9_stile_104 : decode cX9_stile 104 = .ok (.ireturn, 1) := by decide +kernel
theorem dX9_stile_105 : decode cX9_stile 105 = .ok (.iconst (-1), 1) := by decide +kernel
theorem dX9_stile_106 : decode cX9_stile 106 = .ok (.ireturn, 1) := by decide +kernel
theorem dX9_walker_0 : decode cX9_walker 0 = .ok (.aload_n 0, 1) := by decide +kernel
theorem dX9_walker_1 : decode cX9_walker 1 = .ok (.getfield 19, 3) := by decide +kernel
theorem dX9_walker_4 : decode cX9_walker 4 = .ok (.iload_n 1, 1) := by decide +kernel
theorem dX9_walker_5 : decode cX9_walker 5 = .ok (.invokevirtual 129, 3) := by decide +kernel
theorem dX9_walker_8 : decode cX9_walker 8 = .ok (.ifCond .ne 5, 3) := by decide +kernel
theorem dX9_walker_11 : decode cX9_walker 11 = .ok (.iconst (-1), 1) := by decide +kernel
theorem dX9_walker_12 : decode cX9_walker 12 = .ok (.ireturn, 1) := by decide +kernel
theorem dX9_walker_13 : decode cX9_walker 13 = .ok (.iload_n 2, 1) := by decide +kernel
theorem dX9_walker_14 : decode cX9_walker 14 = .ok (.tableswitch 105 0 5 #[38, 48, 58, 68, 78, 95], 38) := by decide +kernel
theorem dX9_walker_52 : decode cX9_walker 52 = .ok (.aload_n 0, 1) := by decide +kernel
theorem dX9_walker_53 : decode cX9_walker 53 = .ok (.getfield 19, 3) := by decide +kernel
theorem dX9_walker_56 : decode cX9_walker 56 = .ok (.getfield 132, 3) := by decide +kernel
theorem dX9_walker_59 : decode cX9_walker 59 = .ok (.iload_n 1, 1) := by decide +kernel
theorem dX9_walker_60 : decode cX9_walker 60 = .ok (.iaload, 1) := by decide +kernel
theorem dX9_walker_61 : decode cX9_walker 61 = .ok (.ireturn, 1) := by decide +kernel
theorem dX9_walker_62 : decode cX9_walker 62 = .ok (.aload_n 0, 1) := by decide +kernel
theorem dX9_walker_63 : decode cX9_walker 63 = .ok (.getfield 28, 3) := by decide +kernel
theorem dX9_walker_66 : decode cX9_walker 66 = .ok (.getfield 135, 3) := by decide +kernel
theorem dX9_walker_69 : decode cX9_walker 69 = .ok (.iload_n 1, 1) := by decide +kernel
theorem dX9_walker_70 : decode cX9_walker 70 = .ok (.iaload, 1) := by decide +kernel
theorem dX9_walker_71 : decode cX9_walker 71 = .ok (.ireturn, 1) := by decide +kernel
theorem dX9_walker_72 : decode cX9_walker 72 = .ok (.aload_n 0, 1) := by decide +kernel
theorem dX9_walker_73 : decode cX9_walker 73 = .ok (.getfield 19, 3) := by decide +kernel
theorem dX9_walker_76 : decode cX9_walker 76 = .ok (.getfield 138, 3) := by decide +kernel
theorem dX9_walker_79 : decode cX9_walker 79 = .ok (.iload_n 1, 1) := by decide +kernel
theorem dX9_walker_80 : decode cX9_walker 80 = .ok (.iaload, 1) := by decide +kernel
theorem dX9_walker_81 : decode cX9_walker 81 = .ok (.ireturn, 1) := by decide +kernel
theorem dX9_walker_82 : decode cX9_walker 82 = .ok (.aload_n 0, 1) := by decide +kernel
theorem dX9_walker_83 : decode cX9_walker 83 = .ok (.getfield 28, 3) := by decide +kernel
theorem dX9_walker_86 : decode cX9_walker 86 = .ok (.getfield 141, 3) := by decide +kernel
theorem dX9_walker_89 : decode cX9_walker 89 = .ok (.iload_n 1, 1) := by decide +kernel
theorem dX9_walker_90 : decode cX9_walker 90 = .ok (.iaload, 1) := by decide +kernel
theorem dX9_walker_91 : decode cX9_walker 91 = .ok (.ireturn, 1) := by decide +kernel
theorem dX9_walker_92 : decode cX9_walker 92 = .ok (.aload_n 0, 1) := by decide +kernel
theorem dX9_walker_93 : decode cX9_walker 93 = .ok (.getfield 28, 3) := by decide +kernel
theorem dX9_walker_96 : decode cX9_walker 96 = .ok (.iload_n 1, 1) := by decide +kernel
theorem dX9_walker_97 : decode cX9_walker 97 = .ok (.invokevirtual 144, 3) := by decide +kernel
theorem dX9_walker_100 : decode cX9_walker 100 = .ok (.ifCond .eq 7, 3) := by decide +kernel
theorem dX9_walker_103 : decode cX9_walker 103 = .ok (.iconst 1, 1) := by decide +kernel
theorem dX9_walker_104 : decode cX9_walker 104 = .ok (.goto 4, 3) := by decide +kernel
theorem dX9_walker_107 : decode cX9_walker 107 = .ok (.iconst 0, 1) := by decide +kernel
theorem dX9_walker_108 : decode cX9_walker 108 = .ok (.ireturn, 1) := by decide +kernel
theorem dX9_walker_109 : decode cX9_walker 109 = .ok (.aload_n 0, 1) := by decide +kernel
theorem dX9_walker_110 : decode cX9_walker 110 = .ok (.getfield 28, 3) := by decide +kernel
theorem dX9_walker_113 : decode cX9_walker 113 = .ok (.getfield 147, 3) := by decide +kernel
theorem dX9_walker_116 : decode cX9_walker 116 = .ok (.iload_n 1, 1) := by decide +kernel
theorem dX9_walker_117 : decode cX9_walker 117 = .ok (.iaload, 1) := by decide +kernel
theorem dX9_walker_118 : decode cX9_walker 118 = .ok (.ireturn, 1) := by decide +kernel
theorem dX9_walker_119 : decode cX9_walker 119 = .ok (.iconst (-1), 1) := by decide +kernel
theorem dX9_walker_120 : decode cX9_walker 120 = .ok (.ireturn, 1) := by decide +kernel
theorem dX9_account_0 : decode cX9_account 0 = .ok (.aload_n 0, 1) := by decide +kernel
theorem dX9_account_1 : decode cX9_account 1 = .ok (.getfield 19, 3) := by decide +kernel
theorem dX9_account_4 : decode cX9_account 4 = .ok (.iload_n 1, 1) := by decide +kernel
theorem dX9_account_5 : decode cX9_account 5 = .ok (.invokevirtual 129, 3) := by decide +kernel
theorem dX9_account_8 : decode cX9_account 8 = .ok (.ifCond .eq 14, 3) := by decide +kernel
theorem dX9_account_11 : decode cX9_account 11 = .ok (.aload_n 0, 1) := by decide +kernel
theorem dX9_account_12 : decode cX9_account 12 = .ok (.getfield 19, 3) := by decide +kernel
theorem dX9_account_15 : decode cX9_account 15 = .ok (.iload_n 2, 1) := by decide +kernel
theorem dX9_account_16 : decode cX9_account 16 = .ok (.invokevirtual 109, 3) := by decide +kernel
theorem dX9_account_19 : decode cX9_account 19 = .ok (.ifCond .ne 5, 3) := by decide +kernel
theorem dX9_account_22 : decode cX9_account 22 = .ok (.iconst (-1), 1) := by decide +kernel
theorem dX9_account_23 : decode cX9_account 23 = .ok (.ireturn, 1) := by decide +kernel
theorem dX9_account_24 : decode cX9_account 24 = .ok (.aload_n 0, 1) := by decide +kernel
theorem dX9_account_25 : decode cX9_account 25 = .ok (.getfield 28, 3) := by decide +kernel
theorem dX9_account_28 : decode cX9_account 28 = .ok (.iload_n 1, 1) := by decide +kernel
theorem dX9_account_29 : decode cX9_account 29 = .ok (.iload_n 2, 1) := by decide +kernel
theorem dX9_account_30 : decode cX9_account 30 = .ok (.invokevirtual 150, 3) := by decide +kernel
theorem dX9_account_33 : decode cX9_account 33 = .ok (.sipush 1000, 3) := by decide +kernel
theorem dX9_account_36 : decode cX9_account 36 = .ok (.iadd, 1) := by decide +kernel
theorem dX9_account_37 : decode cX9_account 37 = .ok (.ireturn, 1) := by decide +kernel
theorem dX9_tread_0 : decode cX9_tread 0 = .ok (.aload_n 0, 1) := by decide +kernel
theorem dX9_tread_1 : decode cX9_tread 1 = .ok (.getfield 19, 3) := by decide +kernel
theorem dX9_tread_4 : decode cX9_tread 4 = .ok (.iload_n 1, 1) := by decide +kernel
theorem dX9_tread_5 : decode cX9_tread 5 = .ok (.invokevirtual 129, 3) := by decide +kernel
theorem dX9_tread_8 : decode cX9_tread 8 = .ok (.ifCond .eq 14, 3) := by decide +kernel
theorem dX9_tread_11 : decode cX9_tread 11 = .ok (.aload_n 0, 1) := by decide +kernel
theorem dX9_tread_12 : decode cX9_tread 12 = .ok (.getfield 19, 3) := by decide +kernel
theorem dX9_tread_15 : decode cX9_tread 15 = .ok (.iload_n 2, 1) := by decide +kernel
theorem dX9_tread_16 : decode cX9_tread 16 = .ok (.invokevirtual 109, 3) := by decide +kernel
theorem dX9_tread_19 : decode cX9_tread 19 = .ok (.ifCond .ne 5, 3) := by decide +kernel
theorem dX9_tread_22 : decode cX9_tread 22 = .ok (.iconst (-1), 1) := by decide +kernel
theorem dX9_tread_23 : decode cX9_tread 23 = .ok (.ireturn, 1) := by decide +kernel
theorem dX9_tread_24 : decode cX9_tread 24 = .ok (.aload_n 0, 1) := by decide +kernel
theorem dX9_tread_25 : decode cX9_tread 25 = .ok (.getfield 28, 3) := by decide +kernel
theorem dX9_tread_28 : decode cX9_tread 28 = .ok (.iload_n 2, 1) := by decide +kernel
theorem dX9_tread_29 : decode cX9_tread 29 = .ok (.aload_n 0, 1) := by decide +kernel
theorem dX9_tread_30 : decode cX9_tread 30 = .ok (.getfield 28, 3) := by decide +kernel
theorem dX9_tread_33 : decode cX9_tread 33 = .ok (.getfield 135, 3) := by decide +kernel
theorem dX9_tread_36 : decode cX9_tread 36 = .ok (.iload_n 1, 1) := by decide +kernel
theorem dX9_tread_37 : decode cX9_tread 37 = .ok (.iaload, 1) := by decide +kernel
theorem dX9_tread_38 : decode cX9_tread 38 = .ok (.invokevirtual 154, 3) := by decide +kernel
theorem dX9_tread_41 : decode cX9_tread 41 = .ok (.ifCond .ne 6, 3) := by decide +kernel
theorem dX9_tread_44 : decode cX9_tread 44 = .ok (.bipush (-2), 2) := by decide +kernel
theorem dX9_tread_46 : decode cX9_tread 46 = .ok (.ireturn, 1) := by decide +kernel
theorem dX9_tread_47 : decode cX9_tread 47 = .ok (.aload_n 0, 1) := by decide +kernel
theorem dX9_tread_48 : decode cX9_tread 48 = .ok (.getfield 40, 3) := by decide +kernel
theorem dX9_tread_51 : decode cX9_tread 51 = .ok (.aload_n 0, 1) := by decide +kernel
theorem dX9_tread_52 : decode cX9_tread 52 = .ok (.getfield 28, 3) := by decide +kernel
theorem dX9_tread_55 : decode cX9_tread 55 = .ok (.invokevirtual 158, 3) := by decide +kernel
theorem dX9_tread_58 : decode cX9_tread 58 = .ok (.aload_n 0, 1) := by decide +kernel
theorem dX9_tread_59 : decode cX9_tread 59 = .ok (.getfield 28, 3) := by decide +kernel
theorem dX9_tread_62 : decode cX9_tread 62 = .ok (.iload_n 1, 1) := by decide +kernel
theorem dX9_tread_63 : decode cX9_tread 63 = .ok (.iload_n 2, 1) := by decide +kernel
theorem dX9_tread_64 : decode cX9_tread 64 = .ok (.invokevirtual 162, 3) := by decide +kernel
theorem dX9_tread_67 : decode cX9_tread 67 = .ok (.aload_n 0, 1) := by decide +kernel
theorem dX9_tread_68 : decode cX9_tread 68 = .ok (.getfield 28, 3) := by decide +kernel
theorem dX9_tread_71 : decode cX9_tread 71 = .ok (.getfield 135, 3) := by decide +kernel
theorem dX9_tread_74 : decode cX9_tread 74 = .ok (.iload_n 1, 1) := by decide +kernel
theorem dX9_tread_75 : decode cX9_tread 75 = .ok (.iaload, 1) := by decide +kernel
theorem dX9_tread_76 : decode cX9_tread 76 = .ok (.ireturn, 1) := by decide +kernel
theorem dX9_replace_0 : decode cX9_replace 0 = .ok (.aload_n 0, 1) := by decide +kernel
theorem dX9_replace_1 : decode cX9_replace 1 = .ok (.getfield 19, 3) := by decide +kernel
theorem dX9_replace_4 : decode cX9_replace 4 = .ok (.iload_n 1, 1) := by decide +kernel
theorem dX9_replace_5 : decode cX9_replace 5 = .ok (.invokevirtual 109, 3) := by decide +kernel
theorem dX9_replace_8 : decode cX9_replace 8 = .ok (.ifCond .ne 5, 3) := by decide +kernel
theorem dX9_replace_11 : decode cX9_replace 11 = .ok (.iconst (-1), 1) := by decide +kernel
theorem dX9_replace_12 : decode cX9_replace 12 = .ok (.ireturn, 1) := by decide +kernel
theorem dX9_replace_13 : decode cX9_replace 13 = .ok (.aload_n 0, 1) := by decide +kernel
theorem dX9_replace_14 : decode cX9_replace 14 = .ok (.getfield 28, 3) := by decide +kernel
theorem dX9_replace_17 : decode cX9_replace 17 = .ok (.getfield 123, 3) := by decide +kernel
theorem dX9_replace_20 : decode cX9_replace 20 = .ok (.iload_n 1, 1) := by decide +kernel
theorem dX9_replace_21 : decode cX9_replace 21 = .ok (.iaload, 1) := by decide +kernel
theorem dX9_replace_22 : decode cX9_replace 22 = .ok (.istore_n 2, 1) := by decide +kernel
theorem dX9_replace_23 : decode cX9_replace 23 = .ok (.aload_n 0, 1) := by decide +kernel
theorem dX9_replace_24 : decode cX9_replace 24 = .ok (.getfield 40, 3) := by decide +kernel
theorem dX9_replace_27 : decode cX9_replace 27 = .ok (.aload_n 0, 1) := by decide +kernel
theorem dX9_replace_28 : decode cX9_replace 28 = .ok (.getfield 28, 3) := by decide +kernel
theorem dX9_replace_31 : decode cX9_replace 31 = .ok (.invokevirtual 158, 3) := by decide +kernel
theorem dX9_replace_34 : decode cX9_replace 34 = .ok (.aload_n 0, 1) := by decide +kernel
theorem dX9_replace_35 : decode cX9_replace 35 = .ok (.getfield 28, 3) := by decide +kernel
theorem dX9_replace_38 : decode cX9_replace 38 = .ok (.iload_n 1, 1) := by decide +kernel
theorem dX9_replace_39 : decode cX9_replace 39 = .ok (.invokevirtual 166, 3) := by decide +kernel
theorem dX9_replace_42 : decode cX9_replace 42 = .ok (.iload_n 2, 1) := by decide +kernel
theorem dX9_replace_43 : decode cX9_replace 43 = .ok (.ireturn, 1) := by decide +kernel
theorem dX9_sand_0 : decode cX9_sand 0 = .ok (.aload_n 0, 1) := by decide +kernel
theorem dX9_sand_1 : decode cX9_sand 1 = .ok (.getfield 19, 3) := by decide +kernel
theorem dX9_sand_4 : decode cX9_sand 4 = .ok (.iload_n 1, 1) := by decide +kernel
theorem dX9_sand_5 : decode cX9_sand 5 = .ok (.invokevirtual 109, 3) := by decide +kernel
theorem dX9_sand_8 : decode cX9_sand 8 = .ok (.ifCond .ne 5, 3) := by decide +kernel
theorem dX9_sand_11 : decode cX9_sand 11 = .ok (.iconst (-1), 1) := by decide +kernel
theorem dX9_sand_12 : decode cX9_sand 12 = .ok (.ireturn, 1) := by decide +kernel
theorem dX9_sand_13 : decode cX9_sand 13 = .ok (.aload_n 0, 1) := by decide +kernel
theorem dX9_sand_14 : decode cX9_sand 14 = .ok (.getfield 40, 3) := by decide +kernel
theorem dX9_sand_17 : decode cX9_sand 17 = .ok (.aload_n 0, 1) := by decide +kernel
theorem dX9_sand_18 : decode cX9_sand 18 = .ok (.getfield 28, 3) := by decide +kernel
theorem dX9_sand_21 : decode cX9_sand 21 = .ok (.invokevirtual 158, 3) := by decide +kernel
theorem dX9_sand_24 : decode cX9_sand 24 = .ok (.aload_n 0, 1) := by decide +kernel
theorem dX9_sand_25 : decode cX9_sand 25 = .ok (.getfield 28, 3) := by decide +kernel
theorem dX9_sand_28 : decode cX9_sand 28 = .ok (.iload_n 1, 1) := by decide +kernel
theorem dX9_sand_29 : decode cX9_sand 29 = .ok (.iconst 5, 1) := by decide +kernel
theorem dX9_sand_30 : decode cX9_sand 30 = .ok (.invokevirtual 170, 3) := by decide +kernel
theorem dX9_sand_33 : decode cX9_sand 33 = .ok (.aload_n 0, 1) := by decide +kernel
theorem dX9_sand_34 : decode cX9_sand 34 = .ok (.getfield 28, 3) := by decide +kernel
theorem dX9_sand_37 : decode cX9_sand 37 = .ok (.getfield 123, 3) := by decide +kernel
theorem dX9_sand_40 : decode cX9_sand 40 = .ok (.iload_n 1, 1) := by decide +kernel
theorem dX9_sand_41 : decode cX9_sand 41 = .ok (.iaload, 1) := by decide +kernel
theorem dX9_sand_42 : decode cX9_sand 42 = .ok (.ireturn, 1) := by decide +kernel
theorem dX9_undo_0 : decode cX9_undo 0 = .ok (.aload_n 0, 1) := by decide +kernel
theorem dX9_undo_1 : decode cX9_undo 1 = .ok (.getfield 40, 3) := by decide +kernel
theorem dX9_undo_4 : decode cX9_undo 4 = .ok (.aload_n 0, 1) := by decide +kernel
theorem dX9_undo_5 : decode cX9_undo 5 = .ok (.getfield 28, 3) := by decide +kernel
theorem dX9_undo_8 : decode cX9_undo 8 = .ok (.invokevirtual 173, 3) := by decide +kernel
theorem dX9_undo_11 : decode cX9_undo 11 = .ok (.ifCond .eq 13, 3) := by decide +kernel
theorem dX9_undo_14 : decode cX9_undo 14 = .ok (.aload_n 0, 1) := by decide +kernel
theorem dX9_undo_15 : decode cX9_undo 15 = .ok (.getfield 40, 3) := by decide +kernel
theorem dX9_undo_18 : decode cX9_undo 18 = .ok (.getfield 177, 3) := by decide +kernel
theorem dX9_undo_21 : decode cX9_undo 21 = .ok (.goto 5, 3) := by decide +kernel
theorem dX9_undo_24 : decode cX9_undo 24 = .ok (.bipush (-2), 2) := by decide +kernel
theorem dX9_undo_26 : decode cX9_undo 26 = .ok (.ireturn, 1) := by decide +kernel
theorem dX9_way_0 : decode cX9_way 0 = .ok (.aload_n 0, 1) := by decide +kernel
theorem dX9_way_1 : decode cX9_way 1 = .ok (.getfield 19, 3) := by decide +kernel
theorem dX9_way_4 : decode cX9_way 4 = .ok (.iload_n 1, 1) := by decide +kernel
theorem dX9_way_5 : decode cX9_way 5 = .ok (.invokevirtual 129, 3) := by decide +kernel
theorem dX9_way_8 : decode cX9_way 8 = .ok (.ifCond .eq 23, 3) := by decide +kernel
theorem dX9_way_11 : decode cX9_way 11 = .ok (.aload_n 0, 1) := by decide +kernel
theorem dX9_way_12 : decode cX9_way 12 = .ok (.getfield 19, 3) := by decide +kernel
theorem dX9_way_15 : decode cX9_way 15 = .ok (.iload_n 2, 1) := by decide +kernel
theorem dX9_way_16 : decode cX9_way 16 = .ok (.invokevirtual 180, 3) := by decide +kernel
theorem dX9_way_19 : decode cX9_way 19 = .ok (.ifCond .eq 12, 3) := by decide +kernel
theorem dX9_way_22 : decode cX9_way 22 = .ok (.iload_n 3, 1) := by decide +kernel
theorem dX9_way_23 : decode cX9_way 23 = .ok (.ifCond .lt 8, 3) := by decide +kernel
theorem dX9_way_26 : decode cX9_way 26 = .ok (.iload_n 3, 1) := by decide +kernel
theorem dX9_way_27 : decode cX9_way 27 = .ok (.iconst 1, 1) := by decide +kernel
theorem dX9_way_28 : decode cX9_way 28 = .ok (.if_icmp .le 5, 3) := by decide +kernel
theorem dX9_way_31 : decode cX9_way 31 = .ok (.iconst (-1), 1) := by decide +kernel
theorem dX9_way_32 : decode cX9_way 32 = .ok (.ireturn, 1) := by decide +kernel
theorem dX9_way_33 : decode cX9_way 33 = .ok (.aload_n 0, 1) := by decide +kernel
theorem dX9_way_34 : decode cX9_way 34 = .ok (.getfield 57, 3) := by decide +kernel
theorem dX9_way_37 : decode cX9_way 37 = .ok (.aload_n 0, 1) := by decide +kernel
theorem dX9_way_38 : decode cX9_way 38 = .ok (.getfield 28, 3) := by decide +kernel
theorem dX9_way_41 : decode cX9_way 41 = .ok (.invokevirtual 183, 3) := by decide +kernel
theorem dX9_way_44 : decode cX9_way 44 = .ok (.aload_n 0, 1) := by decide +kernel
theorem dX9_way_45 : decode cX9_way 45 = .ok (.getfield 28, 3) := by decide +kernel
theorem dX9_way_48 : decode cX9_way 48 = .ok (.getfield 135, 3) := by decide +kernel
theorem dX9_way_51 : decode cX9_way 51 = .ok (.iload_n 1, 1) := by decide +kernel
theorem dX9_way_52 : decode cX9_way 52 = .ok (.iaload, 1) := by decide +kernel
theorem dX9_way_53 : decode cX9_way 53 = .ok (.istore 4, 2) := by decide +kernel
theorem dX9_way_55 : decode cX9_way 55 = .ok (.iload_n 3, 1) := by decide +kernel
theorem dX9_way_56 : decode cX9_way 56 = .ok (.iconst 1, 1) := by decide +kernel
theorem dX9_way_57 : decode cX9_way 57 = .ok (.if_icmp .ne 11, 3) := by decide +kernel
theorem dX9_way_60 : decode cX9_way 60 = .ok (.aload_n 0, 1) := by decide +kernel
theorem dX9_way_61 : decode cX9_way 61 = .ok (.iload 4, 2) := by decide +kernel
theorem dX9_way_63 : decode cX9_way 63 = .ok (.iload_n 2, 1) := by decide +kernel
theorem dX9_way_64 : decode cX9_way 64 = .ok (.invokevirtual 186, 3) := by decide +kernel
theorem dX9_way_67 : decode cX9_way 67 = .ok (.ireturn, 1) := by decide +kernel
theorem dX9_way_68 : decode cX9_way 68 = .ok (.aload_n 0, 1) := by decide +kernel
theorem dX9_way_69 : decode cX9_way 69 = .ok (.getfield 57, 3) := by decide +kernel
theorem dX9_way_72 : decode cX9_way 72 = .ok (.iload 4, 2) := by decide +kernel
theorem dX9_way_74 : decode cX9_way 74 = .ok (.iload_n 2, 1) := by decide +kernel
theorem dX9_way_75 : decode cX9_way 75 = .ok (.invokevirtual 189, 3) := by decide +kernel
theorem dX9_way_78 : decode cX9_way 78 = .ok (.istore 5, 2) := by decide +kernel
theorem dX9_way_80 : decode cX9_way 80 = .ok (.iload 5, 2) := by decide +kernel
theorem dX9_way_82 : decode cX9_way 82 = .ok (.bipush 20, 2) := by decide +kernel
theorem dX9_way_84 : decode cX9_way 84 = .ok (.if_icmp .ne 8, 3) := by decide +kernel
theorem dX9_way_87 : decode cX9_way 87 = .ok (.bipush (-4), 2) := by decide +kernel
theorem dX9_way_89 : decode cX9_way 89 = .ok (.goto 5, 3) := by decide +kernel
theorem dX9_way_92 : decode cX9_way 92 = .ok (.iload 5, 2) := by decide +kernel
theorem dX9_way_94 : decode cX9_way 94 = .ok (.ireturn, 1) := by decide +kernel
theorem dX9_even_0 : decode cX9_even 0 = .ok (.aload_n 0, 1) := by decide +kernel
theorem dX9_even_1 : decode cX9_even 1 = .ok (.getfield 19, 3) := by decide +kernel
theorem dX9_even_4 : decode cX9_even 4 = .ok (.iload_n 1, 1) := by decide +kernel
theorem dX9_even_5 : decode cX9_even 5 = .ok (.invokevirtual 129, 3) := by decide +kernel
theorem dX9_even_8 : decode cX9_even 8 = .ok (.ifCond .ne 5, 3) := by decide +kernel
theorem dX9_even_11 : decode cX9_even 11 = .ok (.iconst (-1), 1) := by decide +kernel
theorem dX9_even_12 : decode cX9_even 12 = .ok (.ireturn, 1) := by decide +kernel
theorem dX9_even_13 : decode cX9_even 13 = .ok (.aload_n 0, 1) := by decide +kernel
theorem dX9_even_14 : decode cX9_even 14 = .ok (.getfield 64, 3) := by decide +kernel
theorem dX9_even_17 : decode cX9_even 17 = .ok (.aload_n 0, 1) := by decide +kernel
theorem dX9_even_18 : decode cX9_even 18 = .ok (.getfield 28, 3) := by decide +kernel
theorem dX9_even_21 : decode cX9_even 21 = .ok (.iload_n 1, 1) := by decide +kernel
theorem dX9_even_22 : decode cX9_even 22 = .ok (.invokevirtual 192, 3) := by decide +kernel
theorem dX9_even_25 : decode cX9_even 25 = .ok (.ireturn, 1) := by decide +kernel
theorem dX9_measure_0 : decode cX9_measure 0 = .ok (.iload_n 1, 1) := by decide +kernel
theorem dX9_measure_1 : decode cX9_measure 1 = .ok (.ifCond .lt 8, 3) := by decide +kernel
theorem dX9_measure_4 : decode cX9_measure 4 = .ok (.iload_n 1, 1) := by decide +kernel
theorem dX9_measure_5 : decode cX9_measure 5 = .ok (.iconst 1, 1) := by decide +kernel
theorem dX9_measure_6 : decode cX9_measure 6 = .ok (.if_icmp .le 5, 3) := by decide +kernel
theorem dX9_measure_9 : decode cX9_measure 9 = .ok (.iconst (-1), 1) := by decide +kernel
theorem dX9_measure_10 : decode cX9_measure 10 = .ok (.ireturn, 1) := by decide +kernel
theorem dX9_measure_11 : decode cX9_measure 11 = .ok (.aload_n 0, 1) := by decide +kernel
theorem dX9_measure_12 : decode cX9_measure 12 = .ok (.getfield 71, 3) := by decide +kernel
theorem dX9_measure_15 : decode cX9_measure 15 = .ok (.aload_n 0, 1) := by decide +kernel
theorem dX9_measure_16 : decode cX9_measure 16 = .ok (.getfield 28, 3) := by decide +kernel
theorem dX9_measure_19 : decode cX9_measure 19 = .ok (.invokevirtual 196, 3) := by decide +kernel
theorem dX9_measure_22 : decode cX9_measure 22 = .ok (.istore_n 2, 1) := by decide +kernel
theorem dX9_measure_23 : decode cX9_measure 23 = .ok (.iload_n 1, 1) := by decide +kernel
theorem dX9_measure_24 : decode cX9_measure 24 = .ok (.ifCond .ne 7, 3) := by decide +kernel
theorem dX9_measure_27 : decode cX9_measure 27 = .ok (.iload_n 2, 1) := by decide +kernel
theorem dX9_measure_28 : decode cX9_measure 28 = .ok (.goto 7, 3) := by decide +kernel
theorem dX9_measure_31 : decode cX9_measure 31 = .ok (.iload_n 2, 1) := by decide +kernel
theorem dX9_measure_32 : decode cX9_measure 32 = .ok (.invokestatic 200, 3) := by decide +kernel
theorem dX9_measure_35 : decode cX9_measure 35 = .ok (.ireturn, 1) := by decide +kernel
theorem dX9_fresh_0 : decode cX9_fresh 0 = .ok (.iload_n 1, 1) := by decide +kernel
theorem dX9_fresh_1 : decode cX9_fresh 1 = .ok (.ifCond .lt 8, 3) := by decide +kernel
theorem dX9_fresh_4 : decode cX9_fresh 4 = .ok (.iload_n 1, 1) := by decide +kernel
theorem dX9_fresh_5 : decode cX9_fresh 5 = .ok (.iconst 1, 1) := by decide +kernel
theorem dX9_fresh_6 : decode cX9_fresh 6 = .ok (.if_icmp .le 5, 3) := by decide +kernel
theorem dX9_fresh_9 : decode cX9_fresh 9 = .ok (.iconst (-1), 1) := by decide +kernel
theorem dX9_fresh_10 : decode cX9_fresh 10 = .ok (.ireturn, 1) := by decide +kernel
theorem dX9_fresh_11 : decode cX9_fresh 11 = .ok (.aload_n 0, 1) := by decide +kernel
theorem dX9_fresh_12 : decode cX9_fresh 12 = .ok (.getfield 57, 3) := by decide +kernel
theorem dX9_fresh_15 : decode cX9_fresh 15 = .ok (.aload_n 0, 1) := by decide +kernel
theorem dX9_fresh_16 : decode cX9_fresh 16 = .ok (.getfield 28, 3) := by decide +kernel
theorem dX9_fresh_19 : decode cX9_fresh 19 = .ok (.invokevirtual 183, 3) := by decide +kernel
theorem dX9_fresh_22 : decode cX9_fresh 22 = .ok (.aload_n 0, 1) := by decide +kernel
theorem dX9_fresh_23 : decode cX9_fresh 23 = .ok (.invokevirtual 206, 3) := by decide +kernel
theorem dX9_fresh_26 : decode cX9_fresh 26 = .ok (.istore_n 2, 1) := by decide +kernel
theorem dX9_fresh_27 : decode cX9_fresh 27 = .ok (.iload_n 2, 1) := by decide +kernel
theorem dX9_fresh_28 : decode cX9_fresh 28 = .ok (.bipush (-4), 2) := by decide +kernel
theorem dX9_fresh_30 : decode cX9_fresh 30 = .ok (.if_icmp .eq 7, 3) := by decide +kernel
theorem dX9_fresh_33 : decode cX9_fresh 33 = .ok (.iload_n 1, 1) := by decide +kernel
theorem dX9_fresh_34 : decode cX9_fresh 34 = .ok (.ifCond .ne 5, 3) := by decide +kernel
theorem dX9_fresh_37 : decode cX9_fresh 37 = .ok (.iload_n 2, 1) := by decide +kernel
theorem dX9_fresh_38 : decode cX9_fresh 38 = .ok (.ireturn, 1) := by decide +kernel
theorem dX9_fresh_39 : decode cX9_fresh 39 = .ok (.aload_n 0, 1) := by decide +kernel
theorem dX9_fresh_40 : decode cX9_fresh 40 = .ok (.getfield 57, 3) := by decide +kernel
theorem dX9_fresh_43 : decode cX9_fresh 43 = .ok (.invokevirtual 209, 3) := by decide +kernel
theorem dX9_fresh_46 : decode cX9_fresh 46 = .ok (.aload_n 0, 1) := by decide +kernel
theorem dX9_fresh_47 : decode cX9_fresh 47 = .ok (.getfield 57, 3) := by decide +kernel
theorem dX9_fresh_50 : decode cX9_fresh 50 = .ok (.iload_n 2, 1) := by decide +kernel
theorem dX9_fresh_51 : decode cX9_fresh 51 = .ok (.bipush 10, 2) := by decide +kernel
theorem dX9_fresh_53 : decode cX9_fresh 53 = .ok (.idiv, 1) := by decide +kernel
theorem dX9_fresh_54 : decode cX9_fresh 54 = .ok (.iload_n 2, 1) := by decide +kernel
theorem dX9_fresh_55 : decode cX9_fresh 55 = .ok (.bipush 10, 2) := by decide +kernel
theorem dX9_fresh_57 : decode cX9_fresh 57 = .ok (.irem, 1) := by decide +kernel
theorem dX9_fresh_58 : decode cX9_fresh 58 = .ok (.invokevirtual 212, 3) := by decide +kernel
theorem dX9_fresh_61 : decode cX9_fresh 61 = .ok (.isub, 1) := by decide +kernel
theorem dX9_fresh_62 : decode cX9_fresh 62 = .ok (.ireturn, 1) := by decide +kernel
theorem dX9_lasts_0 : decode cX9_lasts 0 = .ok (.aload_n 0, 1) := by decide +kernel
theorem dX9_lasts_1 : decode cX9_lasts 1 = .ok (.getfield 19, 3) := by decide +kernel
theorem dX9_lasts_4 : decode cX9_lasts 4 = .ok (.iload_n 1, 1) := by decide +kernel
theorem dX9_lasts_5 : decode cX9_lasts 5 = .ok (.invokevirtual 109, 3) := by decide +kernel
theorem dX9_lasts_8 : decode cX9_lasts 8 = .ok (.ifCond .eq 14, 3) := by decide +kernel
theorem dX9_lasts_11 : decode cX9_lasts 11 = .ok (.aload_n 0, 1) := by decide +kernel
theorem dX9_lasts_12 : decode cX9_lasts 12 = .ok (.getfield 19, 3) := by decide +kernel
theorem dX9_lasts_15 : decode cX9_lasts 15 = .ok (.iload_n 2, 1) := by decide +kernel
theorem dX9_lasts_16 : decode cX9_lasts 16 = .ok (.invokevirtual 129, 3) := by decide +kernel
theorem dX9_lasts_19 : decode cX9_lasts 19 = .ok (.ifCond .ne 5, 3) := by decide +kernel
theorem dX9_lasts_22 : decode cX9_lasts 22 = .ok (.iconst (-1), 1) := by decide +kernel
theorem dX9_lasts_23 : decode cX9_lasts 23 = .ok (.ireturn, 1) := by decide +kernel
theorem dX9_lasts_24 : decode cX9_lasts 24 = .ok (.aload_n 0, 1) := by decide +kernel
theorem dX9_lasts_25 : decode cX9_lasts 25 = .ok (.getfield 28, 3) := by decide +kernel
theorem dX9_lasts_28 : decode cX9_lasts 28 = .ok (.iload_n 1, 1) := by decide +kernel
theorem dX9_lasts_29 : decode cX9_lasts 29 = .ok (.invokevirtual 126, 3) := by decide +kernel
theorem dX9_lasts_32 : decode cX9_lasts 32 = .ok (.ifCond .eq 5, 3) := by decide +kernel
theorem dX9_lasts_35 : decode cX9_lasts 35 = .ok (.iconst 0, 1) := by decide +kernel
theorem dX9_lasts_36 : decode cX9_lasts 36 = .ok (.ireturn, 1) := by decide +kernel
theorem dX9_lasts_37 : decode cX9_lasts 37 = .ok (.aload_n 0, 1) := by decide +kernel
theorem dX9_lasts_38 : decode cX9_lasts 38 = .ok (.getfield 19, 3) := by decide +kernel
theorem dX9_lasts_41 : decode cX9_lasts 41 = .ok (.iload_n 2, 1) := by decide +kernel
theorem dX9_lasts_42 : decode cX9_lasts 42 = .ok (.iload_n 1, 1) := by decide +kernel
theorem dX9_lasts_43 : decode cX9_lasts 43 = .ok (.invokevirtual 215, 3) := by decide +kernel
theorem dX9_lasts_46 : decode cX9_lasts 46 = .ok (.istore_n 3, 1) := by decide +kernel
theorem dX9_lasts_47 : decode cX9_lasts 47 = .ok (.iload_n 3, 1) := by decide +kernel
theorem dX9_lasts_48 : decode cX9_lasts 48 = .ok (.ifCond .gt 8, 3) := by decide +kernel
theorem dX9_lasts_51 : decode cX9_lasts 51 = .ok (.bipush (-4), 2) := by decide +kernel
theorem dX9_lasts_53 : decode cX9_lasts 53 = .ok (.goto 26, 3) := by decide +kernel
theorem dX9_lasts_56 : decode cX9_lasts 56 = .ok (.aload_n 0, 1) := by decide +kernel
theorem dX9_lasts_57 : decode cX9_lasts 57 = .ok (.getfield 19, 3) := by decide +kernel
theorem dX9_lasts_60 : decode cX9_lasts 60 = .ok (.getfield 218, 3) := by decide +kernel
theorem dX9_lasts_63 : decode cX9_lasts 63 = .ok (.aload_n 0, 1) := by decide +kernel
theorem dX9_lasts_64 : decode cX9_lasts 64 = .ok (.getfield 28, 3) := by decide +kernel
theorem dX9_lasts_67 : decode cX9_lasts 67 = .ok (.getfield 123, 3) := by decide +kernel
theorem dX9_lasts_70 : decode cX9_lasts 70 = .ok (.iload_n 1, 1) := by decide +kernel
theorem dX9_lasts_71 : decode cX9_lasts 71 = .ok (.iaload, 1) := by decide +kernel
theorem dX9_lasts_72 : decode cX9_lasts 72 = .ok (.isub, 1) := by decide +kernel
theorem dX9_lasts_73 : decode cX9_lasts 73 = .ok (.iload_n 3, 1) := by decide +kernel
theorem dX9_lasts_74 : decode cX9_lasts 74 = .ok (.iadd, 1) := by decide +kernel
theorem dX9_lasts_75 : decode cX9_lasts 75 = .ok (.iconst 1, 1) := by decide +kernel
theorem dX9_lasts_76 : decode cX9_lasts 76 = .ok (.isub, 1) := by decide +kernel
theorem dX9_lasts_77 : decode cX9_lasts 77 = .ok (.iload_n 3, 1) := by decide +kernel
theorem dX9_lasts_78 : decode cX9_lasts 78 = .ok (.idiv, 1) := by decide +kernel
theorem dX9_lasts_79 : decode cX9_lasts 79 = .ok (.ireturn, 1) := by decide +kernel
theorem dX9_richest_0 : decode cX9_richest 0 = .ok (.iconst 0, 1) := by decide +kernel
theorem dX9_richest_1 : decode cX9_richest 1 = .ok (.istore_n 1, 1) := by decide +kernel
theorem dX9_richest_2 : decode cX9_richest 2 = .ok (.iconst 1, 1) := by decide +kernel
theorem dX9_richest_3 : decode cX9_richest 3 = .ok (.istore_n 2, 1) := by decide +kernel
theorem dX9_richest_4 : decode cX9_richest 4 = .ok (.iload_n 2, 1) := by decide +kernel
theorem dX9_richest_5 : decode cX9_richest 5 = .ok (.aload_n 0, 1) := by decide +kernel
theorem dX9_richest_6 : decode cX9_richest 6 = .ok (.getfield 19, 3) := by decide +kernel
theorem dX9_richest_9 : decode cX9_richest 9 = .ok (.getfield 100, 3) := by decide +kernel
theorem dX9_richest_12 : decode cX9_richest 12 = .ok (.if_icmp .ge 32, 3) := by decide +kernel
theorem dX9_richest_15 : decode cX9_richest 15 = .ok (.aload_n 0, 1) := by decide +kernel
theorem dX9_richest_16 : decode cX9_richest 16 = .ok (.getfield 28, 3) := by decide +kernel
theorem dX9_richest_19 : decode cX9_richest 19 = .ok (.getfield 141, 3) := by decide +kernel
theorem dX9_richest_22 : decode cX9_richest 22 = .ok (.iload_n 2, 1) := by decide +kernel
theorem dX9_richest_23 : decode cX9_richest 23 = .ok (.iaload, 1) := by decide +kernel
theorem dX9_richest_24 : decode cX9_richest 24 = .ok (.aload_n 0, 1) := by decide +kernel
theorem dX9_richest_25 : decode cX9_richest 25 = .ok (.getfield 28, 3) := by decide +kernel
theorem dX9_richest_28 : decode cX9_richest 28 = .ok (.getfield 141, 3) := by decide +kernel
theorem dX9_richest_31 : decode cX9_richest 31 = .ok (.iload_n 1, 1) := by decide +kernel
theorem dX9_richest_32 : decode cX9_richest 32 = .ok (.iaload, 1) := by decide +kernel
theorem dX9_richest_33 : decode cX9_richest 33 = .ok (.if_icmp .le 5, 3) := by decide +kernel
theorem dX9_richest_36 : decode cX9_richest 36 = .ok (.iload_n 2, 1) := by decide +kernel
theorem dX9_richest_37 : decode cX9_richest 37 = .ok (.istore_n 1, 1) := by decide +kernel
theorem dX9_richest_38 : decode cX9_richest 38 = .ok (.iinc 2 1, 3) := by decide +kernel
theorem dX9_richest_41 : decode cX9_richest 41 = .ok (.goto (-37), 3) := by decide +kernel
theorem dX9_richest_44 : decode cX9_richest 44 = .ok (.iload_n 1, 1) := by decide +kernel
theorem dX9_richest_45 : decode cX9_richest 45 = .ok (.ireturn, 1) := by decide +kernel
theorem dX9_see_0 : decode cX9_see 0 = .ok (.aload_n 0, 1) := by decide +kernel
theorem dX9_see_1 : decode cX9_see 1 = .ok (.getfield 19, 3) := by decide +kernel
theorem dX9_see_4 : decode cX9_see 4 = .ok (.iload_n 1, 1) := by decide +kernel
theorem dX9_see_5 : decode cX9_see 5 = .ok (.invokevirtual 109, 3) := by decide +kernel
theorem dX9_see_8 : decode cX9_see 8 = .ok (.ifCond .eq 14, 3) := by decide +kernel
theorem dX9_see_11 : decode cX9_see 11 = .ok (.iload_n 2, 1) := by decide +kernel
theorem dX9_see_12 : decode cX9_see 12 = .ok (.ifCond .lt 10, 3) := by decide +kernel
theorem dX9_see_15 : decode cX9_see 15 = .ok (.iload_n 2, 1) := by decide +kernel
theorem dX9_see_16 : decode cX9_see 16 = .ok (.sipush 999, 3) := by decide +kernel
theorem dX9_see_19 : decode cX9_see 19 = .ok (.if_icmp .le 5, 3) := by decide +kernel
theorem dX9_see_22 : decode cX9_see 22 = .ok (.iconst (-1), 1) := by decide +kernel
theorem dX9_see_23 : decode cX9_see 23 = .ok (.ireturn, 1) := by decide +kernel
theorem dX9_see_24 : decode cX9_see 24 = .ok (.aload_n 0, 1) := by decide +kernel
theorem dX9_see_25 : decode cX9_see 25 = .ok (.getfield 50, 3) := by decide +kernel
theorem dX9_see_28 : decode cX9_see 28 = .ok (.iload_n 1, 1) := by decide +kernel
theorem dX9_see_29 : decode cX9_see 29 = .ok (.iload_n 2, 1) := by decide +kernel
theorem dX9_see_30 : decode cX9_see 30 = .ok (.invokevirtual 221, 3) := by decide +kernel
theorem dX9_see_33 : decode cX9_see 33 = .ok (.ifCond .eq 13, 3) := by decide +kernel
theorem dX9_see_36 : decode cX9_see 36 = .ok (.aload_n 0, 1) := by decide +kernel
theorem dX9_see_37 : decode cX9_see 37 = .ok (.getfield 50, 3) := by decide +kernel
theorem dX9_see_40 : decode cX9_see 40 = .ok (.getfield 224, 3) := by decide +kernel
theorem dX9_see_43 : decode cX9_see 43 = .ok (.goto 5, 3) := by decide +kernel
theorem dX9_see_46 : decode cX9_see 46 = .ok (.bipush (-3), 2) := by decide +kernel
theorem dX9_see_48 : decode cX9_see 48 = .ok (.ireturn, 1) := by decide +kernel
theorem dX9_forget_0 : decode cX9_forget 0 = .ok (.aload_n 0, 1) := by decide +kernel
theorem dX9_forget_1 : decode cX9_forget 1 = .ok (.getfield 50, 3) := by decide +kernel
theorem dX9_forget_4 : decode cX9_forget 4 = .ok (.getfield 224, 3) := by decide +kernel
theorem dX9_forget_7 : decode cX9_forget 7 = .ok (.istore_n 1, 1) := by decide +kernel
theorem dX9_forget_8 : decode cX9_forget 8 = .ok (.aload_n 0, 1) := by decide +kernel
theorem dX9_forget_9 : decode cX9_forget 9 = .ok (.getfield 50, 3) := by decide +kernel
theorem dX9_forget_12 : decode cX9_forget 12 = .ok (.iconst 0, 1) := by decide +kernel
theorem dX9_forget_13 : decode cX9_forget 13 = .ok (.putfield 224, 3) := by decide +kernel
theorem dX9_forget_16 : decode cX9_forget 16 = .ok (.iload_n 1, 1) := by decide +kernel
theorem dX9_forget_17 : decode cX9_forget 17 = .ok (.ireturn, 1) := by decide +kernel
theorem dX9_whose_0 : decode cX9_whose 0 = .ok (.aload_n 0, 1) := by decide +kernel
theorem dX9_whose_1 : decode cX9_whose 1 = .ok (.getfield 19, 3) := by decide +kernel
theorem dX9_whose_4 : decode cX9_whose 4 = .ok (.iload_n 1, 1) := by decide +kernel
theorem dX9_whose_5 : decode cX9_whose 5 = .ok (.invokevirtual 109, 3) := by decide +kernel
theorem dX9_whose_8 : decode cX9_whose 8 = .ok (.ifCond .ne 5, 3) := by decide +kernel
theorem dX9_whose_11 : decode cX9_whose 11 = .ok (.iconst (-1), 1) := by decide +kernel
theorem dX9_whose_12 : decode cX9_whose 12 = .ok (.ireturn, 1) := by decide +kernel
theorem dX9_whose_13 : decode cX9_whose 13 = .ok (.iconst 0, 1) := by decide +kernel
theorem dX9_whose_14 : decode cX9_whose 14 = .ok (.istore_n 2, 1) := by decide +kernel
theorem dX9_whose_15 : decode cX9_whose 15 = .ok (.iconst 0, 1) := by decide +kernel
theorem dX9_whose_16 : decode cX9_whose 16 = .ok (.istore_n 3, 1) := by decide +kernel
theorem dX9_whose_17 : decode cX9_whose 17 = .ok (.iload_n 3, 1) := by decide +kernel
theorem dX9_whose_18 : decode cX9_whose 18 = .ok (.aload_n 0, 1) := by decide +kernel
theorem dX9_whose_19 : decode cX9_whose 19 = .ok (.getfield 19, 3) := by decide +kernel
theorem dX9_whose_22 : decode cX9_whose 22 = .ok (.getfield 100, 3) := by decide +kernel
theorem dX9_whose_25 : decode cX9_whose 25 = .ok (.if_icmp .ge 31, 3) := by decide +kernel
theorem dX9_whose_28 : decode cX9_whose 28 = .ok (.aload_n 0, 1) := by decide +kernel
theorem dX9_whose_29 : decode cX9_whose 29 = .ok (.getfield 50, 3) := by decide +kernel
theorem dX9_whose_32 : decode cX9_whose 32 = .ok (.aload_n 0, 1) := by decide +kernel
theorem dX9_whose_33 : decode cX9_whose 33 = .ok (.getfield 19, 3) := by decide +kernel
theorem dX9_whose_36 : decode cX9_whose 36 = .ok (.iload_n 3, 1) := by decide +kernel
theorem dX9_whose_37 : decode cX9_whose 37 = .ok (.iload_n 1, 1) := by decide +kernel
theorem dX9_whose_38 : decode cX9_whose 38 = .ok (.invokevirtual 225, 3) := by decide +kernel
theorem dX9_whose_41 : decode cX9_whose 41 = .ok (.ifCond .eq 9, 3) := by decide +kernel
theorem dX9_whose_44 : decode cX9_whose 44 = .ok (.iload_n 2, 1) := by decide +kernel
theorem dX9_whose_45 : decode cX9_whose 45 = .ok (.iconst 1, 1) := by decide +kernel
theorem dX9_whose_46 : decode cX9_whose 46 = .ok (.iload_n 3, 1) := by decide +kernel
theorem dX9_whose_47 : decode cX9_whose 47 = .ok (.ishl, 1) := by decide +kernel
theorem dX9_whose_48 : decode cX9_whose 48 = .ok (.ior, 1) := by decide +kernel
theorem dX9_whose_49 : decode cX9_whose 49 = .ok (.istore_n 2, 1) := by decide +kernel
theorem dX9_whose_50 : decode cX9_whose 50 = .ok (.iinc 3 1, 3) := by decide +kernel
theorem dX9_whose_53 : decode cX9_whose 53 = .ok (.goto (-36), 3) := by decide +kernel
theorem dX9_whose_56 : decode cX9_whose 56 = .ok (.iload_n 2, 1) := by decide +kernel
theorem dX9_whose_57 : decode cX9_whose 57 = .ok (.ireturn, 1) := by decide +kernel
theorem dX9_often_0 : decode cX9_often 0 = .ok (.aload_n 0, 1) := by decide +kernel
theorem dX9_often_1 : decode cX9_often 1 = .ok (.getfield 19, 3) := by decide +kernel
theorem dX9_often_4 : decode cX9_often 4 = .ok (.iload_n 1, 1) := by decide +kernel
theorem dX9_often_5 : decode cX9_often 5 = .ok (.invokevirtual 129, 3) := by decide +kernel
theorem dX9_often_8 : decode cX9_often 8 = .ok (.ifCond .eq 25, 3) := by decide +kernel
theorem dX9_often_11 : decode cX9_often 11 = .ok (.aload_n 0, 1) := by decide +kernel
theorem dX9_often_12 : decode cX9_often 12 = .ok (.getfield 19, 3) := by decide +kernel
theorem dX9_often_15 : decode cX9_often 15 = .ok (.iload_n 2, 1) := by decide +kernel
theorem dX9_often_16 : decode cX9_often 16 = .ok (.invokevirtual 109, 3) := by decide +kernel
theorem dX9_often_19 : decode cX9_often 19 = .ok (.ifCond .eq 14, 3) := by decide +kernel
theorem dX9_often_22 : decode cX9_often 22 = .ok (.iload_n 3, 1) := by decide +kernel
theorem dX9_often_23 : decode cX9_often 23 = .ok (.ifCond .lt 10, 3) := by decide +kernel
theorem dX9_often_26 : decode cX9_often 26 = .ok (.iload_n 3, 1) := by decide +kernel
theorem dX9_often_27 : decode cX9_often 27 = .ok (.sipush 999, 3) := by decide +kernel
theorem dX9_often_30 : decode cX9_often 30 = .ok (.if_icmp .le 5, 3) := by decide +kernel
theorem dX9_often_33 : decode cX9_often 33 = .ok (.iconst (-1), 1) := by decide +kernel
theorem dX9_often_34 : decode cX9_often 34 = .ok (.ireturn, 1) := by decide +kernel
theorem dX9_often_35 : decode cX9_often 35 = .ok (.aload_n 0, 1) := by decide +kernel
theorem dX9_often_36 : decode cX9_often 36 = .ok (.getfield 19, 3) := by decide +kernel
theorem dX9_often_39 : decode cX9_often 39 = .ok (.iload_n 1, 1) := by decide +kernel
theorem dX9_often_40 : decode cX9_often 40 = .ok (.iload_n 2, 1) := by decide +kernel
theorem dX9_often_41 : decode cX9_often 41 = .ok (.iload_n 3, 1) := by decide +kernel
theorem dX9_often_42 : decode cX9_often 42 = .ok (.invokevirtual 229, 3) := by decide +kernel
theorem dX9_often_45 : decode cX9_often 45 = .ok (.ireturn, 1) := by decide +kernel
theorem dX9_drunk_0 : decode cX9_drunk 0 = .ok (.aload_n 0, 1) := by decide +kernel
theorem dX9_drunk_1 : decode cX9_drunk 1 = .ok (.getfield 19, 3) := by decide +kernel
theorem dX9_drunk_4 : decode cX9_drunk 4 = .ok (.iload_n 1, 1) := by decide +kernel
theorem dX9_drunk_5 : decode cX9_drunk 5 = .ok (.invokevirtual 129, 3) := by decide +kernel
theorem dX9_drunk_8 : decode cX9_drunk 8 = .ok (.ifCond .eq 25, 3) := by decide +kernel
theorem dX9_drunk_11 : decode cX9_drunk 11 = .ok (.aload_n 0, 1) := by decide +kernel
theorem dX9_drunk_12 : decode cX9_drunk 12 = .ok (.getfield 19, 3) := by decide +kernel
theorem dX9_drunk_15 : decode cX9_drunk 15 = .ok (.iload_n 2, 1) := by decide +kernel
theorem dX9_drunk_16 : decode cX9_drunk 16 = .ok (.invokevirtual 180, 3) := by decide +kernel
theorem dX9_drunk_19 : decode cX9_drunk 19 = .ok (.ifCond .eq 14, 3) := by decide +kernel
theorem dX9_drunk_22 : decode cX9_drunk 22 = .ok (.iload 5, 2) := by decide +kernel
theorem dX9_drunk_24 : decode cX9_drunk 24 = .ok (.ifCond .lt 9, 3) := by decide +kernel
theorem dX9_drunk_27 : decode cX9_drunk 27 = .ok (.iload 5, 2) := by decide +kernel
theorem dX9_drunk_29 : decode cX9_drunk 29 = .ok (.iconst 1, 1) := by decide +kernel
theorem dX9_drunk_30 : decode cX9_drunk 30 = .ok (.if_icmp .le 5, 3) := by decide +kernel
theorem dX9_drunk_33 : decode cX9_drunk 33 = .ok (.iconst (-1), 1) := by decide +kernel
theorem dX9_drunk_34 : decode cX9_drunk 34 = .ok (.ireturn, 1) := by decide +kernel
theorem dX9_drunk_35 : decode cX9_drunk 35 = .ok (.iload_n 3, 1) := by decide +kernel
theorem dX9_drunk_36 : decode cX9_drunk 36 = .ok (.ifCond .lt 21, 3) := by decide +kernel
theorem dX9_drunk_39 : decode cX9_drunk 39 = .ok (.iload_n 3, 1) := by decide +kernel
theorem dX9_drunk_40 : decode cX9_drunk 40 = .ok (.bipush 8, 2) := by decide +kernel
theorem dX9_drunk_42 : decode cX9_drunk 42 = .ok (.if_icmp .gt 15, 3) := by decide +kernel
theorem dX9_drunk_45 : decode cX9_drunk 45 = .ok (.iload 4, 2) := by decide +kernel
theorem dX9_drunk_47 : decode cX9_drunk 47 = .ok (.ifCond .lt 10, 3) := by decide +kernel
theorem dX9_drunk_50 : decode cX9_drunk 50 = .ok (.iload 4, 2) := by decide +kernel
theorem dX9_drunk_52 : decode cX9_drunk 52 = .ok (.bipush 10, 2) := by decide +kernel
theorem dX9_drunk_54 : decode cX9_drunk 54 = .ok (.if_icmp .le 5, 3) := by decide +kernel
theorem dX9_drunk_57 : decode cX9_drunk 57 = .ok (.iconst (-1), 1) := by decide +kernel
theorem dX9_drunk_58 : decode cX9_drunk 58 = .ok (.ireturn, 1) := by decide +kernel
theorem dX9_drunk_59 : decode cX9_drunk 59 = .ok (.aload_n 0, 1) := by decide +kernel
theorem dX9_drunk_60 : decode cX9_drunk 60 = .ok (.getfield 78, 3) := by decide +kernel
theorem dX9_drunk_63 : decode cX9_drunk 63 = .ok (.aload_n 0, 1) := by decide +kernel
theorem dX9_drunk_64 : decode cX9_drunk 64 = .ok (.getfield 28, 3) := by decide +kernel
theorem dX9_drunk_67 : decode cX9_drunk 67 = .ok (.aload_n 0, 1) := by decide +kernel
theorem dX9_drunk_68 : decode cX9_drunk 68 = .ok (.getfield 28, 3) := by decide +kernel
theorem dX9_drunk_71 : decode cX9_drunk 71 = .ok (.getfield 135, 3) := by decide +kernel
theorem dX9_drunk_74 : decode cX9_drunk 74 = .ok (.iload_n 1, 1) := by decide +kernel
theorem dX9_drunk_75 : decode cX9_drunk 75 = .ok (.iaload, 1) := by decide +kernel
theorem dX9_drunk_76 : decode cX9_drunk 76 = .ok (.iload_n 3, 1) := by decide +kernel
theorem dX9_drunk_77 : decode cX9_drunk 77 = .ok (.iload 4, 2) := by decide +kernel
theorem dX9_drunk_79 : decode cX9_drunk 79 = .ok (.invokevirtual 233, 3) := by decide +kernel
theorem dX9_drunk_82 : decode cX9_drunk 82 = .ok (.aload_n 0, 1) := by decide +kernel
theorem dX9_drunk_83 : decode cX9_drunk 83 = .ok (.getfield 78, 3) := by decide +kernel
theorem dX9_drunk_86 : decode cX9_drunk 86 = .ok (.iload_n 2, 1) := by decide +kernel
theorem dX9_drunk_87 : decode cX9_drunk 87 = .ok (.iload_n 3, 1) := by decide +kernel
theorem dX9_drunk_88 : decode cX9_drunk 88 = .ok (.invokevirtual 237, 3) := by decide +kernel
theorem dX9_drunk_91 : decode cX9_drunk 91 = .ok (.iload 5, 2) := by decide +kernel
theorem dX9_drunk_93 : decode cX9_drunk 93 = .ok (.ifCond .ne 13, 3) := by decide +kernel
theorem dX9_drunk_96 : decode cX9_drunk 96 = .ok (.aload_n 0, 1) := by decide +kernel
theorem dX9_drunk_97 : decode cX9_drunk 97 = .ok (.getfield 78, 3) := by decide +kernel
theorem dX9_drunk_100 : decode cX9_drunk 100 = .ok (.getfield 240, 3) := by decide +kernel
theorem dX9_drunk_103 : decode cX9_drunk 103 = .ok (.goto 10, 3) := by decide +kernel
theorem dX9_drunk_106 : decode cX9_drunk 106 = .ok (.aload_n 0, 1) := by decide +kernel
theorem dX9_drunk_107 : decode cX9_drunk 107 = .ok (.getfield 78, 3) := by decide +kernel
theorem dX9_drunk_110 : decode cX9_drunk 110 = .ok (.getfield 243, 3) := by decide +kernel
theorem dX9_drunk_113 : decode cX9_drunk 113 = .ok (.ireturn, 1) := by decide +kernel
theorem dX9_year_0 : decode cX9_year 0 = .ok (.iload_n 1, 1) := by decide +kernel
theorem dX9_year_1 : decode cX9_year 1 = .ok (.ifCond .lt 30, 3) := by decide +kernel
theorem dX9_year_4 : decode cX9_year 4 = .ok (.iload_n 1, 1) := by decide +kernel
theorem dX9_year_5 : decode cX9_year 5 = .ok (.sipush 9999, 3) := by decide +kernel
theorem dX9_year_8 : decode cX9_year 8 = .ok (.if_icmp .gt 23, 3) := by decide +kernel
theorem dX9_year_11 : decode cX9_year 11 = .ok (.iload_n 2, 1) := by decide +kernel
theorem dX9_year_12 : decode cX9_year 12 = .ok (.iconst 1, 1) := by decide +kernel
theorem dX9_year_13 : decode cX9_year 13 = .ok (.if_icmp .lt 18, 3) := by decide +kernel
theorem dX9_year_16 : decode cX9_year 16 = .ok (.iload_n 2, 1) := by decide +kernel
theorem dX9_year_17 : decode cX9_year 17 = .ok (.bipush 60, 2) := by decide +kernel
theorem dX9_year_19 : decode cX9_year 19 = .ok (.if_icmp .gt 12, 3) := by decide +kernel
theorem dX9_year_22 : decode cX9_year 22 = .ok (.iload_n 3, 1) := by decide +kernel
theorem dX9_year_23 : decode cX9_year 23 = .ok (.ifCond .lt 8, 3) := by decide +kernel
theorem dX9_year_26 : decode cX9_year 26 = .ok (.iload_n 3, 1) := by decide +kernel
theorem dX9_year_27 : decode cX9_year 27 = .ok (.iconst 1, 1) := by decide +kernel
theorem dX9_year_28 : decode cX9_year 28 = .ok (.if_icmp .le 5, 3) := by decide +kernel
theorem dX9_year_31 : decode cX9_year 31 = .ok (.iconst (-1), 1) := by decide +kernel
theorem dX9_year_32 : decode cX9_year 32 = .ok (.ireturn, 1) := by decide +kernel
theorem dX9_year_33 : decode cX9_year 33 = .ok (.aload_n 0, 1) := by decide +kernel
theorem dX9_year_34 : decode cX9_year 34 = .ok (.getfield 32, 3) := by decide +kernel
theorem dX9_year_37 : decode cX9_year 37 = .ok (.aload_n 0, 1) := by decide +kernel
theorem dX9_year_38 : decode cX9_year 38 = .ok (.getfield 28, 3) := by decide +kernel
theorem dX9_year_41 : decode cX9_year 41 = .ok (.invokevirtual 246, 3) := by decide +kernel
theorem dX9_year_44 : decode cX9_year 44 = .ok (.iconst 0, 1) := by decide +kernel
theorem dX9_year_45 : decode cX9_year 45 = .ok (.istore 4, 2) := by decide +kernel
theorem dX9_year_47 : decode cX9_year 47 = .ok (.iload 4, 2) := by decide +kernel
theorem dX9_year_49 : decode cX9_year 49 = .ok (.iload_n 2, 1) := by decide +kernel
theorem dX9_year_50 : decode cX9_year 50 = .ok (.if_icmp .ge 20, 3) := by decide +kernel
theorem dX9_year_53 : decode cX9_year 53 = .ok (.aload_n 0, 1) := by decide +kernel
theorem dX9_year_54 : decode cX9_year 54 = .ok (.aload_n 0, 1) := by decide +kernel
theorem dX9_year_55 : decode cX9_year 55 = .ok (.iload_n 1, 1) := by decide +kernel
theorem dX9_year_56 : decode cX9_year 56 = .ok (.iload 4, 2) := by decide +kernel
theorem dX9_year_58 : decode cX9_year 58 = .ok (.invokevirtual 249, 3) := by decide +kernel
theorem dX9_year_61 : decode cX9_year 61 = .ok (.invokevirtual 252, 3) := by decide +kernel
theorem dX9_year_64 : decode cX9_year 64 = .ok (.iinc 4 1, 3) := by decide +kernel
theorem dX9_year_67 : decode cX9_year 67 = .ok (.goto (-20), 3) := by decide +kernel
theorem dX9_year_70 : decode cX9_year 70 = .ok (.iload_n 3, 1) := by decide +kernel
theorem dX9_year_71 : decode cX9_year 71 = .ok (.ifCond .ne 13, 3) := by decide +kernel
theorem dX9_year_74 : decode cX9_year 74 = .ok (.aload_n 0, 1) := by decide +kernel
theorem dX9_year_75 : decode cX9_year 75 = .ok (.getfield 32, 3) := by decide +kernel
theorem dX9_year_78 : decode cX9_year 78 = .ok (.invokevirtual 255, 3) := by decide +kernel
theorem dX9_year_81 : decode cX9_year 81 = .ok (.goto 10, 3) := by decide +kernel
theorem dX9_year_84 : decode cX9_year 84 = .ok (.aload_n 0, 1) := by decide +kernel
theorem dX9_year_85 : decode cX9_year 85 = .ok (.getfield 32, 3) := by decide +kernel
theorem dX9_year_88 : decode cX9_year 88 = .ok (.invokevirtual 258, 3) := by decide +kernel
theorem dX9_year_91 : decode cX9_year 91 = .ok (.ireturn, 1) := by decide +kernel
theorem dX9_keep_0 : decode cX9_keep 0 = .ok (.aload_n 0, 1) := by decide +kernel
theorem dX9_keep_1 : decode cX9_keep 1 = .ok (.getfield 44, 3) := by decide +kernel
theorem dX9_keep_4 : decode cX9_keep 4 = .ok (.invokevirtual 261, 3) := by decide +kernel
theorem dX9_keep_7 : decode cX9_keep 7 = .ok (.ifCond .eq 6, 3) := by decide +kernel
theorem dX9_keep_10 : decode cX9_keep 10 = .ok (.bipush (-3), 2) := by decide +kernel
theorem dX9_keep_12 : decode cX9_keep 12 = .ok (.ireturn, 1) := by decide +kernel
theorem dX9_keep_13 : decode cX9_keep 13 = .ok (.aload_n 0, 1) := by decide +kernel
theorem dX9_keep_14 : decode cX9_keep 14 = .ok (.getfield 44, 3) := by decide +kernel
theorem dX9_keep_17 : decode cX9_keep 17 = .ok (.aload_n 0, 1) := by decide +kernel
theorem dX9_keep_18 : decode cX9_keep 18 = .ok (.getfield 28, 3) := by decide +kernel
theorem dX9_keep_21 : decode cX9_keep 21 = .ok (.invokevirtual 158, 3) := by decide +kernel
theorem dX9_keep_24 : decode cX9_keep 24 = .ok (.aload_n 0, 1) := by decide +kernel
theorem dX9_keep_25 : decode cX9_keep 25 = .ok (.getfield 44, 3) := by decide +kernel
theorem dX9_keep_28 : decode cX9_keep 28 = .ok (.getfield 177, 3) := by decide +kernel
theorem dX9_keep_31 : decode cX9_keep 31 = .ok (.ireturn, 1) := by decide +kernel
theorem dX9_back_0 : decode cX9_back 0 = .ok (.aload_n 0, 1) := by decide +kernel
theorem dX9_back_1 : decode cX9_back 1 = .ok (.getfield 44, 3) := by decide +kernel
theorem dX9_back_4 : decode cX9_back 4 = .ok (.aload_n 0, 1) := by decide +kernel
theorem dX9_back_5 : decode cX9_back 5 = .ok (.getfield 28, 3) := by decide +kernel
theorem dX9_back_8 : decode cX9_back 8 = .ok (.invokevirtual 173, 3) := by decide +kernel
theorem dX9_back_11 : decode cX9_back 11 = .ok (.ifCond .ne 6, 3) := by decide +kernel
theorem dX9_back_14 : decode cX9_back 14 = .ok (.bipush (-2), 2) := by decide +kernel
theorem dX9_back_16 : decode cX9_back 16 = .ok (.ireturn, 1) := by decide +kernel
theorem dX9_back_17 : decode cX9_back 17 = .ok (.aload_n 0, 1) := by decide +kernel
theorem dX9_back_18 : decode cX9_back 18 = .ok (.getfield 40, 3) := by decide +kernel
theorem dX9_back_21 : decode cX9_back 21 = .ok (.iconst 0, 1) := by decide +kernel
theorem dX9_back_22 : decode cX9_back 22 = .ok (.putfield 177, 3) := by decide +kernel
theorem dX9_back_25 : decode cX9_back 25 = .ok (.aload_n 0, 1) := by decide +kernel
theorem dX9_back_26 : decode cX9_back 26 = .ok (.getfield 44, 3) := by decide +kernel
theorem dX9_back_29 : decode cX9_back 29 = .ok (.getfield 177, 3) := by decide +kernel
theorem dX9_back_32 : decode cX9_back 32 = .ok (.ireturn, 1) := by decide +kernel
theorem dX9_count_0 : decode cX9_count 0 = .ok (.iload_n 1, 1) := by decide +kernel
theorem dX9_count_1 : decode cX9_count 1 = .ok (.tableswitch 147 0 10 #[59, 67, 75, 83, 91, 99, 107, 115, 123, 131, 139], 59) := by decide +kernel
theorem dX9_count_60 : decode cX9_count 60 = .ok (.aload_n 0, 1) := by decide +kernel
theorem dX9_count_61 : decode cX9_count 61 = .ok (.getfield 19, 3) := by decide +kernel
theorem dX9_count_64 : decode cX9_count 64 = .ok (.getfield 106, 3) := by decide +kernel
theorem dX9_count_67 : decode cX9_count 67 = .ok (.ireturn, 1) := by decide +kernel
theorem dX9_count_68 : decode cX9_count 68 = .ok (.aload_n 0, 1) := by decide +kernel
theorem dX9_count_69 : decode cX9_count 69 = .ok (.getfield 19, 3) := by decide +kernel
theorem dX9_count_72 : decode cX9_count 72 = .ok (.getfield 265, 3) := by decide +kernel
theorem dX9_count_75 : decode cX9_count 75 = .ok (.ireturn, 1) := by decide +kernel
theorem dX9_count_76 : decode cX9_count 76 = .ok (.aload_n 0, 1) := by decide +kernel
theorem dX9_count_77 : decode cX9_count 77 = .ok (.getfield 19, 3) := by decide +kernel
theorem dX9_count_80 : decode cX9_count 80 = .ok (.getfield 100, 3) := by decide +kernel
theorem dX9_count_83 : decode cX9_count 83 = .ok (.ireturn, 1) := by decide +kernel
theorem dX9_count_84 : decode cX9_count 84 = .ok (.aload_n 0, 1) := by decide +kernel
theorem dX9_count_85 : decode cX9_count 85 = .ok (.getfield 28, 3) := by decide +kernel
theorem dX9_count_88 : decode cX9_count 88 = .ok (.getfield 268, 3) := by decide +kernel
theorem dX9_count_91 : decode cX9_count 91 = .ok (.ireturn, 1) := by decide +kernel
theorem dX9_count_92 : decode cX9_count 92 = .ok (.aload_n 0, 1) := by decide +kernel
theorem dX9_count_93 : decode cX9_count 93 = .ok (.getfield 28, 3) := by decide +kernel
theorem dX9_count_96 : decode cX9_count 96 = .ok (.invokevirtual 258, 3) := by decide +kernel
theorem dX9_count_99 : decode cX9_count 99 = .ok (.ireturn, 1) := by decide +kernel
theorem dX9_count_100 : decode cX9_count 100 = .ok (.aload_n 0, 1) := by decide +kernel
theorem dX9_count_101 : decode cX9_count 101 = .ok (.getfield 28, 3) := by decide +kernel
theorem dX9_count_104 : decode cX9_count 104 = .ok (.invokevirtual 271, 3) := by decide +kernel
theorem dX9_count_107 : decode cX9_count 107 = .ok (.ireturn, 1) := by decide +kernel
theorem dX9_count_108 : decode cX9_count 108 = .ok (.aload_n 0, 1) := by decide +kernel
theorem dX9_count_109 : decode cX9_count 109 = .ok (.getfield 28, 3) := by decide +kernel
theorem dX9_count_112 : decode cX9_count 112 = .ok (.invokevirtual 255, 3) := by decide +kernel
theorem dX9_count_115 : decode cX9_count 115 = .ok (.ireturn, 1) := by decide +kernel
theorem dX9_count_116 : decode cX9_count 116 = .ok (.aload_n 0, 1) := by decide +kernel
theorem dX9_count_117 : decode cX9_count 117 = .ok (.getfield 50, 3) := by decide +kernel
theorem dX9_count_120 : decode cX9_count 120 = .ok (.getfield 224, 3) := by decide +kernel
theorem dX9_count_123 : decode cX9_count 123 = .ok (.ireturn, 1) := by decide +kernel
theorem dX9_count_124 : decode cX9_count 124 = .ok (.aload_n 0, 1) := by decide +kernel
theorem dX9_count_125 : decode cX9_count 125 = .ok (.getfield 40, 3) := by decide +kernel
theorem dX9_count_128 : decode cX9_count 128 = .ok (.getfield 177, 3) := by decide +kernel
theorem dX9_count_131 : decode cX9_count 131 = .ok (.ireturn, 1) := by decide +kernel
theorem dX9_count_132 : decode cX9_count 132 = .ok (.aload_n 0, 1) := by decide +kernel
theorem dX9_count_133 : decode cX9_count 133 = .ok (.getfield 44, 3) := by decide +kernel
theorem dX9_count_136 : decode cX9_count 136 = .ok (.getfield 177, 3) := by decide +kernel
theorem dX9_count_139 : decode cX9_count 139 = .ok (.ireturn, 1) := by decide +kernel
theorem dX9_count_140 : decode cX9_count 140 = .ok (.aload_n 0, 1) := by decide +kernel
theorem dX9_count_141 : decode cX9_count 141 = .ok (.getfield 10, 3) := by decide +kernel
theorem dX9_count_144 : decode cX9_count 144 = .ok (.getfield 89, 3) := by decide +kernel
theorem dX9_count_147 : decode cX9_count 147 = .ok (.ireturn, 1) := by decide +kernel
theorem dX9_count_148 : decode cX9_count 148 = .ok (.iconst (-1), 1) := by decide +kernel
theorem dX9_count_149 : decode cX9_count 149 = .ok (.ireturn, 1) := by decide +kernel
theorem dX9_layFirstText_0 : decode cX9_layFirstText 0 = .ok (.iconst 0, 1) := by decide +kernel
theorem dX9_layFirstText_1 : decode cX9_layFirstText 1 = .ok (.istore_n 1, 1) := by decide +kernel
theorem dX9_layFirstText_2 : decode cX9_layFirstText 2 = .ok (.iload_n 1, 1) := by decide +kernel
theorem dX9_layFirstText_3 : decode cX9_layFirstText 3 = .ok (.ldc_w 274, 3) := by decide +kernel
theorem dX9_layFirstText_6 : decode cX9_layFirstText 6 = .ok (.invokevirtual 276, 3) := by decide +kernel
theorem dX9_layFirstText_9 : decode cX9_layFirstText 9 = .ok (.if_icmp .ge 24, 3) := by decide +kernel
theorem dX9_layFirstText_12 : decode cX9_layFirstText 12 = .ok (.aload_n 0, 1) := by decide +kernel
theorem dX9_layFirstText_13 : decode cX9_layFirstText 13 = .ok (.getfield 10, 3) := by decide +kernel
theorem dX9_layFirstText_16 : decode cX9_layFirstText 16 = .ok (.ldc_w 274, 3) := by decide +kernel
theorem dX9_layFirstText_19 : decode cX9_layFirstText 19 = .ok (.iload_n 1, 1) := by decide +kernel
theorem dX9_layFirstText_20 : decode cX9_layFirstText 20 = .ok (.invokevirtual 280, 3) := by decide +kernel
theorem dX9_layFirstText_23 : decode cX9_layFirstText 23 = .ok (.invokevirtual 85, 3) := by decide +kernel
theorem dX9_layFirstText_26 : decode cX9_layFirstText 26 = .ok (.pop, 1) := by decide +kernel
theorem dX9_layFirstText_27 : decode cX9_layFirstText 27 = .ok (.iinc 1 1, 3) := by decide +kernel
theorem dX9_layFirstText_30 : decode cX9_layFirstText 30 = .ok (.goto (-28), 3) := by decide +kernel
theorem dX9_layFirstText_33 : decode cX9_layFirstText 33 = .ok (.aload_n 0, 1) := by decide +kernel
theorem dX9_layFirstText_34 : decode cX9_layFirstText 34 = .ok (.getfield 10, 3) := by decide +kernel
theorem dX9_layFirstText_37 : decode cX9_layFirstText 37 = .ok (.invokevirtual 93, 3) := by decide +kernel
theorem dX9_layFirstText_40 : decode cX9_layFirstText 40 = .ok (.pop, 1) := by decide +kernel
theorem dX9_layFirstText_41 : decode cX9_layFirstText 41 = .ok (.aload_n 0, 1) := by decide +kernel
theorem dX9_layFirstText_42 : decode cX9_layFirstText 42 = .ok (.invokevirtual 103, 3) := by decide +kernel
theorem dX9_layFirstText_45 : decode cX9_layFirstText 45 = .ok (.aload_n 0, 1) := by decide +kernel
theorem dX9_layFirstText_46 : decode cX9_layFirstText 46 = .ok (.getfield 10, 3) := by decide +kernel
theorem dX9_layFirstText_49 : decode cX9_layFirstText 49 = .ok (.iconst 0, 1) := by decide +kernel
theorem dX9_layFirstText_50 : decode cX9_layFirstText 50 = .ok (.putfield 89, 3) := by decide +kernel
theorem dX9_layFirstText_53 : decode cX9_layFirstText 53 = .ok (.return_, 1) := by decide +kernel
theorem dX9_layTold_0 : decode cX9_layTold 0 = .ok (.aload_n 0, 1) := by decide +kernel
theorem dX9_layTold_1 : decode cX9_layTold 1 = .ok (.getfield 19, 3) := by decide +kernel
theorem dX9_layTold_4 : decode cX9_layTold 4 = .ok (.aload_n 0, 1) := by decide +kernel
theorem dX9_layTold_5 : decode cX9_layTold 5 = .ok (.getfield 10, 3) := by decide +kernel
theorem dX9_layTold_8 : decode cX9_layTold 8 = .ok (.getfield 97, 3) := by decide +kernel
theorem dX9_layTold_11 : decode cX9_layTold 11 = .ok (.invokevirtual 284, 3) := by decide +kernel
theorem dX9_layTold_14 : decode cX9_layTold 14 = .ok (.aload_n 0, 1) := by decide +kernel
theorem dX9_layTold_15 : decode cX9_layTold 15 = .ok (.getfield 28, 3) := by decide +kernel
theorem dX9_layTold_18 : decode cX9_layTold 18 = .ok (.invokevirtual 286, 3) := by decide +kernel
theorem dX9_layTold_21 : decode cX9_layTold 21 = .ok (.aload_n 0, 1) := by decide +kernel
theorem dX9_layTold_22 : decode cX9_layTold 22 = .ok (.getfield 40, 3) := by decide +kernel
theorem dX9_layTold_25 : decode cX9_layTold 25 = .ok (.iconst 0, 1) := by decide +kernel
theorem dX9_layTold_26 : decode cX9_layTold 26 = .ok (.putfield 177, 3) := by decide +kernel
theorem dX9_layTold_29 : decode cX9_layTold 29 = .ok (.aload_n 0, 1) := by decide +kernel
theorem dX9_layTold_30 : decode cX9_layTold 30 = .ok (.getfield 44, 3) := by decide +kernel
theorem dX9_layTold_33 : decode cX9_layTold 33 = .ok (.iconst 0, 1) := by decide +kernel
theorem dX9_layTold_34 : decode cX9_layTold 34 = .ok (.putfield 177, 3) := by decide +kernel
theorem dX9_layTold_37 : decode cX9_layTold 37 = .ok (.aload_n 0, 1) := by decide +kernel
theorem dX9_layTold_38 : decode cX9_layTold 38 = .ok (.getfield 50, 3) := by decide +kernel
theorem dX9_layTold_41 : decode cX9_layTold 41 = .ok (.iconst 0, 1) := by decide +kernel
theorem dX9_layTold_42 : decode cX9_layTold 42 = .ok (.putfield 224, 3) := by decide +kernel
theorem dX9_layTold_45 : decode cX9_layTold 45 = .ok (.return_, 1) := by decide +kernel
theorem dX9_firstStile_0 : decode cX9_firstStile 0 = .ok (.aload_n 0, 1) := by decide +kernel
theorem dX9_firstStile_1 : decode cX9_firstStile 1 = .ok (.getfield 57, 3) := by decide +kernel
theorem dX9_firstStile_4 : decode cX9_firstStile 4 = .ok (.iload_n 1, 1) := by decide +kernel
theorem dX9_firstStile_5 : decode cX9_firstStile 5 = .ok (.iload_n 2, 1) := by decide +kernel
theorem dX9_firstStile_6 : decode cX9_firstStile 6 = .ok (.invokevirtual 189, 3) := by decide +kernel
theorem dX9_firstStile_9 : decode cX9_firstStile 9 = .ok (.istore_n 3, 1) := by decide +kernel
theorem dX9_firstStile_10 : decode cX9_firstStile 10 = .ok (.iload_n 3, 1) := by decide +kernel
theorem dX9_firstStile_11 : decode cX9_firstStile 11 = .ok (.bipush 20, 2) := by decide +kernel
theorem dX9_firstStile_13 : decode cX9_firstStile 13 = .ok (.if_icmp .ne 6, 3) := by decide +kernel
theorem dX9_firstStile_16 : decode cX9_firstStile 16 = .ok (.bipush (-4), 2) := by decide +kernel
theorem dX9_firstStile_18 : decode cX9_firstStile 18 = .ok (.ireturn, 1) := by decide +kernel
theorem dX9_firstStile_19 : decode cX9_firstStile 19 = .ok (.iconst 0, 1) := by decide +kernel
theorem dX9_firstStile_20 : decode cX9_firstStile 20 = .ok (.istore 4, 2) := by decide +kernel
theorem dX9_firstStile_22 : decode cX9_firstStile 22 = .ok (.iload 4, 2) := by decide +kernel
theorem dX9_firstStile_24 : decode cX9_firstStile 24 = .ok (.aload_n 0, 1) := by decide +kernel
theorem dX9_firstStile_25 : decode cX9_firstStile 25 = .ok (.getfield 19, 3) := by decide +kernel
theorem dX9_firstStile_28 : decode cX9_firstStile 28 = .ok (.getfield 265, 3) := by decide +kernel
theorem dX9_firstStile_31 : decode cX9_firstStile 31 = .ok (.if_icmp .ge 49, 3) := by decide +kernel
theorem dX9_firstStile_34 : decode cX9_firstStile 34 = .ok (.aload_n 0, 1) := by decide +kernel
theorem dX9_firstStile_35 : decode cX9_firstStile 35 = .ok (.getfield 28, 3) := by decide +kernel
theorem dX9_firstStile_38 : decode cX9_firstStile 38 = .ok (.iload 4, 2) := by decide +kernel
theorem dX9_firstStile_40 : decode cX9_firstStile 40 = .ok (.iload_n 1, 1) := by decide +kernel
theorem dX9_firstStile_41 : decode cX9_firstStile 41 = .ok (.invokevirtual 154, 3) := by decide +kernel
theorem dX9_firstStile_44 : decode cX9_firstStile 44 = .ok (.ifCond .eq 30, 3) := by decide +kernel
theorem dX9_firstStile_47 : decode cX9_firstStile 47 = .ok (.aload_n 0, 1) := by decide +kernel
theorem dX9_firstStile_48 : decode cX9_firstStile 48 = .ok (.getfield 57, 3) := by decide +kernel
theorem dX9_firstStile_51 : decode cX9_firstStile 51 = .ok (.aload_n 0, 1) := by decide +kernel
theorem dX9_firstStile_52 : decode cX9_firstStile 52 = .ok (.getfield 19, 3) := by decide +kernel
theorem dX9_firstStile_55 : decode cX9_firstStile 55 = .ok (.iload 4, 2) := by decide +kernel
theorem dX9_firstStile_57 : decode cX9_firstStile 57 = .ok (.iload_n 1, 1) := by decide +kernel
theorem dX9_firstStile_58 : decode cX9_firstStile 58 = .ok (.invokevirtual 289, 3) := by decide +kernel
theorem dX9_firstStile_61 : decode cX9_firstStile 61 = .ok (.iload_n 2, 1) := by decide +kernel
theorem dX9_firstStile_62 : decode cX9_firstStile 62 = .ok (.invokevirtual 189, 3) := by decide +kernel
theorem dX9_firstStile_65 : decode cX9_firstStile 65 = .ok (.iload_n 3, 1) := by decide +kernel
theorem dX9_firstStile_66 : decode cX9_firstStile 66 = .ok (.iconst 1, 1) := by decide +kernel
theorem dX9_firstStile_67 : decode cX9_firstStile 67 = .ok (.isub, 1) := by decide +kernel
theorem dX9_firstStile_68 : decode cX9_firstStile 68 = .ok (.if_icmp .ne 6, 3) := by decide +kernel
theorem dX9_firstStile_71 : decode cX9_firstStile 71 = .ok (.iload 4, 2) := by decide +kernel
theorem dX9_firstStile_73 : decode cX9_firstStile 73 = .ok (.ireturn, 1) := by decide +kernel
theorem dX9_firstStile_74 : decode cX9_firstStile 74 = .ok (.iinc 4 1, 3) := by decide +kernel
theorem dX9_firstStile_77 : decode cX9_firstStile 77 = .ok (.goto (-55), 3) := by decide +kernel
theorem dX9_firstStile_80 : decode cX9_firstStile 80 = .ok (.bipush (-4), 2) := by decide +kernel
theorem dX9_firstStile_82 : decode cX9_firstStile 82 = .ok (.ireturn, 1) := by decide +kernel
theorem dX9_bestNewPair_0 : decode cX9_bestNewPair 0 = .ok (.bipush (-4), 2) := by decide +kernel
theorem dX9_bestNewPair_2 : decode cX9_bestNewPair 2 = .ok (.istore_n 1, 1) := by decide +kernel
theorem dX9_bestNewPair_3 : decode cX9_bestNewPair 3 = .ok (.iconst 0, 1) := by decide +kernel
theorem dX9_bestNewPair_4 : decode cX9_bestNewPair 4 = .ok (.istore_n 2, 1) := by decide +kernel
theorem dX9_bestNewPair_5 : decode cX9_bestNewPair 5 = .ok (.iconst 0, 1) := by decide +kernel
theorem dX9_bestNewPair_6 : decode cX9_bestNewPair 6 = .ok (.istore_n 3, 1) := by decide +kernel
theorem dX9_bestNewPair_7 : decode cX9_bestNewPair 7 = .ok (.iload_n 3, 1) := by decide +kernel
theorem dX9_bestNewPair_8 : decode cX9_bestNewPair 8 = .ok (.aload_n 0, 1) := by decide +kernel
theorem dX9_bestNewPair_9 : decode cX9_bestNewPair 9 = .ok (.getfield 19, 3) := by decide +kernel
theorem dX9_bestNewPair_12 : decode cX9_bestNewPair 12 = .ok (.getfield 106, 3) := by decide +kernel
theorem dX9_bestNewPair_15 : decode cX9_bestNewPair 15 = .ok (.if_icmp .ge 83, 3) := by decide +kernel
theorem dX9_bestNewPair_18 : decode cX9_bestNewPair 18 = .ok (.iload_n 3, 1) := by decide +kernel
theorem dX9_bestNewPair_19 : decode cX9_bestNewPair 19 = .ok (.iconst 1, 1) := by decide +kernel
theorem dX9_bestNewPair_20 : decode cX9_bestNewPair 20 = .ok (.iadd, 1) := by decide +kernel
theorem dX9_bestNewPair_21 : decode cX9_bestNewPair 21 = .ok (.istore 4, 2) := by decide +kernel
theorem dX9_bestNewPair_23 : decode cX9_bestNewPair 23 = .ok (.iload 4, 2) := by decide +kernel
theorem dX9_bestNewPair_25 : decode cX9_bestNewPair 25 = .ok (.aload_n 0, 1) := by decide +kernel
theorem dX9_bestNewPair_26 : decode cX9_bestNewPair 26 = .ok (.getfield 19, 3) := by decide +kernel
theorem dX9_bestNewPair_29 : decode cX9_bestNewPair 29 = .ok (.getfield 106, 3) := by decide +kernel
theorem dX9_bestNewPair_32 : decode cX9_bestNewPair 32 = .ok (.if_icmp .ge 60, 3) := by decide +kernel
theorem dX9_bestNewPair_35 : decode cX9_bestNewPair 35 = .ok (.aload_n 0, 1) := by decide +kernel
theorem dX9_bestNewPair_36 : decode cX9_bestNewPair 36 = .ok (.getfield 19, 3) := by decide +kernel
theorem dX9_bestNewPair_39 : decode cX9_bestNewPair 39 = .ok (.iload_n 3, 1) := by decide +kernel
theorem dX9_bestNewPair_40 : decode cX9_bestNewPair 40 = .ok (.iload 4, 2) := by decide +kernel
theorem dX9_bestNewPair_42 : decode cX9_bestNewPair 42 = .ok (.invokevirtual 292, 3) := by decide +kernel
theorem dX9_bestNewPair_45 : decode cX9_bestNewPair 45 = .ok (.ifCond .eq 6, 3) := by decide +kernel
theorem dX9_bestNewPair_48 : decode cX9_bestNewPair 48 = .ok (.goto 38, 3) := by decide +kernel
theorem dX9_bestNewPair_51 : decode cX9_bestNewPair 51 = .ok (.aload_n 0, 1) := by decide +kernel
theorem dX9_bestNewPair_52 : decode cX9_bestNewPair 52 = .ok (.getfield 57, 3) := by decide +kernel
theorem dX9_bestNewPair_55 : decode cX9_bestNewPair 55 = .ok (.iload_n 3, 1) := by decide +kernel
theorem dX9_bestNewPair_56 : decode cX9_bestNewPair 56 = .ok (.iload 4, 2) := by decide +kernel
theorem dX9_bestNewPair_58 : decode cX9_bestNewPair 58 = .ok (.invokevirtual 212, 3) := by decide +kernel
theorem dX9_bestNewPair_61 : decode cX9_bestNewPair 61 = .ok (.istore 5, 2) := by decide +kernel
theorem dX9_bestNewPair_63 : decode cX9_bestNewPair 63 = .ok (.iload_n 1, 1) := by decide +kernel
theorem dX9_bestNewPair_64 : decode cX9_bestNewPair 64 = .ok (.bipush (-4), 2) := by decide +kernel
theorem dX9_bestNewPair_66 : decode cX9_bestNewPair 66 = .ok (.if_icmp .eq 9, 3) := by decide +kernel
theorem dX9_bestNewPair_69 : decode cX9_bestNewPair 69 = .ok (.iload 5, 2) := by decide +kernel
theorem dX9_bestNewPair_71 : decode cX9_bestNewPair 71 = .ok (.iload_n 2, 1) := by decide +kernel
theorem dX9_bestNewPair_72 : decode cX9_bestNewPair 72 = .ok (.if_icmp .ge 14, 3) := by decide +kernel
theorem dX9_bestNewPair_75 : decode cX9_bestNewPair 75 = .ok (.bipush 10, 2) := by decide +kernel
theorem dX9_bestNewPair_77 : decode cX9_bestNewPair 77 = .ok (.iload_n 3, 1) := by decide +kernel
theorem dX9_bestNewPair_78 : decode cX9_bestNewPair 78 = .ok (.imul, 1) := by decide +kernel
theorem dX9_bestNewPair_79 : decode cX9_bestNewPair 79 = .ok (.iload 4, 2) := by decide +kernel
theorem dX9_bestNewPair_81 : decode cX9_bestNewPair 81 = .ok (.iadd, 1) := by decide +kernel
theorem dX9_bestNewPair_82 : decode cX9_bestNewPair 82 = .ok (.istore_n 1, 1) := by decide +kernel
theorem dX9_bestNewPair_83 : decode cX9_bestNewPair 83 = .ok (.iload 5, 2) := by decide +kernel
theorem dX9_bestNewPair_85 : decode cX9_bestNewPair 85 = .ok (.istore_n 2, 1) := by decide +kernel
theorem dX9_bestNewPair_86 : decode cX9_bestNewPair 86 = .ok (.iinc 4 1, 3) := by decide +kernel
theorem dX9_bestNewPair_89 : decode cX9_bestNewPair 89 = .ok (.goto (-66), 3) := by decide +kernel
theorem dX9_bestNewPair_92 : decode cX9_bestNewPair 92 = .ok (.iinc 3 1, 3) := by decide +kernel
theorem dX9_bestNewPair_95 : decode cX9_bestNewPair 95 = .ok (.goto (-88), 3) := by decide +kernel
theorem dX9_bestNewPair_98 : decode cX9_bestNewPair 98 = .ok (.iload_n 1, 1) := by decide +kernel
theorem dX9_bestNewPair_99 : decode cX9_bestNewPair 99 = .ok (.ireturn, 1) := by decide +kernel
theorem dX9_drawOf_0 : decode cX9_drawOf 0 = .ok (.ldc2_w 295, 3) := by decide +kernel
theorem dX9_drawOf_3 : decode cX9_drawOf 3 = .ok (.iload_n 1, 1) := by decide +kernel
theorem dX9_drawOf_4 : decode cX9_drawOf 4 = .ok (.i2l, 1) := by decide +kernel
theorem dX9_drawOf_5 : decode cX9_drawOf 5 = .ok (.lmul, 1) := by decide +kernel
theorem dX9_drawOf_6 : decode cX9_drawOf 6 = .ok (.ldc2_w 297, 3) := by decide +kernel
theorem dX9_drawOf_9 : decode cX9_drawOf 9 = .ok (.iload_n 2, 1) := by decide +kernel
theorem dX9_drawOf_10 : decode cX9_drawOf 10 = .ok (.i2l, 1) := by decide +kernel
theorem dX9_drawOf_11 : decode cX9_drawOf 11 = .ok (.lmul, 1) := by decide +kernel
theorem dX9_drawOf_12 : decode cX9_drawOf 12 = .ok (.ladd, 1) := by decide +kernel
theorem dX9_drawOf_13 : decode cX9_drawOf 13 = .ok (.lconst 1, 1) := by decide +kernel
theorem dX9_drawOf_14 : decode cX9_drawOf 14 = .ok (.ladd, 1) := by decide +kernel
theorem dX9_drawOf_15 : decode cX9_drawOf 15 = .ok (.lstore_n 3, 1) := by decide +kernel
theorem dX9_drawOf_16 : decode cX9_drawOf 16 = .ok (.lload_n 3, 1) := by decide +kernel
theorem dX9_drawOf_17 : decode cX9_drawOf 17 = .ok (.lload_n 3, 1) := by decide +kernel
theorem dX9_drawOf_18 : decode cX9_drawOf 18 = .ok (.lmul, 1) := by decide +kernel
theorem dX9_drawOf_19 : decode cX9_drawOf 19 = .ok (.ldc2_w 299, 3) := by decide +kernel
theorem dX9_drawOf_22 : decode cX9_drawOf 22 = .ok (.lrem, 1) := by decide +kernel
theorem dX9_drawOf_23 : decode cX9_drawOf 23 = .ok (.l2i, 1) := by decide +kernel
theorem dX9_drawOf_24 : decode cX9_drawOf 24 = .ok (.ireturn, 1) := by decide +kernel
theorem dX9_dreamTread_0 : decode cX9_dreamTread 0 = .ok (.aload_n 0, 1) := by decide +kernel
theorem dX9_dreamTread_1 : decode cX9_dreamTread 1 = .ok (.getfield 19, 3) := by decide +kernel
theorem dX9_dreamTread_4 : decode cX9_dreamTread 4 = .ok (.getfield 100, 3) := by decide +kernel
theorem dX9_dreamTread_7 : decode cX9_dreamTread 7 = .ok (.iconst 1, 1) := by decide +kernel
theorem dX9_dreamTread_8 : decode cX9_dreamTread 8 = .ok (.if_icmp .ge 4, 3) := by decide +kernel
theorem dX9_dreamTread_11 : decode cX9_dreamTread 11 = .ok (.return_, 1) := by decide +kernel
theorem dX9_dreamTread_12 : decode cX9_dreamTread 12 = .ok (.iload_n 1, 1) := by decide +kernel
theorem dX9_dreamTread_13 : decode cX9_dreamTread 13 = .ok (.aload_n 0, 1) := by decide +kernel
theorem dX9_dreamTread_14 : decode cX9_dreamTread 14 = .ok (.getfield 19, 3) := by decide +kernel
theorem dX9_dreamTread_17 : decode cX9_dreamTread 17 = .ok (.getfield 100, 3) := by decide +kernel
theorem dX9_dreamTread_20 : decode cX9_dreamTread 20 = .ok (.irem, 1) := by decide +kernel
theorem dX9_dreamTread_21 : decode cX9_dreamTread 21 = .ok (.istore_n 2, 1) := by decide +kernel
theorem dX9_dreamTread_22 : decode cX9_dreamTread 22 = .ok (.aload_n 0, 1) := by decide +kernel
theorem dX9_dreamTread_23 : decode cX9_dreamTread 23 = .ok (.getfield 32, 3) := by decide +kernel
theorem dX9_dreamTread_26 : decode cX9_dreamTread 26 = .ok (.getfield 135, 3) := by decide +kernel
theorem dX9_dreamTread_29 : decode cX9_dreamTread 29 = .ok (.iload_n 2, 1) := by decide +kernel
theorem dX9_dreamTread_30 : decode cX9_dreamTread 30 = .ok (.iaload, 1) := by decide +kernel
theorem dX9_dreamTread_31 : decode cX9_dreamTread 31 = .ok (.istore_n 3, 1) := by decide +kernel
theorem dX9_dreamTread_32 : decode cX9_dreamTread 32 = .ok (.aload_n 0, 1) := by decide +kernel
theorem dX9_dreamTread_33 : decode cX9_dreamTread 33 = .ok (.getfield 32, 3) := by decide +kernel
theorem dX9_dreamTread_36 : decode cX9_dreamTread 36 = .ok (.iload_n 3, 1) := by decide +kernel
theorem dX9_dreamTread_37 : decode cX9_dreamTread 37 = .ok (.invokevirtual 301, 3) := by decide +kernel
theorem dX9_dreamTread_40 : decode cX9_dreamTread 40 = .ok (.istore 4, 2) := by decide +kernel
theorem dX9_dreamTread_42 : decode cX9_dreamTread 42 = .ok (.iload 4, 2) := by decide +kernel
theorem dX9_dreamTread_44 : decode cX9_dreamTread 44 = .ok (.ifCond .le 26, 3) := by decide +kernel
theorem dX9_dreamTread_47 : decode cX9_dreamTread 47 = .ok (.aload_n 0, 1) := by decide +kernel
theorem dX9_dreamTread_48 : decode cX9_dreamTread 48 = .ok (.getfield 32, 3) := by decide +kernel
theorem dX9_dreamTread_51 : decode cX9_dreamTread 51 = .ok (.iload_n 2, 1) := by decide +kernel
theorem dX9_dreamTread_52 : decode cX9_dreamTread 52 = .ok (.aload_n 0, 1) := by decide +kernel
theorem dX9_dreamTread_53 : decode cX9_dreamTread 53 = .ok (.getfield 32, 3) := by decide +kernel
theorem dX9_dreamTread_56 : decode cX9_dreamTread 56 = .ok (.iload_n 3, 1) := by decide +kernel
theorem dX9_dreamTread_57 : decode cX9_dreamTread 57 = .ok (.iload_n 1, 1) := by decide +kernel
theorem dX9_dreamTread_58 : decode cX9_dreamTread 58 = .ok (.iconst 4, 1) := by decide +kernel
theorem dX9_dreamTread_59 : decode cX9_dreamTread 59 = .ok (.idiv, 1) := by decide +kernel
theorem dX9_dreamTread_60 : decode cX9_dreamTread 60 = .ok (.iload 4, 2) := by decide +kernel
theorem dX9_dreamTread_62 : decode cX9_dreamTread 62 = .ok (.irem, 1) := by decide +kernel
theorem dX9_dreamTread_63 : decode cX9_dreamTread 63 = .ok (.invokevirtual 304, 3) := by decide +kernel
theorem dX9_dreamTread_66 : decode cX9_dreamTread 66 = .ok (.invokevirtual 162, 3) := by decide +kernel
theorem dX9_dreamTread_69 : decode cX9_dreamTread 69 = .ok (.return_, 1) := by decide +kernel
theorem dX9_dreamTread_70 : decode cX9_dreamTread 70 = .ok (.aload_n 0, 1) := by decide +kernel
theorem dX9_dreamTread_71 : decode cX9_dreamTread 71 = .ok (.getfield 19, 3) := by decide +kernel
theorem dX9_dreamTread_74 : decode cX9_dreamTread 74 = .ok (.iload_n 3, 1) := by decide +kernel
theorem dX9_dreamTread_75 : decode cX9_dreamTread 75 = .ok (.invokevirtual 307, 3) := by decide +kernel
theorem dX9_dreamTread_78 : decode cX9_dreamTread 78 = .ok (.istore 5, 2) := by decide +kernel
theorem dX9_dreamTread_80 : decode cX9_dreamTread 80 = .ok (.iload 5, 2) := by decide +kernel
theorem dX9_dreamTread_82 : decode cX9_dreamTread 82 = .ok (.bipush (-4), 2) := by decide +kernel
theorem dX9_dreamTread_84 : decode cX9_dreamTread 84 = .ok (.if_icmp .eq 12, 3) := by decide +kernel
theorem dX9_dreamTread_87 : decode cX9_dreamTread 87 = .ok (.aload_n 0, 1) := by decide +kernel
theorem dX9_dreamTread_88 : decode cX9_dreamTread 88 = .ok (.getfield 32, 3) := by decide +kernel
theorem dX9_dreamTread_91 : decode cX9_dreamTread 91 = .ok (.iload 5, 2) := by decide +kernel
theorem dX9_dreamTread_93 : decode cX9_dreamTread 93 = .ok (.invokevirtual 166, 3) := by decide +kernel
theorem dX9_dreamTread_96 : decode cX9_dreamTread 96 = .ok (.return_, 1) := by decide +kernel
theorem dX10_init_0 : decode cX10_init 0 = .ok (.aload_n 0, 1) := by decide +kernel
theorem dX10_init_1 : decode cX10_init 1 = .ok (.invokespecial 1, 3) := by decide +kernel
theorem dX10_init_4 : decode cX10_init 4 = .ok (.aload_n 0, 1) := by decide +kernel
theorem dX10_init_5 : decode cX10_init 5 = .ok (.sipush 696, 3) := by decide +kernel
theorem dX10_init_8 : decode cX10_init 8 = .ok (.newarray .int, 2) := by decide +kernel
theorem dX10_init_10 : decode cX10_init 10 = .ok (.putfield 7, 3) := by decide +kernel
theorem dX10_init_13 : decode cX10_init 13 = .ok (.aload_n 0, 1) := by decide +kernel
theorem dX10_init_14 : decode cX10_init 14 = .ok (.bipush 9, 2) := by decide +kernel
theorem dX10_init_16 : decode cX10_init 16 = .ok (.newarray .int, 2) := by decide +kernel
theorem dX10_init_18 : decode cX10_init 18 = .ok (.putfield 13, 3) := by decide +kernel
theorem dX10_init_21 : decode cX10_init 21 = .ok (.aload_n 0, 1) := by decide +kernel
theorem dX10_init_22 : decode cX10_init 22 = .ok (.bipush 9, 2) := by decide +kernel
theorem dX10_init_24 : decode cX10_init 24 = .ok (.newarray .int, 2) := by decide +kernel
theorem dX10_init_26 : decode cX10_init 26 = .ok (.putfield 16, 3) := by decide +kernel
theorem dX10_init_29 : decode cX10_init 29 = .ok (.aload_n 0, 1) := by decide +kernel
theorem dX10_init_30 : decode cX10_init 30 = .ok (.bipush 9, 2) := by decide +kernel
theorem dX10_init_32 : decode cX10_init 32 = .ok (.newarray .int, 2) := by decide +kernel
theorem dX10_init_34 : decode cX10_init 34 = .ok (.putfield 19, 3) := by decide +kernel
theorem dX10_init_37 : decode cX10_init 37 = .ok (.aload_n 0, 1) := by decide +kernel
theorem dX10_init_38 : decode cX10_init 38 = .ok (.iconst 4, 1) := by decide +kernel
theorem dX10_init_39 : decode cX10_init 39 = .ok (.newarray .int, 2) := by decide +kernel
theorem dX10_init_41 : decode cX10_init 41 = .ok (.putfield 22, 3) := by decide +kernel
theorem dX10_init_44 : decode cX10_init 44 = .ok (.aload_n 0, 1) := by decide +kernel
theorem dX10_init_45 : decode cX10_init 45 = .ok (.iconst 4, 1) := by decide +kernel
theorem dX10_init_46 : decode cX10_init 46 = .ok (.newarray .int, 2) := by decide +kernel
theorem dX10_init_48 : decode cX10_init 48 = .ok (.putfield 25, 3) := by decide +kernel
theorem dX10_init_51 : decode cX10_init 51 = .ok (.aload_n 0, 1) := by decide +kernel
theorem dX10_init_52 : decode cX10_init 52 = .ok (.bipush 6, 2) := by decide +kernel
theorem dX10_init_54 : decode cX10_init 54 = .ok (.newarray .int, 2) := by decide +kernel
theorem dX10_init_56 : decode cX10_init 56 = .ok (.putfield 28, 3) := by decide +kernel
theorem dX10_init_59 : decode cX10_init 59 = .ok (.aload_n 0, 1) := by decide +kernel
theorem dX10_init_60 : decode cX10_init 60 = .ok (.bipush 6, 2) := by decide +kernel
theorem dX10_init_62 : decode cX10_init 62 = .ok (.newarray .int, 2) := by decide +kernel
theorem dX10_init_64 : decode cX10_init 64 = .ok (.putfield 31, 3) := by decide +kernel
theorem dX10_init_67 : decode cX10_init 67 = .ok (.aload_n 0, 1) := by decide +kernel
theorem dX10_init_68 : decode cX10_init 68 = .ok (.sipush 200, 3) := by decide +kernel
theorem dX10_init_71 : decode cX10_init 71 = .ok (.newarray .int, 2) := by decide +kernel
theorem dX10_init_73 : decode cX10_init 73 = .ok (.putfield 34, 3) := by decide +kernel
theorem dX10_init_76 : decode cX10_init 76 = .ok (.aload_n 0, 1) := by decide +kernel
theorem dX10_init_77 : decode cX10_init 77 = .ok (.bipush 27, 2) := by decide +kernel
theorem dX10_init_79 : decode cX10_init 79 = .ok (.newarray .int, 2) := by decide +kernel
theorem dX10_init_81 : decode cX10_init 81 = .ok (.putfield 37, 3) := by decide +kernel
theorem dX10_init_84 : decode cX10_init 84 = .ok (.aload_n 0, 1) := by decide +kernel
theorem dX10_init_85 : decode cX10_init 85 = .ok (.bipush 12, 2) := by decide +kernel
theorem dX10_init_87 : decode cX10_init 87 = .ok (.newarray .int, 2) := by decide +kernel
theorem dX10_init_89 : decode cX10_init 89 = .ok (.putfield 40, 3) := by decide +kernel
theorem dX10_init_92 : decode cX10_init 92 = .ok (.aload_n 0, 1) := by decide +kernel
theorem dX10_init_93 : decode cX10_init 93 = .ok (.bipush 64, 2) := by decide +kernel
theorem dX10_init_95 : decode cX10_init 95 = .ok (.newarray .int, 2) := by decide +kernel
theorem dX10_init_97 : decode cX10_init 97 = .ok (.putfield 43, 3) := by decide +kernel
theorem dX10_init_100 : decode cX10_init 100 = .ok (.aload_n 0, 1) := by decide +kernel
theorem dX10_init_101 : decode cX10_init 101 = .ok (.bipush 8, 2) := by decide +kernel
theorem dX10_init_103 : decode cX10_init 103 = .ok (.newarray .int, 2) := by decide +kernel
theorem dX10_init_105 : decode cX10_init 105 = .ok (.putfield 46, 3) := by decide +kernel
theorem dX10_init_108 : decode cX10_init 108 = .ok (.aload_n 0, 1) := by decide +kernel
theorem dX10_init_109 : decode cX10_init 109 = .ok (.bipush 6, 2) := by decide +kernel
theorem dX10_init_111 : decode cX10_init 111 = .ok (.putfield 49, 3) := by decide +kernel
theorem dX10_init_114 : decode cX10_init 114 = .ok (.aload_n 0, 1) := by decide +kernel
theorem dX10_init_115 : decode cX10_init 115 = .ok (.iconst 0, 1) := by decide +kernel
theorem dX10_init_116 : decode cX10_init 116 = .ok (.iconst 0, 1) := by decide +kernel
theorem dX10_init_117 : decode cX10_init 117 = .ok (.iconst 1, 1) := by decide +kernel
theorem dX10_init_118 : decode cX10_init 118 = .ok (.invokevirtual 53, 3) := by decide +kernel
theorem dX10_init_121 : decode cX10_init 121 = .ok (.aload_n 0, 1) := by decide +kernel
theorem dX10_init_122 : decode cX10_init 122 = .ok (.iconst 1, 1) := by decide +kernel
theorem dX10_init_123 : decode cX10_init 123 = .ok (.iconst 1, 1) := by decide +kernel
theorem dX10_init_124 : decode cX10_init 124 = .ok (.iconst 2, 1) := by decide +kernel
theorem dX10_init_125 : decode cX10_init 125 = .ok (.invokevirtual 53, 3) := by decide +kernel
theorem dX10_init_128 : decode cX10_init 128 = .ok (.aload_n 0, 1) := by decide +kernel
theorem dX10_init_129 : decode cX10_init 129 = .ok (.iconst 0, 1) := by decide +kernel
theorem dX10_init_130 : decode cX10_init 130 = .ok (.iconst 2, 1) := by decide +kernel
theorem dX10_init_131 : decode cX10_init 131 = .ok (.iconst 3, 1) := by decide +kernel
theorem dX10_init_132 : decode cX10_init 132 = .ok (.invokevirtual 53, 3) := by decide +kernel
theorem dX10_init_135 : decode cX10_init 135 = .ok (.aload_n 0, 1) := by decide +kernel
theorem dX10_init_136 : decode cX10_init 136 = .ok (.iconst 2, 1) := by decide +kernel
theorem dX10_init_137 : decode cX10_init 137 = .ok (.iconst 3, 1) := by decide +kernel
theorem dX10_init_138 : decode cX10_init 138 = .ok (.iconst 0, 1) := by decide +kernel
theorem dX10_init_139 : decode cX10_init 139 = .ok (.invokevirtual 53, 3) := by decide +kernel
theorem dX10_init_142 : decode cX10_init 142 = .ok (.aload_n 0, 1) := by decide +kernel
theorem dX10_init_143 : decode cX10_init 143 = .ok (.iconst 1, 1) := by decide +kernel
theorem dX10_init_144 : decode cX10_init 144 = .ok (.iconst 1, 1) := by decide +kernel
theorem dX10_init_145 : decode cX10_init 145 = .ok (.iconst 4, 1) := by decide +kernel
theorem dX10_init_146 : decode cX10_init 146 = .ok (.invokevirtual 53, 3) := by decide +kernel
theorem dX10_init_149 : decode cX10_init 149 = .ok (.aload_n 0, 1) := by decide +kernel
theorem dX10_init_150 : decode cX10_init 150 = .ok (.iconst 3, 1) := by decide +kernel
theorem dX10_init_151 : decode cX10_init 151 = .ok (.iconst 4, 1) := by decide +kernel
theorem dX10_init_152 : decode cX10_init 152 = .ok (.iconst 5, 1) := by decide +kernel
theorem dX10_init_153 : decode cX10_init 153 = .ok (.invokevirtual 53, 3) := by decide +kernel
theorem dX10_init_156 : decode cX10_init 156 = .ok (.aload_n 0, 1) := by decide +kernel
theorem dX10_init_157 : decode cX10_init 157 = .ok (.iconst 0, 1) := by decide +kernel
theorem dX10_init_158 : decode cX10_init 158 = .ok (.iconst 5, 1) := by decide +kernel
theorem dX10_init_159 : decode cX10_init 159 = .ok (.iconst 2, 1) := by decide +kernel
theorem dX10_init_160 : decode cX10_init 160 = .ok (.invokevirtual 53, 3) := by decide +kernel
theorem dX10_init_163 : decode cX10_init 163 = .ok (.aload_n 0, 1) := by decide +kernel
theorem dX10_init_164 : decode cX10_init 164 = .ok (.iconst 0, 1) := by decide +kernel
theorem dX10_init_165 : decode cX10_init 165 = .ok (.iconst 0, 1) := by decide +kernel
theorem dX10_init_166 : decode cX10_init 166 = .ok (.iconst 3, 1) := by decide +kernel
theorem dX10_init_167 : decode cX10_init 167 = .ok (.invokevirtual 57, 3) := by decide +kernel
theorem dX10_init_170 : decode cX10_init 170 = .ok (.aload_n 0, 1) := by decide +kernel
theorem dX10_init_171 : decode cX10_init 171 = .ok (.iconst 1, 1) := by decide +kernel
theorem dX10_init_172 : decode cX10_init 172 = .ok (.iconst 2, 1) := by decide +kernel
theorem dX10_init_173 : decode cX10_init 173 = .ok (.iconst 4, 1) := by decide +kernel
theorem dX10_init_174 : decode cX10_init 174 = .ok (.invokevirtual 57, 3) := by decide +kernel
theorem dX10_init_177 : decode cX10_init 177 = .ok (.aload_n 0, 1) := by decide +kernel
theorem dX10_init_178 : decode cX10_init 178 = .ok (.iconst 2, 1) := by decide +kernel
theorem dX10_init_179 : decode cX10_init 179 = .ok (.iconst 4, 1) := by decide +kernel
theorem dX10_init_180 : decode cX10_init 180 = .ok (.iconst 2, 1) := by decide +kernel
theorem dX10_init_181 : decode cX10_init 181 = .ok (.invokevirtual 57, 3) := by decide +kernel
theorem dX10_init_184 : decode cX10_init 184 = .ok (.aload_n 0, 1) := by decide +kernel
theorem dX10_init_185 : decode cX10_init 185 = .ok (.iconst 3, 1) := by decide +kernel
theorem dX10_init_186 : decode cX10_init 186 = .ok (.iconst 5, 1) := by decide +kernel
theorem dX10_init_187 : decode cX10_init 187 = .ok (.iconst 5, 1) := by decide +kernel
theorem dX10_init_188 : decode cX10_init 188 = .ok (.invokevirtual 57, 3) := by decide +kernel
theorem dX10_init_191 : decode cX10_init 191 = .ok (.aload_n 0, 1) := by decide +kernel
theorem dX10_init_192 : decode cX10_init 192 = .ok (.bipush 30, 2) := by decide +kernel
theorem dX10_init_194 : decode cX10_init 194 = .ok (.putfield 60, 3) := by decide +kernel
theorem dX10_init_197 : decode cX10_init 197 = .ok (.aload_n 0, 1) := by decide +kernel
theorem dX10_init_198 : decode cX10_init 198 = .ok (.invokevirtual 63, 3) := by decide +kernel
theorem dX10_init_201 : decode cX10_init 201 = .ok (.return_, 1) := by decide +kernel
theorem dX10_in_0 : decode cX10_in 0 = .ok (.lload_n 0, 1) := by decide +kernel
theorem dX10_in_1 : decode cX10_in 1 = .ok (.lload_n 2, 1) := by decide +kernel
theorem dX10_in_2 : decode cX10_in 2 = .ok (.lcmp, 1) := by decide +kernel
theorem dX10_in_3 : decode cX10_in 3 = .ok (.ifCond .lt 14, 3) := by decide +kernel
theorem dX10_in_6 : decode cX10_in 6 = .ok (.lload_n 0, 1) := by decide +kernel
theorem dX10_in_7 : decode cX10_in 7 = .ok (.lload 4, 2) := by decide +kernel
theorem dX10_in_9 : decode cX10_in 9 = .ok (.lcmp, 1) := by decide +kernel
theorem dX10_in_10 : decode cX10_in 10 = .ok (.ifCond .gt 7, 3) := by decide +kernel
theorem dX10_in_13 : decode cX10_in 13 = .ok (.iconst 1, 1) := by decide +kernel
theorem dX10_in_14 : decode cX10_in 14 = .ok (.goto 4, 3) := by decide +kernel
theorem dX10_in_17 : decode cX10_in 17 = .ok (.iconst 0, 1) := by decide +kernel
theorem dX10_in_18 : decode cX10_in 18 = .ok (.ireturn, 1) := by decide +kernel
theorem dX10_has_0 : decode cX10_has 0 = .ok (.iload_n 0, 1) := by decide +kernel
theorem dX10_has_1 : decode cX10_has 1 = .ok (.iload_n 1, 1) := by decide +kernel
theorem dX10_has_2 : decode cX10_has 2 = .ok (.ishr, 1) := by decide +kernel
theorem dX10_has_3 : decode cX10_has 3 = .ok (.iconst 1, 1) := by decide +kernel
theorem dX10_has_4 : decode cX10_has 4 = .ok (.iand, 1) := by decide +kernel
theorem dX10_has_5 : decode cX10_has 5 = .ok (.iconst 1, 1) := by decide +kernel
theorem dX10_has_6 : decode cX10_has 6 = .ok (.if_icmp .ne 7, 3) := by decide +kernel
theorem dX10_has_9 : decode cX10_has 9 = .ok (.iconst 1, 1) := by decide +kernel
theorem dX10_has_10 : decode cX10_has 10 = .ok (.goto 4, 3) := by decide +kernel
theorem dX10_has_13 : decode cX10_has 13 = .ok (.iconst 0, 1) := by decide +kernel
theorem dX10_has_14 : decode cX10_has 14 = .ok (.ireturn, 1) := by decide +kernel
theorem dX10_ones_0 : decode cX10_ones 0 = .ok (.iconst 0, 1) := by decide +kernel
theorem dX10_ones_1 : decode cX10_ones 1 = .ok (.istore_n 1, 1) := by decide +kernel
theorem dX10_ones_2 : decode cX10_ones 2 = .ok (.iconst 0, 1) := by decide +kernel
theorem dX10_ones_3 : decode cX10_ones 3 = .ok (.istore_n 2, 1) := by decide +kernel
theorem dX10_ones_4 : decode cX10_ones 4 = .ok (.iload_n 2, 1) := by decide +kernel
theorem dX10_ones_5 : decode cX10_ones 5 = .ok (.bipush 9, 2) := by decide +kernel
theorem dX10_ones_7 : decode cX10_ones 7 = .ok (.if_icmp .ge 17, 3) := by decide +kernel
theorem dX10_ones_10 : decode cX10_ones 10 = .ok (.iload_n 1, 1) := by decide +kernel
theorem dX10_ones_11 : decode cX10_ones 11 = .ok (.iload_n 0, 1) := by decide +kernel
theorem dX10_ones_12 : decode cX10_ones 12 = .ok (.iload_n 2, 1) := by decide +kernel
theorem dX10_ones_13 : decode cX10_ones 13 = .ok (.ishr, 1) := by decide +kernel
theorem dX10_ones_14 : decode cX10_ones 14 = .ok (.iconst 1, 1) := by decide +kernel
theorem dX10_ones_15 : decode cX10_ones 15 = .ok (.iand, 1) := by decide +kernel
theorem dX10_ones_16 : decode cX10_ones 16 = .ok (.iadd, 1) := by decide +kernel
theorem dX10_ones_17 : decode cX10_ones 17 = .ok (.istore_n 1, 1) := by decide +kernel
theorem dX10_ones_18 : decode cX10_ones 18 = .ok (.iinc 2 1, 3) := by decide +kernel
theorem dX10_ones_21 : decode cX10_ones 21 = .ok (.goto (-17), 3) := by decide +kernel
theorem dX10_ones_24 : decode cX10_ones 24 = .ok (.iload_n 1, 1) := by decide +kernel
theorem dX10_ones_25 : decode cX10_ones 25 = .ok (.ireturn, 1) := by decide +kernel
theorem dX10_copy_0 : decode cX10_copy 0 = .ok (.iconst 0, 1) := by decide +kernel
theorem dX10_copy_1 : decode cX10_copy 1 = .ok (.istore_n 3, 1) := by decide +kernel
theorem dX10_copy_2 : decode cX10_copy 2 = .ok (.iload_n 3, 1) := by decide +kernel
theorem dX10_copy_3 : decode cX10_copy 3 = .ok (.bipush 58, 2) := by decide +kernel
theorem dX10_copy_5 : decode cX10_copy 5 = .ok (.if_icmp .ge 25, 3) := by decide +kernel
theorem dX10_copy_8 : decode cX10_copy 8 = .ok (.aload_n 0, 1) := by decide +kernel
theorem dX10_copy_9 : decode cX10_copy 9 = .ok (.getfield 7, 3) := by decide +kernel
theorem dX10_copy_12 : decode cX10_copy 12 = .ok (.iload_n 2, 1) := by decide +kernel
theorem dX10_copy_13 : decode cX10_copy 13 = .ok (.iload_n 3, 1) := by decide +kernel
theorem dX10_copy_14 : decode cX10_copy 14 = .ok (.iadd, 1) := by decide +kernel
theorem dX10_copy_15 : decode cX10_copy 15 = .ok (.aload_n 0, 1) := by decide +kernel
theorem dX10_copy_16 : decode cX10_copy 16 = .ok (.getfield 7, 3) := by decide +kernel
theorem dX10_copy_19 : decode cX10_copy 19 = .ok (.iload_n 1, 1) := by decide +kernel
theorem dX10_copy_20 : decode cX10_copy 20 = .ok (.iload_n 3, 1) := by decide +kernel
theorem dX10_copy_21 : decode cX10_copy 21 = .ok (.iadd, 1) := by decide +kernel
theorem dX10_copy_22 : decode cX10_copy 22 = .ok (.iaload, 1) := by decide +kernel
theorem dX10_copy_23 : decode cX10_copy 23 = .ok (.iastore, 1) := by decide +kernel
theorem dX10_copy_24 : decode cX10_copy 24 = .ok (.iinc 3 1, 3) := by decide +kernel
theorem dX10_copy_27 : decode cX10_copy 27 = .ok (.goto (-25), 3) := by decide +kernel
theorem dX10_copy_30 : decode cX10_copy 30 = .ok (.return_, 1) := by decide +kernel
theorem dX10_isField_0 : decode cX10_isField 0 = .ok (.iload_n 1, 1) := by decide +kernel
theorem dX10_isField_1 : decode cX10_isField 1 = .ok (.i2l, 1) := by decide +kernel
theorem dX10_isField_2 : decode cX10_isField 2 = .ok (.lconst 0, 1) := by decide +kernel
theorem dX10_isField_3 : decode cX10_isField 3 = .ok (.aload_n 0, 1) := by decide +kernel
theorem dX10_isField_4 : decode cX10_isField 4 = .ok (.getfield 66, 3) := by decide +kernel
theorem dX10_isField_7 : decode cX10_isField 7 = .ok (.iconst 1, 1) := by decide +kernel
theorem dX10_isField_8 : decode cX10_isField 8 = .ok (.isub, 1) := by decide +kernel
theorem dX10_isField_9 : decode cX10_isField 9 = .ok (.i2l, 1) := by decide +kernel
theorem dX10_isField_10 : decode cX10_isField 10 = .ok (.invokestatic 69, 3) := by decide +kernel
theorem dX10_isField_13 : decode cX10_isField 13 = .ok (.ireturn, 1) := by decide +kernel
theorem dX10_isStile_0 : decode cX10_isStile 0 = .ok (.iload_n 1, 1) := by decide +kernel
theorem dX10_isStile_1 : decode cX10_isStile 1 = .ok (.i2l, 1) := by decide +kernel
theorem dX10_isStile_2 : decode cX10_isStile 2 = .ok (.lconst 0, 1) := by decide +kernel
theorem dX10_isStile_3 : decode cX10_isStile 3 = .ok (.aload_n 0, 1) := by decide +kernel
theorem dX10_isStile_4 : decode cX10_isStile 4 = .ok (.getfield 73, 3) := by decide +kernel
theorem dX10_isStile_7 : decode cX10_isStile 7 = .ok (.iconst 1, 1) := by decide +kernel
theorem dX10_isStile_8 : decode cX10_isStile 8 = .ok (.isub, 1) := by decide +kernel
theorem dX10_isStile_9 : decode cX10_isStile 9 = .ok (.i2l, 1) := by decide +kernel
theorem dX10_isStile_10 : decode cX10_isStile 10 = .ok (.invokestatic 69, 3) := by decide +kernel
theorem dX10_isStile_13 : decode cX10_isStile 13 = .ok (.ireturn, 1) := by decide +kernel
theorem dX10_isWalker_0 : decode cX10_isWalker 0 = .ok (.iload_n 1, 1) := by decide +kernel
theorem dX10_isWalker_1 : decode cX10_isWalker 1 = .ok (.i2l, 1) := by decide +kernel
theorem dX10_isWalker_2 : decode cX10_isWalker 2 = .ok (.lconst 0, 1) := by decide +kernel
theorem dX10_isWalker_3 : decode cX10_isWalker 3 = .ok (.aload_n 0, 1) := by decide +kernel
theorem dX10_isWalker_4 : decode cX10_isWalker 4 = .ok (.getfield 76, 3) := by decide +kernel
theorem dX10_isWalker_7 : decode cX10_isWalker 7 = .ok (.iconst 1, 1) := by decide +kernel
theorem dX10_isWalker_8 : decode cX10_isWalker 8 = .ok (.isub, 1) := by decide +kernel
theorem dX10_isWalker_9 : decode cX10_isWalker 9 = .ok (.i2l, 1) := by decide +kernel
theorem dX10_isWalker_10 : decode cX10_isWalker 10 = .ok (.invokestatic 69, 3) := by decide +kernel
theorem dX10_isWalker_13 : decode cX10_isWalker 13 = .ok (.ireturn, 1) := by decide +kernel
theorem dX10_addsStile_0 : decode cX10_addsStile 0 = .ok (.aload_n 0, 1) := by decide +kernel
theorem dX10_addsStile_1 : decode cX10_addsStile 1 = .ok (.getfield 37, 3) := by decide +kernel
theorem dX10_addsStile_4 : decode cX10_addsStile 4 = .ok (.iconst 3, 1) := by decide +kernel
theorem dX10_addsStile_5 : decode cX10_addsStile 5 = .ok (.aload_n 0, 1) := by decide +kernel
theorem dX10_addsStile_6 : decode cX10_addsStile 6 = .ok (.getfield 79, 3) := by decide +kernel
theorem dX10_addsStile_9 : decode cX10_addsStile 9 = .ok (.imul, 1) := by decide +kernel
theorem dX10_addsStile_10 : decode cX10_addsStile 10 = .ok (.iload_n 1, 1) := by decide +kernel
theorem dX10_addsStile_11 : decode cX10_addsStile 11 = .ok (.iastore, 1) := by decide +kernel
theorem dX10_addsStile_12 : decode cX10_addsStile 12 = .ok (.aload_n 0, 1) := by decide +kernel
theorem dX10_addsStile_13 : decode cX10_addsStile 13 = .ok (.getfield 37, 3) := by decide +kernel
theorem dX10_addsStile_16 : decode cX10_addsStile 16 = .ok (.iconst 3, 1) := by decide +kernel
theorem dX10_addsStile_17 : decode cX10_addsStile 17 = .ok (.aload_n 0, 1) := by decide +kernel
theorem dX10_addsStile_18 : decode cX10_addsStile 18 = .ok (.getfield 79, 3) := by decide +kernel
theorem dX10_addsStile_21 : decode cX10_addsStile 21 = .ok (.imul, 1) := by decide +kernel
theorem dX10_addsStile_22 : decode cX10_addsStile 22 = .ok (.iconst 1, 1) := by decide +kernel
theorem dX10_addsStile_23 : decode cX10_addsStile 23 = .ok (.iadd, 1) := by decide +kernel
theorem dX10_addsStile_24 : decode cX10_addsStile 24 = .ok (.iload_n 2, 1) := by decide +kernel
theorem dX10_addsStile_25 : decode cX10_addsStile 25 = .ok (.iastore, 1) := by decide +kernel
theorem dX10_addsStile_26 : decode cX10_addsStile 26 = .ok (.aload_n 0, 1) := by decide +kernel
theorem dX10_addsStile_27 : decode cX10_addsStile 27 = .ok (.getfield 37, 3) := by decide +kernel
theorem dX10_addsStile_30 : decode cX10_addsStile 30 = .ok (.iconst 3, 1) := by decide +kernel
theorem dX10_addsStile_31 : decode cX10_addsStile 31 = .ok (.aload_n 0, 1) := by decide +kernel
theorem dX10_addsStile_32 : decode cX10_addsStile 32 = .ok (.getfield 79, 3) := by decide +kernel
theorem dX10_addsStile_35 : decode cX10_addsStile 35 = .ok (.imul, 1) := by decide +kernel
theorem dX10_addsStile_36 : decode cX10_addsStile 36 = .ok (.iconst 2, 1) := by decide +kernel
theorem dX10_addsStile_37 : decode cX10_addsStile 37 = .ok (.iadd, 1) := by decide +kernel
theorem dX10_addsStile_38 : decode cX10_addsStile 38 = .ok (.iload_n 3, 1) := by decide +kernel
theorem dX10_addsStile_39 : decode cX10_addsStile 39 = .ok (.iastore, 1) := by decide +kernel
theorem dX10_addsStile_40 : decode cX10_addsStile 40 = .ok (.aload_n 0, 1) := by decide +kernel
theorem dX10_addsStile_41 : decode cX10_addsStile 41 = .ok (.dup, 1) := by decide +kernel
theorem dX10_addsStile_42 : decode cX10_addsStile 42 = .ok (.getfield 79, 3) := by decide +kernel
theorem dX10_addsStile_45 : decode cX10_addsStile 45 = .ok (.iconst 1, 1) := by decide +kernel
theorem dX10_addsStile_46 : decode cX10_addsStile 46 = .ok (.iadd, 1) := by decide +kernel
theorem dX10_addsStile_47 : decode cX10_addsStile 47 = .ok (.putfield 79, 3) := by decide +kernel
theorem dX10_addsStile_50 : decode cX10_addsStile 50 = .ok (.return_, 1) := by decide +kernel
theorem dX10_addsWalker_0 : decode cX10_addsWalker 0 = .ok (.aload_n 0, 1) := by decide +kernel
theorem dX10_addsWalker_1 : decode cX10_addsWalker 1 = .ok (.getfield 40, 3) := by decide +kernel
theorem dX10_addsWalker_4 : decode cX10_addsWalker 4 = .ok (.iconst 3, 1) := by decide +kernel
theorem dX10_addsWalker_5 : decode cX10_addsWalker 5 = .ok (.aload_n 0, 1) := by decide +kernel
theorem dX10_addsWalker_6 : decode cX10_addsWalker 6 = .ok (.getfield 82, 3) := by decide +kernel
theorem dX10_addsWalker_9 : decode cX10_addsWalker 9 = .ok (.imul, 1) := by decide +kernel
theorem dX10_addsWalker_10 : decode cX10_addsWalker 10 = .ok (.iload_n 1, 1) := by decide +kernel
theorem dX10_addsWalker_11 : decode cX10_addsWalker 11 = .ok (.iastore, 1) := by decide +kernel
theorem dX10_addsWalker_12 : decode cX10_addsWalker 12 = .ok (.aload_n 0, 1) := by decide +kernel
theorem dX10_addsWalker_13 : decode cX10_addsWalker 13 = .ok (.getfield 40, 3) := by decide +kernel
theorem dX10_addsWalker_16 : decode cX10_addsWalker 16 = .ok (.iconst 3, 1) := by decide +kernel
theorem dX10_addsWalker_17 : decode cX10_addsWalker 17 = .ok (.aload_n 0, 1) := by decide +kernel
theorem dX10_addsWalker_18 : decode cX10_addsWalker 18 = .ok (.getfield 82, 3) := by decide +kernel
theorem dX10_addsWalker_21 : decode cX10_addsWalker 21 = .ok (.imul, 1) := by decide +kernel
theorem dX10_addsWalker_22 : decode cX10_addsWalker 22 = .ok (.iconst 1, 1) := by decide +kernel
theorem dX10_addsWalker_23 : decode cX10_addsWalker 23 = .ok (.iadd, 1) := by decide +kernel
theorem dX10_addsWalker_24 : decode cX10_addsWalker 24 = .ok (.iload_n 2, 1) := by decide +kernel
theorem dX10_addsWalker_25 : decode cX10_addsWalker 25 = .ok (.iastore, 1) := by decide +kernel
theorem dX10_addsWalker_26 : decode cX10_addsWalker 26 = .ok (.aload_n 0, 1) := by decide +kernel
theorem dX10_addsWalker_27 : decode cX10_addsWalker 27 = .ok (.getfield 40, 3) := by decide +kernel
theorem dX10_addsWalker_30 : decode cX10_addsWalker 30 = .ok (.iconst 3, 1) := by decide +kernel
theorem dX10_addsWalker_31 : decode cX10_addsWalker 31 = .ok (.aload_n 0, 1) := by decide +kernel
theorem dX10_addsWalker_32 : decode cX10_addsWalker 32 = .ok (.getfield 82, 3) := by decide +kernel
theorem dX10_addsWalker_35 : decode cX10_addsWalker 35 = .ok (.imul, 1) := by decide +kernel
theorem dX10_addsWalker_36 : decode cX10_addsWalker 36 = .ok (.iconst 2, 1) := by decide +kernel
theorem dX10_addsWalker_37 : decode cX10_addsWalker 37 = .ok (.iadd, 1) := by decide +kernel
theorem dX10_addsWalker_38 : decode cX10_addsWalker 38 = .ok (.iload_n 3, 1) := by decide +kernel
theorem dX10_addsWalker_39 : decode cX10_addsWalker 39 = .ok (.iastore, 1) := by decide +kernel
theorem dX10_addsWalker_40 : decode cX10_addsWalker 40 = .ok (.aload_n 0, 1) := by decide +kernel
theorem dX10_addsWalker_41 : decode cX10_addsWalker 41 = .ok (.dup, 1) := by decide +kernel
theorem dX10_addsWalker_42 : decode cX10_addsWalker 42 = .ok (.getfield 82, 3) := by decide +kernel
theorem dX10_addsWalker_45 : decode cX10_addsWalker 45 = .ok (.iconst 1, 1) := by decide +kernel
theorem dX10_addsWalker_46 : decode cX10_addsWalker 46 = .ok (.iadd, 1) := by decide +kernel
theorem dX10_addsWalker_47 : decode cX10_addsWalker 47 = .ok (.putfield 82, 3) := by decide +kernel
theorem dX10_addsWalker_50 : decode cX10_addsWalker 50 = .ok (.return_, 1) := by decide +kernel
theorem dX10_begins_0 : decode cX10_begins 0 = .ok (.aload_n 0, 1) := by decide +kernel
theorem dX10_begins_1 : decode cX10_begins 1 = .ok (.aload_n 0, 1) := by decide +kernel
theorem dX10_begins_2 : decode cX10_begins 2 = .ok (.getfield 49, 3) := by decide +kernel
theorem dX10_begins_5 : decode cX10_begins 5 = .ok (.putfield 66, 3) := by decide +kernel
theorem dX10_begins_8 : decode cX10_begins 8 = .ok (.aload_n 0, 1) := by decide +kernel
theorem dX10_begins_9 : decode cX10_begins 9 = .ok (.aload_n 0, 1) := by decide +kernel
theorem dX10_begins_10 : decode cX10_begins 10 = .ok (.getfield 79, 3) := by decide +kernel
theorem dX10_begins_13 : decode cX10_begins 13 = .ok (.putfield 73, 3) := by decide +kernel
theorem dX10_begins_16 : decode cX10_begins 16 = .ok (.aload_n 0, 1) := by decide +kernel
theorem dX10_begins_17 : decode cX10_begins 17 = .ok (.aload_n 0, 1) := by decide +kernel
theorem dX10_begins_18 : decode cX10_begins 18 = .ok (.getfield 82, 3) := by decide +kernel
theorem dX10_begins_21 : decode cX10_begins 21 = .ok (.putfield 76, 3) := by decide +kernel
theorem dX10_begins_24 : decode cX10_begins 24 = .ok (.aload_n 0, 1) := by decide +kernel
theorem dX10_begins_25 : decode cX10_begins 25 = .ok (.aload_n 0, 1) := by decide +kernel
theorem dX10_begins_26 : decode cX10_begins 26 = .ok (.getfield 60, 3) := by decide +kernel
theorem dX10_begins_29 : decode cX10_begins 29 = .ok (.putfield 85, 3) := by decide +kernel
theorem dX10_begins_32 : decode cX10_begins 32 = .ok (.iconst 0, 1) := by decide +kernel
theorem dX10_begins_33 : decode cX10_begins 33 = .ok (.istore_n 1, 1) := by decide +kernel
theorem dX10_begins_34 : decode cX10_begins 34 = .ok (.iload_n 1, 1) := by decide +kernel
theorem dX10_begins_35 : decode cX10_begins 35 = .ok (.bipush 58, 2) := by decide +kernel
theorem dX10_begins_37 : decode cX10_begins 37 = .ok (.if_icmp .ge 16, 3) := by decide +kernel
theorem dX10_begins_40 : decode cX10_begins 40 = .ok (.aload_n 0, 1) := by decide +kernel
theorem dX10_begins_41 : decode cX10_begins 41 = .ok (.getfield 7, 3) := by decide +kernel
theorem dX10_begins_44 : decode cX10_begins 44 = .ok (.iload_n 1, 1) := by decide +kernel
theorem dX10_begins_45 : decode cX10_begins 45 = .ok (.iconst 0, 1) := by decide +kernel
theorem dX10_begins_46 : decode cX10_begins 46 = .ok (.iastore, 1) := by decide +kernel
theorem dX10_begins_47 : decode cX10_begins 47 = .ok (.iinc 1 1, 3) := by decide +kernel
theorem dX10_begins_50 : decode cX10_begins 50 = .ok (.goto (-16), 3) := by decide +kernel
theorem dX10_begins_53 : decode cX10_begins 53 = .ok (.iconst 0, 1) := by decide +kernel
theorem dX10_begins_54 : decode cX10_begins 54 = .ok (.istore_n 1, 1) := by decide +kernel
theorem dX10_begins_55 : decode cX10_begins 55 = .ok (.iload_n 1, 1) := by decide +kernel
theorem dX10_begins_56 : decode cX10_begins 56 = .ok (.aload_n 0, 1) := by decide +kernel
theorem dX10_begins_57 : decode cX10_begins 57 = .ok (.getfield 73, 3) := by decide +kernel
theorem dX10_begins_60 : decode cX10_begins 60 = .ok (.if_icmp .ge 55, 3) := by decide +kernel
theorem dX10_begins_63 : decode cX10_begins 63 = .ok (.aload_n 0, 1) := by decide +kernel
theorem dX10_begins_64 : decode cX10_begins 64 = .ok (.getfield 13, 3) := by decide +kernel
theorem dX10_begins_67 : decode cX10_begins 67 = .ok (.iload_n 1, 1) := by decide +kernel
theorem dX10_begins_68 : decode cX10_begins 68 = .ok (.aload_n 0, 1) := by decide +kernel
theorem dX10_begins_69 : decode cX10_begins 69 = .ok (.getfield 37, 3) := by decide +kernel
theorem dX10_begins_72 : decode cX10_begins 72 = .ok (.iconst 3, 1) := by decide +kernel
theorem dX10_begins_73 : decode cX10_begins 73 = .ok (.iload_n 1, 1) := by decide +kernel
theorem dX10_begins_74 : decode cX10_begins 74 = .ok (.imul, 1) := by decide +kernel
theorem dX10_begins_75 : decode cX10_begins 75 = .ok (.iaload, 1) := by decide +kernel
theorem dX10_begins_76 : decode cX10_begins 76 = .ok (.iastore, 1) := by decide +kernel
theorem dX10_begins_77 : decode cX10_begins 77 = .ok (.aload_n 0, 1) := by decide +kernel
theorem dX10_begins_78 : decode cX10_begins 78 = .ok (.getfield 16, 3) := by decide +kernel
theorem dX10_begins_81 : decode cX10_begins 81 = .ok (.iload_n 1, 1) := by decide +kernel
theorem dX10_begins_82 : decode cX10_begins 82 = .ok (.aload_n 0, 1) := by decide +kernel
theorem dX10_begins_83 : decode cX10_begins 83 = .ok (.getfield 37, 3) := by decide +kernel
theorem dX10_begins_86 : decode cX10_begins 86 = .ok (.iconst 3, 1) := by decide +kernel
theorem dX10_begins_87 : decode cX10_begins 87 = .ok (.iload_n 1, 1) := by decide +kernel
theorem dX10_begins_88 : decode cX10_begins 88 = .ok (.imul, 1) := by decide +kernel
theorem dX10_begins_89 : decode cX10_begins 89 = .ok (.iconst 1, 1) := by decide +kernel
theorem dX10_begins_90 : decode cX10_begins 90 = .ok (.iadd, 1) := by decide +kernel
theorem dX10_begins_91 : decode cX10_begins 91 = .ok (.iaload, 1) := by decide +kernel
theorem dX10_begins_92 : decode cX10_begins 92 = .ok (.iastore, 1) := by decide +kernel
theorem dX10_begins_93 : decode cX10_begins 93 = .ok (.aload_n 0, 1) := by decide +kernel
theorem dX10_begins_94 : decode cX10_begins 94 = .ok (.getfield 19, 3) := by decide +kernel
theorem dX10_begins_97 : decode cX10_begins 97 = .ok (.iload_n 1, 1) := by decide +kernel
theorem dX10_begins_98 : decode cX10_begins 98 = .ok (.aload_n 0, 1) := by decide +kernel
theorem dX10_begins_99 : decode cX10_begins 99 = .ok (.getfield 37, 3) := by decide +kernel
theorem dX10_begins_102 : decode cX10_begins 102 = .ok (.iconst 3, 1) := by decide +kernel
theorem dX10_begins_103 : decode cX10_begins 103 = .ok (.iload_n 1, 1) := by decide +kernel
theorem dX10_begins_104 : decode cX10_begins 104 = .ok (.imul, 1) := by decide +kernel
theorem dX10_begins_105 : decode cX10_begins 105 = .ok (.iconst 2, 1) := by decide +kernel
theorem dX10_begins_106 : decode cX10_begins 106 = .ok (.iadd, 1) := by decide +kernel
theorem dX10_begins_107 : decode cX10_begins 107 = .ok (.iaload, 1) := by decide +kernel
theorem dX10_begins_108 : decode cX10_begins 108 = .ok (.iastore, 1) := by decide +kernel
theorem dX10_begins_109 : decode cX10_begins 109 = .ok (.iinc 1 1, 3) := by decide +kernel
theorem dX10_begins_112 : decode cX10_begins 112 = .ok (.goto (-57), 3) := by decide +kernel
theorem dX10_begins_115 : decode cX10_begins 115 = .ok (.iconst 0, 1) := by decide +kernel
theorem dX10_begins_116 : decode cX10_begins 116 = .ok (.istore_n 1, 1) := by decide +kernel
theorem dX10_begins_117 : decode cX10_begins 117 = .ok (.iload_n 1, 1) := by decide +kernel
theorem dX10_begins_118 : decode cX10_begins 118 = .ok (.aload_n 0, 1) := by decide +kernel
theorem dX10_begins_119 : decode cX10_begins 119 = .ok (.getfield 76, 3) := by decide +kernel
theorem dX10_begins_122 : decode cX10_begins 122 = .ok (.if_icmp .ge 69, 3) := by decide +kernel
theorem dX10_begins_125 : decode cX10_begins 125 = .ok (.aload_n 0, 1) := by decide +kernel
theorem dX10_begins_126 : decode cX10_begins 126 = .ok (.getfield 22, 3) := by decide +kernel
theorem dX10_begins_129 : decode cX10_begins 129 = .ok (.iload_n 1, 1) := by decide +kernel
theorem dX10_begins_130 : decode cX10_begins 130 = .ok (.aload_n 0, 1) := by decide +kernel
theorem dX10_begins_131 : decode cX10_begins 131 = .ok (.getfield 40, 3) := by decide +kernel
theorem dX10_begins_134 : decode cX10_begins 134 = .ok (.iconst 3, 1) := by decide +kernel
theorem dX10_begins_135 : decode cX10_begins 135 = .ok (.iload_n 1, 1) := by decide +kernel
theorem dX10_begins_136 : decode cX10_begins 136 = .ok (.imul, 1) := by decide +kernel
theorem dX10_begins_137 : decode cX10_begins 137 = .ok (.iaload, 1) := by decide +kernel
theorem dX10_begins_138 : decode cX10_begins 138 = .ok (.iastore, 1) := by decide +kernel
theorem dX10_begins_139 : decode cX10_begins 139 = .ok (.aload_n 0, 1) := by decide +kernel
theorem dX10_begins_140 : decode cX10_begins 140 = .ok (.getfield 7, 3) := by decide +kernel
theorem dX10_begins_143 : decode cX10_begins 143 = .ok (.bipush 10, 2) := by decide +kernel
theorem dX10_begins_145 : decode cX10_begins 145 = .ok (.iload_n 1, 1) := by decide +kernel
theorem dX10_begins_146 : decode cX10_begins 146 = .ok (.iadd, 1) := by decide +kernel
theorem dX10_begins_147 : decode cX10_begins 147 = .ok (.aload_n 0, 1) := by decide +kernel
theorem dX10_begins_148 : decode cX10_begins 148 = .ok (.getfield 40, 3) := by decide +kernel
theorem dX10_begins_151 : decode cX10_begins 151 = .ok (.iconst 3, 1) := by decide +kernel
theorem dX10_begins_152 : decode cX10_begins 152 = .ok (.iload_n 1, 1) := by decide +kernel
theorem dX10_begins_153 : decode cX10_begins 153 = .ok (.imul, 1) := by decide +kernel
theorem dX10_begins_154 : decode cX10_begins 154 = .ok (.iconst 1, 1) := by decide +kernel
theorem dX10_begins_155 : decode cX10_begins 155 = .ok (.iadd, 1) := by decide +kernel
theorem dX10_begins_156 : decode cX10_begins 156 = .ok (.iaload, 1) := by decide +kernel
theorem dX10_begins_157 : decode cX10_begins 157 = .ok (.iastore, 1) := by decide +kernel
theorem dX10_begins_158 : decode cX10_begins 158 = .ok (.aload_n 0, 1) := by decide +kernel
theorem dX10_begins_159 : decode cX10_begins 159 = .ok (.getfield 25, 3) := by decide +kernel
theorem dX10_begins_162 : decode cX10_begins 162 = .ok (.iload_n 1, 1) := by decide +kernel
theorem dX10_begins_163 : decode cX10_begins 163 = .ok (.aload_n 0, 1) := by decide +kernel
theorem dX10_begins_164 : decode cX10_begins 164 = .ok (.getfield 40, 3) := by decide +kernel
theorem dX10_begins_167 : decode cX10_begins 167 = .ok (.iconst 3, 1) := by decide +kernel
theorem dX10_begins_168 : decode cX10_begins 168 = .ok (.iload_n 1, 1) := by decide +kernel
theorem dX10_begins_169 : decode cX10_begins 169 = .ok (.imul, 1) := by decide +kernel
theorem dX10_begins_170 : decode cX10_begins 170 = .ok (.iconst 2, 1) := by decide +kernel
theorem dX10_begins_171 : decode cX10_begins 171 = .ok (.iadd, 1) := by decide +kernel
theorem dX10_begins_172 : decode cX10_begins 172 = .ok (.iaload, 1) := by decide +kernel
theorem dX10_begins_173 : decode cX10_begins 173 = .ok (.iastore, 1) := by decide +kernel
theorem dX10_begins_174 : decode cX10_begins 174 = .ok (.aload_n 0, 1) := by decide +kernel
theorem dX10_begins_175 : decode cX10_begins 175 = .ok (.getfield 7, 3) := by decide +kernel
theorem dX10_begins_178 : decode cX10_begins 178 = .ok (.bipush 18, 2) := by decide +kernel
theorem dX10_begins_180 : decode cX10_begins 180 = .ok (.iload_n 1, 1) := by decide +kernel
theorem dX10_begins_181 : decode cX10_begins 181 = .ok (.iadd, 1) := by decide +kernel
theorem dX10_begins_182 : decode cX10_begins 182 = .ok (.bipush (-4), 2) := by decide +kernel
theorem dX10_begins_184 : decode cX10_begins 184 = .ok (.iastore, 1) := by decide +kernel
theorem dX10_begins_185 : decode cX10_begins 185 = .ok (.iinc 1 1, 3) := by decide +kernel
theorem dX10_begins_188 : decode cX10_begins 188 = .ok (.goto (-71), 3) := by decide +kernel
theorem dX10_begins_191 : decode cX10_begins 191 = .ok (.aload_n 0, 1) := by decide +kernel
theorem dX10_begins_192 : decode cX10_begins 192 = .ok (.iconst 0, 1) := by decide +kernel
theorem dX10_begins_193 : decode cX10_begins 193 = .ok (.putfield 88, 3) := by decide +kernel
theorem dX10_begins_196 : decode cX10_begins 196 = .ok (.aload_n 0, 1) := by decide +kernel
theorem dX10_begins_197 : decode cX10_begins 197 = .ok (.iconst 0, 1) := by decide +kernel
theorem dX10_begins_198 : decode cX10_begins 198 = .ok (.putfield 91, 3) := by decide +kernel
theorem dX10_begins_201 : decode cX10_begins 201 = .ok (.aload_n 0, 1) := by decide +kernel
theorem dX10_begins_202 : decode cX10_begins 202 = .ok (.iconst 0, 1) := by decide +kernel
theorem dX10_begins_203 : decode cX10_begins 203 = .ok (.putfield 94, 3) := by decide +kernel
theorem dX10_begins_206 : decode cX10_begins 206 = .ok (.return_, 1) := by decide +kernel
theorem dX10_write_0 : decode cX10_write 0 = .ok (.iload_n 1, 1) := by decide +kernel
theorem dX10_write_1 : decode cX10_write 1 = .ok (.i2l, 1) := by decide +kernel
theorem dX10_write_2 : decode cX10_write 2 = .ok (.ldc2_w 97, 3) := by decide +kernel
theorem dX10_write_5 : decode cX10_write 5 = .ok (.ldc2_w 99, 3) := by decide +kernel
theorem dX10_write_8 : decode cX10_write 8 = .ok (.invokestatic 69, 3) := by decide +kernel
theorem dX10_write_11 : decode cX10_write 11 = .ok (.ifCond .ne 5, 3) := by decide +kernel
theorem dX10_write_14 : decode cX10_write 14 = .ok (.iconst (-1), 1) := by decide +kernel
theorem dX10_write_15 : decode cX10_write 15 = .ok (.ireturn, 1) := by decide +kernel
theorem dX10_write_16 : decode cX10_write 16 = .ok (.aload_n 0, 1) := by decide +kernel
theorem dX10_write_17 : decode cX10_write 17 = .ok (.getfield 101, 3) := by decide +kernel
theorem dX10_write_20 : decode cX10_write 20 = .ok (.sipush 200, 3) := by decide +kernel
theorem dX10_write_23 : decode cX10_write 23 = .ok (.if_icmp .ne 6, 3) := by decide +kernel
theorem dX10_write_26 : decode cX10_write 26 = .ok (.bipush (-3), 2) := by decide +kernel
theorem dX10_write_28 : decode cX10_write 28 = .ok (.ireturn, 1) := by decide +kernel
theorem dX10_write_29 : decode cX10_write 29 = .ok (.aload_n 0, 1) := by decide +kernel
theorem dX10_write_30 : decode cX10_write 30 = .ok (.getfield 34, 3) := by decide +kernel
theorem dX10_write_33 : decode cX10_write 33 = .ok (.aload_n 0, 1) := by decide +kernel
theorem dX10_write_34 : decode cX10_write 34 = .ok (.getfield 101, 3) := by decide +kernel
theorem dX10_write_37 : decode cX10_write 37 = .ok (.iload_n 1, 1) := by decide +kernel
theorem dX10_write_38 : decode cX10_write 38 = .ok (.iastore, 1) := by decide +kernel
theorem dX10_write_39 : decode cX10_write 39 = .ok (.aload_n 0, 1) := by decide +kernel
theorem dX10_write_40 : decode cX10_write 40 = .ok (.dup, 1) := by decide +kernel
theorem dX10_write_41 : decode cX10_write 41 = .ok (.getfield 101, 3) := by decide +kernel
theorem dX10_write_44 : decode cX10_write 44 = .ok (.iconst 1, 1) := by decide +kernel
theorem dX10_write_45 : decode cX10_write 45 = .ok (.iadd, 1) := by decide +kernel
theorem dX10_write_46 : decode cX10_write 46 = .ok (.putfield 101, 3) := by decide +kernel
theorem dX10_write_49 : decode cX10_write 49 = .ok (.aload_n 0, 1) := by decide +kernel
theorem dX10_write_50 : decode cX10_write 50 = .ok (.getfield 101, 3) := by decide +kernel
theorem dX10_write_53 : decode cX10_write 53 = .ok (.ireturn, 1) := by decide +kernel
theorem dX10_wipe_0 : decode cX10_wipe 0 = .ok (.aload_n 0, 1) := by decide +kernel
theorem dX10_wipe_1 : decode cX10_wipe 1 = .ok (.getfield 101, 3) := by decide +kernel
theorem dX10_wipe_4 : decode cX10_wipe 4 = .ok (.istore_n 1, 1) := by decide +kernel
theorem dX10_wipe_5 : decode cX10_wipe 5 = .ok (.aload_n 0, 1) := by decide +kernel
theorem dX10_wipe_6 : decode cX10_wipe 6 = .ok (.iconst 0, 1) := by decide +kernel
theorem dX10_wipe_7 : decode cX10_wipe 7 = .ok (.putfield 101, 3) := by decide +kernel
theorem dX10_wipe_10 : decode cX10_wipe 10 = .ok (.iload_n 1, 1) := by decide +kernel
theorem dX10_wipe_11 : decode cX10_wipe 11 = .ok (.ireturn, 1) := by decide +kernel
theorem dX10_letterAt_0 : decode cX10_letterAt 0 = .ok (.iload_n 1, 1) := by decide +kernel
theorem dX10_letterAt_1 : decode cX10_letterAt 1 = .ok (.aload_n 0, 1) := by decide +kernel
theorem dX10_letterAt_2 : decode cX10_letterAt 2 = .ok (.getfield 101, 3) := by decide +kernel
theorem dX10_letterAt_5 : decode cX10_letterAt 5 = .ok (.if_icmp .ge 12, 3) := by decide +kernel
theorem dX10_letterAt_8 : decode cX10_letterAt 8 = .ok (.aload_n 0, 1) := by decide +kernel
theorem dX10_letterAt_9 : decode cX10_letterAt 9 = .ok (.getfield 34, 3) := by decide +kernel
theorem dX10_letterAt_12 : decode cX10_letterAt 12 = .ok (.iload_n 1, 1) := by decide +kernel
theorem dX10_letterAt_13 : decode cX10_letterAt 13 = .ok (.iaload, 1) := by decide +kernel
theorem dX10_letterAt_14 : decode cX10_letterAt 14 = .ok (.goto 4, 3) := by decide +kernel
theorem dX10_letterAt_17 : decode cX10_letterAt 17 = .ok (.iconst (-1), 1) := by decide +kernel
theorem dX10_letterAt_18 : decode cX10_letterAt 18 = .ok (.ireturn, 1) := by decide +kernel
theorem dX10_takesNumber_0 : decode cX10_takesNumber 0 = .ok (.aload_n 0, 1) := by decide +kernel
theorem dX10_takesNumber_1 : decode cX10_takesNumber 1 = .ok (.getfield 104, 3) := by decide +kernel
theorem dX10_takesNumber_4 : decode cX10_takesNumber 4 = .ok (.istore 4, 2) := by decide +kernel
theorem dX10_takesNumber_6 : decode cX10_takesNumber 6 = .ok (.aload_n 0, 1) := by decide +kernel
theorem dX10_takesNumber_7 : decode cX10_takesNumber 7 = .ok (.iconst 0, 1) := by decide +kernel
theorem dX10_takesNumber_8 : decode cX10_takesNumber 8 = .ok (.putfield 107, 3) := by decide +kernel
theorem dX10_takesNumber_11 : decode cX10_takesNumber 11 = .ok (.aload_n 0, 1) := by decide +kernel
theorem dX10_takesNumber_12 : decode cX10_takesNumber 12 = .ok (.getfield 104, 3) := by decide +kernel
theorem dX10_takesNumber_15 : decode cX10_takesNumber 15 = .ok (.iload 4, 2) := by decide +kernel
theorem dX10_takesNumber_17 : decode cX10_takesNumber 17 = .ok (.isub, 1) := by decide +kernel
theorem dX10_takesNumber_18 : decode cX10_takesNumber 18 = .ok (.iconst 2, 1) := by decide +kernel
theorem dX10_takesNumber_19 : decode cX10_takesNumber 19 = .ok (.if_icmp .ge 60, 3) := by decide +kernel
theorem dX10_takesNumber_22 : decode cX10_takesNumber 22 = .ok (.aload_n 0, 1) := by decide +kernel
theorem dX10_takesNumber_23 : decode cX10_takesNumber 23 = .ok (.aload_n 0, 1) := by decide +kernel
theorem dX10_takesNumber_24 : decode cX10_takesNumber 24 = .ok (.getfield 104, 3) := by decide +kernel
theorem dX10_takesNumber_27 : decode cX10_takesNumber 27 = .ok (.invokevirtual 110, 3) := by decide +kernel
theorem dX10_takesNumber_30 : decode cX10_takesNumber 30 = .ok (.i2l, 1) := by decide +kernel
theorem dX10_takesNumber_31 : decode cX10_takesNumber 31 = .ok (.ldc2_w 114, 3) := by decide +kernel
theorem dX10_takesNumber_34 : decode cX10_takesNumber 34 = .ok (.ldc2_w 116, 3) := by decide +kernel
theorem dX10_takesNumber_37 : decode cX10_takesNumber 37 = .ok (.invokestatic 69, 3) := by decide +kernel
theorem dX10_takesNumber_40 : decode cX10_takesNumber 40 = .ok (.ifCond .eq 39, 3) := by decide +kernel
theorem dX10_takesNumber_43 : decode cX10_takesNumber 43 = .ok (.aload_n 0, 1) := by decide +kernel
theorem dX10_takesNumber_44 : decode cX10_takesNumber 44 = .ok (.bipush 10, 2) := by decide +kernel
theorem dX10_takesNumber_46 : decode cX10_takesNumber 46 = .ok (.aload_n 0, 1) := by decide +kernel
theorem dX10_takesNumber_47 : decode cX10_takesNumber 47 = .ok (.getfield 107, 3) := by decide +kernel
theorem dX10_takesNumber_50 : decode cX10_takesNumber 50 = .ok (.imul, 1) := by decide +kernel
theorem dX10_takesNumber_51 : decode cX10_takesNumber 51 = .ok (.aload_n 0, 1) := by decide +kernel
theorem dX10_takesNumber_52 : decode cX10_takesNumber 52 = .ok (.aload_n 0, 1) := by decide +kernel
theorem dX10_takesNumber_53 : decode cX10_takesNumber 53 = .ok (.getfield 104, 3) := by decide +kernel
theorem dX10_takesNumber_56 : decode cX10_takesNumber 56 = .ok (.invokevirtual 110, 3) := by decide +kernel
theorem dX10_takesNumber_59 : decode cX10_takesNumber 59 = .ok (.iadd, 1) := by decide +kernel
theorem dX10_takesNumber_60 : decode cX10_takesNumber 60 = .ok (.bipush 48, 2) := by decide +kernel
theorem dX10_takesNumber_62 : decode cX10_takesNumber 62 = .ok (.isub, 1) := by decide +kernel
theorem dX10_takesNumber_63 : decode cX10_takesNumber 63 = .ok (.putfield 107, 3) := by decide +kernel
theorem dX10_takesNumber_66 : decode cX10_takesNumber 66 = .ok (.aload_n 0, 1) := by decide +kernel
theorem dX10_takesNumber_67 : decode cX10_takesNumber 67 = .ok (.dup, 1) := by decide +kernel
theorem dX10_takesNumber_68 : decode cX10_takesNumber 68 = .ok (.getfield 104, 3) := by decide +kernel
theorem dX10_takesNumber_71 : decode cX10_takesNumber 71 = .ok (.iconst 1, 1) := by decide +kernel
theorem dX10_takesNumber_72 : decode cX10_takesNumber 72 = .ok (.iadd, 1) := by decide +kernel
theorem dX10_takesNumber_73 : decode cX10_takesNumber 73 = .ok (.putfield 104, 3) := by decide +kernel
theorem dX10_takesNumber_76 : decode cX10_takesNumber 76 = .ok (.goto (-65), 3) := by decide +kernel
theorem dX10_takesNumber_79 : decode cX10_takesNumber 79 = .ok (.aload_n 0, 1) := by decide +kernel
theorem dX10_takesNumber_80 : decode cX10_takesNumber 80 = .ok (.getfield 104, 3) := by decide +kernel
theorem dX10_takesNumber_83 : decode cX10_takesNumber 83 = .ok (.iload 4, 2) := by decide +kernel
theorem dX10_takesNumber_85 : decode cX10_takesNumber 85 = .ok (.if_icmp .eq 30, 3) := by decide +kernel
theorem dX10_takesNumber_88 : decode cX10_takesNumber 88 = .ok (.aload_n 0, 1) := by decide +kernel
theorem dX10_takesNumber_89 : decode cX10_takesNumber 89 = .ok (.getfield 107, 3) := by decide +kernel
theorem dX10_takesNumber_92 : decode cX10_takesNumber 92 = .ok (.i2l, 1) := by decide +kernel
theorem dX10_takesNumber_93 : decode cX10_takesNumber 93 = .ok (.iload_n 1, 1) := by decide +kernel
theorem dX10_takesNumber_94 : decode cX10_takesNumber 94 = .ok (.i2l, 1) := by decide +kernel
theorem dX10_takesNumber_95 : decode cX10_takesNumber 95 = .ok (.iload_n 2, 1) := by decide +kernel
theorem dX10_takesNumber_96 : decode cX10_takesNumber 96 = .ok (.i2l, 1) := by decide +kernel
theorem dX10_takesNumber_97 : decode cX10_takesNumber 97 = .ok (.invokestatic 69, 3) := by decide +kernel
theorem dX10_takesNumber_100 : decode cX10_takesNumber 100 = .ok (.ifCond .eq 15, 3) := by decide +kernel
theorem dX10_takesNumber_103 : decode cX10_takesNumber 103 = .ok (.aload_n 0, 1) := by decide +kernel
theorem dX10_takesNumber_104 : decode cX10_takesNumber 104 = .ok (.aload_n 0, 1) := by decide +kernel
theorem dX10_takesNumber_105 : decode cX10_takesNumber 105 = .ok (.getfield 104, 3) := by decide +kernel
theorem dX10_takesNumber_108 : decode cX10_takesNumber 108 = .ok (.invokevirtual 110, 3) := by decide +kernel
theorem dX10_takesNumber_111 : decode cX10_takesNumber 111 = .ok (.iload_n 3, 1) := by decide +kernel
theorem dX10_takesNumber_112 : decode cX10_takesNumber 112 = .ok (.if_icmp .eq 5, 3) := by decide +kernel
theorem dX10_takesNumber_115 : decode cX10_takesNumber 115 = .ok (.iconst 0, 1) := by decide +kernel
theorem dX10_takesNumber_116 : decode cX10_takesNumber 116 = .ok (.ireturn, 1) := by decide +kernel
theorem dX10_takesNumber_117 : decode cX10_takesNumber 117 = .ok (.aload_n 0, 1) := by decide +kernel
theorem dX10_takesNumber_118 : decode cX10_takesNumber 118 = .ok (.dup, 1) := by decide +kernel
theorem dX10_takesNumber_119 : decode cX10_takesNumber 119 = .ok (.getfield 104, 3) := by decide +kernel
theorem dX10_takesNumber_122 : decode cX10_takesNumber 122 = .ok (.iconst 1, 1) := by decide +kernel
theorem dX10_takesNumber_123 : decode cX10_takesNumber 123 = .ok (.iadd, 1) := by decide +kernel
theorem dX10_takesNumber_124 : decode cX10_takesNumber 124 = .ok (.putfield 104, 3) := by decide +kernel
theorem dX10_takesNumber_127 : decode cX10_takesNumber 127 = .ok (.iconst 1, 1) := by decide +kernel
theorem dX10_takesNumber_128 : decode cX10_takesNumber 128 = .ok (.ireturn, 1) := by decide +kernel
theorem dX10_takesFields_0 : decode cX10_takesFields 0 = .ok (.aload_n 0, 1) := by decide +kernel
theorem dX10_takesFields_1 : decode cX10_takesFields 1 = .ok (.getfield 118, 3) := by decide +kernel
theorem dX10_takesFields_4 : decode cX10_takesFields 4 = .ok (.ifCond .ne 15, 3) := by decide +kernel
theorem dX10_takesFields_7 : decode cX10_takesFields 7 = .ok (.aload_n 0, 1) := by decide +kernel
theorem dX10_takesFields_8 : decode cX10_takesFields 8 = .ok (.iconst 1, 1) := by decide +kernel
theorem dX10_takesFields_9 : decode cX10_takesFields 9 = .ok (.bipush 8, 2) := by decide +kernel
theorem dX10_takesFields_11 : decode cX10_takesFields 11 = .ok (.bipush 59, 2) := by decide +kernel
theorem dX10_takesFields_13 : decode cX10_takesFields 13 = .ok (.invokevirtual 122, 3) := by decide +kernel
theorem dX10_takesFields_16 : decode cX10_takesFields 16 = .ok (.ifCond .ne 5, 3) := by decide +kernel
theorem dX10_takesFields_19 : decode cX10_takesFields 19 = .ok (.iconst 0, 1) := by decide +kernel
theorem dX10_takesFields_20 : decode cX10_takesFields 20 = .ok (.ireturn, 1) := by decide +kernel
theorem dX10_takesFields_21 : decode cX10_takesFields 21 = .ok (.aload_n 0, 1) := by decide +kernel
theorem dX10_takesFields_22 : decode cX10_takesFields 22 = .ok (.aload_n 0, 1) := by decide +kernel
theorem dX10_takesFields_23 : decode cX10_takesFields 23 = .ok (.getfield 107, 3) := by decide +kernel
theorem dX10_takesFields_26 : decode cX10_takesFields 26 = .ok (.putfield 49, 3) := by decide +kernel
theorem dX10_takesFields_29 : decode cX10_takesFields 29 = .ok (.iconst 1, 1) := by decide +kernel
theorem dX10_takesFields_30 : decode cX10_takesFields 30 = .ok (.ireturn, 1) := by decide +kernel
theorem dX10_takesStile_0 : decode cX10_takesStile 0 = .ok (.aload_n 0, 1) := by decide +kernel
theorem dX10_takesStile_1 : decode cX10_takesStile 1 = .ok (.getfield 79, 3) := by decide +kernel
theorem dX10_takesStile_4 : decode cX10_takesStile 4 = .ok (.bipush 9, 2) := by decide +kernel
theorem dX10_takesStile_6 : decode cX10_takesStile 6 = .ok (.if_icmp .eq 14, 3) := by decide +kernel
theorem dX10_takesStile_9 : decode cX10_takesStile 9 = .ok (.aload_n 0, 1) := by decide +kernel
theorem dX10_takesStile_10 : decode cX10_takesStile 10 = .ok (.iconst 0, 1) := by decide +kernel
theorem dX10_takesStile_11 : decode cX10_takesStile 11 = .ok (.iconst 3, 1) := by decide +kernel
theorem dX10_takesStile_12 : decode cX10_takesStile 12 = .ok (.bipush 44, 2) := by decide +kernel
theorem dX10_takesStile_14 : decode cX10_takesStile 14 = .ok (.invokevirtual 122, 3) := by decide +kernel
theorem dX10_takesStile_17 : decode cX10_takesStile 17 = .ok (.ifCond .ne 5, 3) := by decide +kernel
theorem dX10_takesStile_20 : decode cX10_takesStile 20 = .ok (.iconst 0, 1) := by decide +kernel
theorem dX10_takesStile_21 : decode cX10_takesStile 21 = .ok (.ireturn, 1) := by decide +kernel
theorem dX10_takesStile_22 : decode cX10_takesStile 22 = .ok (.aload_n 0, 1) := by decide +kernel
theorem dX10_takesStile_23 : decode cX10_takesStile 23 = .ok (.getfield 107, 3) := by decide +kernel
theorem dX10_takesStile_26 : decode cX10_takesStile 26 = .ok (.istore_n 1, 1) := by decide +kernel
theorem dX10_takesStile_27 : decode cX10_takesStile 27 = .ok (.aload_n 0, 1) := by decide +kernel
theorem dX10_takesStile_28 : decode cX10_takesStile 28 = .ok (.iconst 0, 1) := by decide +kernel
theorem dX10_takesStile_29 : decode cX10_takesStile 29 = .ok (.aload_n 0, 1) := by decide +kernel
theorem dX10_takesStile_30 : decode cX10_takesStile 30 = .ok (.getfield 49, 3) := by decide +kernel
theorem dX10_takesStile_33 : decode cX10_takesStile 33 = .ok (.iconst 1, 1) := by decide +kernel
theorem dX10_takesStile_34 : decode cX10_takesStile 34 = .ok (.isub, 1) := by decide +kernel
theorem dX10_takesStile_35 : decode cX10_takesStile 35 = .ok (.bipush 44, 2) := by decide +kernel
theorem dX10_takesStile_37 : decode cX10_takesStile 37 = .ok (.invokevirtual 122, 3) := by decide +kernel
theorem dX10_takesStile_40 : decode cX10_takesStile 40 = .ok (.ifCond .ne 5, 3) := by decide +kernel
theorem dX10_takesStile_43 : decode cX10_takesStile 43 = .ok (.iconst 0, 1) := by decide +kernel
theorem dX10_takesStile_44 : decode cX10_takesStile 44 = .ok (.ireturn, 1) := by decide +kernel
theorem dX10_takesStile_45 : decode cX10_takesStile 45 = .ok (.aload_n 0, 1) := by decide +kernel
theorem dX10_takesStile_46 : decode cX10_takesStile 46 = .ok (.getfield 107, 3) := by decide +kernel
theorem dX10_takesStile_49 : decode cX10_takesStile 49 = .ok (.istore_n 2, 1) := by decide +kernel
theorem dX10_takesStile_50 : decode cX10_takesStile 50 = .ok (.aload_n 0, 1) := by decide +kernel
theorem dX10_takesStile_51 : decode cX10_takesStile 51 = .ok (.iconst 0, 1) := by decide +kernel
theorem dX10_takesStile_52 : decode cX10_takesStile 52 = .ok (.aload_n 0, 1) := by decide +kernel
theorem dX10_takesStile_53 : decode cX10_takesStile 53 = .ok (.getfield 49, 3) := by decide +kernel
theorem dX10_takesStile_56 : decode cX10_takesStile 56 = .ok (.iconst 1, 1) := by decide +kernel
theorem dX10_takesStile_57 : decode cX10_takesStile 57 = .ok (.isub, 1) := by decide +kernel
theorem dX10_takesStile_58 : decode cX10_takesStile 58 = .ok (.bipush 59, 2) := by decide +kernel
theorem dX10_takesStile_60 : decode cX10_takesStile 60 = .ok (.invokevirtual 122, 3) := by decide +kernel
theorem dX10_takesStile_63 : decode cX10_takesStile 63 = .ok (.ifCond .eq 11, 3) := by decide +kernel
theorem dX10_takesStile_66 : decode cX10_takesStile 66 = .ok (.aload_n 0, 1) := by decide +kernel
theorem dX10_takesStile_67 : decode cX10_takesStile 67 = .ok (.getfield 107, 3) := by decide +kernel
theorem dX10_takesStile_70 : decode cX10_takesStile 70 = .ok (.iload_n 2, 1) := by decide +kernel
theorem dX10_takesStile_71 : decode cX10_takesStile 71 = .ok (.if_icmp .ne 5, 3) := by decide +kernel
theorem dX10_takesStile_74 : decode cX10_takesStile 74 = .ok (.iconst 0, 1) := by decide +kernel
theorem dX10_takesStile_75 : decode cX10_takesStile 75 = .ok (.ireturn, 1) := by decide +kernel
theorem dX10_takesStile_76 : decode cX10_takesStile 76 = .ok (.aload_n 0, 1) := by decide +kernel
theorem dX10_takesStile_77 : decode cX10_takesStile 77 = .ok (.iload_n 1, 1) := by decide +kernel
theorem dX10_takesStile_78 : decode cX10_takesStile 78 = .ok (.iload_n 2, 1) := by decide +kernel
theorem dX10_takesStile_79 : decode cX10_takesStile 79 = .ok (.aload_n 0, 1) := by decide +kernel
theorem dX10_takesStile_80 : decode cX10_takesStile 80 = .ok (.getfield 107, 3) := by decide +kernel
theorem dX10_takesStile_83 : decode cX10_takesStile 83 = .ok (.invokevirtual 53, 3) := by decide +kernel
theorem dX10_takesStile_86 : decode cX10_takesStile 86 = .ok (.iconst 1, 1) := by decide +kernel
theorem dX10_takesStile_87 : decode cX10_takesStile 87 = .ok (.ireturn, 1) := by decide +kernel
theorem dX10_takesWalker_0 : decode cX10_takesWalker 0 = .ok (.aload_n 0, 1) := by decide +kernel
theorem dX10_takesWalker_1 : decode cX10_takesWalker 1 = .ok (.getfield 82, 3) := by decide +kernel
theorem dX10_takesWalker_4 : decode cX10_takesWalker 4 = .ok (.iconst 4, 1) := by decide +kernel
theorem dX10_takesWalker_5 : decode cX10_takesWalker 5 = .ok (.if_icmp .eq 14, 3) := by decide +kernel
theorem dX10_takesWalker_8 : decode cX10_takesWalker 8 = .ok (.aload_n 0, 1) := by decide +kernel
theorem dX10_takesWalker_9 : decode cX10_takesWalker 9 = .ok (.iconst 0, 1) := by decide +kernel
theorem dX10_takesWalker_10 : decode cX10_takesWalker 10 = .ok (.iconst 3, 1) := by decide +kernel
theorem dX10_takesWalker_11 : decode cX10_takesWalker 11 = .ok (.bipush 44, 2) := by decide +kernel
theorem dX10_takesWalker_13 : decode cX10_takesWalker 13 = .ok (.invokevirtual 122, 3) := by decide +kernel
theorem dX10_takesWalker_16 : decode cX10_takesWalker 16 = .ok (.ifCond .ne 5, 3) := by decide +kernel
theorem dX10_takesWalker_19 : decode cX10_takesWalker 19 = .ok (.iconst 0, 1) := by decide +kernel
theorem dX10_takesWalker_20 : decode cX10_takesWalker 20 = .ok (.ireturn, 1) := by decide +kernel
theorem dX10_takesWalker_21 : decode cX10_takesWalker 21 = .ok (.aload_n 0, 1) := by decide +kernel
theorem dX10_takesWalker_22 : decode cX10_takesWalker 22 = .ok (.getfield 107, 3) := by decide +kernel
theorem dX10_takesWalker_25 : decode cX10_takesWalker 25 = .ok (.istore_n 1, 1) := by decide +kernel
theorem dX10_takesWalker_26 : decode cX10_takesWalker 26 = .ok (.aload_n 0, 1) := by decide +kernel
theorem dX10_takesWalker_27 : decode cX10_takesWalker 27 = .ok (.iconst 0, 1) := by decide +kernel
theorem dX10_takesWalker_28 : decode cX10_takesWalker 28 = .ok (.aload_n 0, 1) := by decide +kernel
theorem dX10_takesWalker_29 : decode cX10_takesWalker 29 = .ok (.getfield 49, 3) := by decide +kernel
theorem dX10_takesWalker_32 : decode cX10_takesWalker 32 = .ok (.iconst 1, 1) := by decide +kernel
theorem dX10_takesWalker_33 : decode cX10_takesWalker 33 = .ok (.isub, 1) := by decide +kernel
theorem dX10_takesWalker_34 : decode cX10_takesWalker 34 = .ok (.bipush 44, 2) := by decide +kernel
theorem dX10_takesWalker_36 : decode cX10_takesWalker 36 = .ok (.invokevirtual 122, 3) := by decide +kernel
theorem dX10_takesWalker_39 : decode cX10_takesWalker 39 = .ok (.ifCond .ne 5, 3) := by decide +kernel
theorem dX10_takesWalker_42 : decode cX10_takesWalker 42 = .ok (.iconst 0, 1) := by decide +kernel
theorem dX10_takesWalker_43 : decode cX10_takesWalker 43 = .ok (.ireturn, 1) := by decide +kernel
theorem dX10_takesWalker_44 : decode cX10_takesWalker 44 = .ok (.aload_n 0, 1) := by decide +kernel
theorem dX10_takesWalker_45 : decode cX10_takesWalker 45 = .ok (.getfield 107, 3) := by decide +kernel
theorem dX10_takesWalker_48 : decode cX10_takesWalker 48 = .ok (.istore_n 2, 1) := by decide +kernel
theorem dX10_takesWalker_49 : decode cX10_takesWalker 49 = .ok (.aload_n 0, 1) := by decide +kernel
theorem dX10_takesWalker_50 : decode cX10_takesWalker 50 = .ok (.iconst 1, 1) := by decide +kernel
theorem dX10_takesWalker_51 : decode cX10_takesWalker 51 = .ok (.bipush 9, 2) := by decide +kernel
theorem dX10_takesWalker_53 : decode cX10_takesWalker 53 = .ok (.bipush 59, 2) := by decide +kernel
theorem dX10_takesWalker_55 : decode cX10_takesWalker 55 = .ok (.invokevirtual 122, 3) := by decide +kernel
theorem dX10_takesWalker_58 : decode cX10_takesWalker 58 = .ok (.ifCond .ne 5, 3) := by decide +kernel
theorem dX10_takesWalker_61 : decode cX10_takesWalker 61 = .ok (.iconst 0, 1) := by decide +kernel
theorem dX10_takesWalker_62 : decode cX10_takesWalker 62 = .ok (.ireturn, 1) := by decide +kernel
theorem dX10_takesWalker_63 : decode cX10_takesWalker 63 = .ok (.aload_n 0, 1) := by decide +kernel
theorem dX10_takesWalker_64 : decode cX10_takesWalker 64 = .ok (.iload_n 1, 1) := by decide +kernel
theorem dX10_takesWalker_65 : decode cX10_takesWalker 65 = .ok (.iload_n 2, 1) := by decide +kernel
theorem dX10_takesWalker_66 : decode cX10_takesWalker 66 = .ok (.aload_n 0, 1) := by decide +kernel
theorem dX10_takesWalker_67 : decode cX10_takesWalker 67 = .ok (.getfield 107, 3) := by decide +kernel
theorem dX10_takesWalker_70 : decode cX10_takesWalker 70 = .ok (.invokevirtual 57, 3) := by decide +kernel
theorem dX10_takesWalker_73 : decode cX10_takesWalker 73 = .ok (.iconst 1, 1) := by decide +kernel
theorem dX10_takesWalker_74 : decode cX10_takesWalker 74 = .ok (.ireturn, 1) := by decide +kernel
theorem dX10_takesBreaks_0 : decode cX10_takesBreaks 0 = .ok (.aload_n 0, 1) := by decide +kernel
theorem dX10_takesBreaks_1 : decode cX10_takesBreaks 1 = .ok (.bipush 10, 2) := by decide +kernel
theorem dX10_takesBreaks_3 : decode cX10_takesBreaks 3 = .ok (.bipush 99, 2) := by decide +kernel
theorem dX10_takesBreaks_5 : decode cX10_takesBreaks 5 = .ok (.bipush 59, 2) := by decide +kernel
theorem dX10_takesBreaks_7 : decode cX10_takesBreaks 7 = .ok (.invokevirtual 122, 3) := by decide +kernel
theorem dX10_takesBreaks_10 : decode cX10_takesBreaks 10 = .ok (.ifCond .ne 5, 3) := by decide +kernel
theorem dX10_takesBreaks_13 : decode cX10_takesBreaks 13 = .ok (.iconst 0, 1) := by decide +kernel
theorem dX10_takesBreaks_14 : decode cX10_takesBreaks 14 = .ok (.ireturn, 1) := by decide +kernel
theorem dX10_takesBreaks_15 : decode cX10_takesBreaks 15 = .ok (.aload_n 0, 1) := by decide +kernel
theorem dX10_takesBreaks_16 : decode cX10_takesBreaks 16 = .ok (.aload_n 0, 1) := by decide +kernel
theorem dX10_takesBreaks_17 : decode cX10_takesBreaks 17 = .ok (.getfield 107, 3) := by decide +kernel
theorem dX10_takesBreaks_20 : decode cX10_takesBreaks 20 = .ok (.putfield 60, 3) := by decide +kernel
theorem dX10_takesBreaks_23 : decode cX10_takesBreaks 23 = .ok (.iconst 1, 1) := by decide +kernel
theorem dX10_takesBreaks_24 : decode cX10_takesBreaks 24 = .ok (.ireturn, 1) := by decide +kernel
theorem dX10_takesItem_0 : decode cX10_takesItem 0 = .ok (.aload_n 0, 1) := by decide +kernel
theorem dX10_takesItem_1 : decode cX10_takesItem 1 = .ok (.aload_n 0, 1) := by decide +kernel
theorem dX10_takesItem_2 : decode cX10_takesItem 2 = .ok (.getfield 104, 3) := by decide +kernel
theorem dX10_takesItem_5 : decode cX10_takesItem 5 = .ok (.invokevirtual 110, 3) := by decide +kernel
theorem dX10_takesItem_8 : decode cX10_takesItem 8 = .ok (.istore_n 1, 1) := by decide +kernel
theorem dX10_takesItem_9 : decode cX10_takesItem 9 = .ok (.aload_n 0, 1) := by decide +kernel
theorem dX10_takesItem_10 : decode cX10_takesItem 10 = .ok (.dup, 1) := by decide +kernel
theorem dX10_takesItem_11 : decode cX10_takesItem 11 = .ok (.getfield 104, 3) := by decide +kernel
theorem dX10_takesItem_14 : decode cX10_takesItem 14 = .ok (.iconst 1, 1) := by decide +kernel
theorem dX10_takesItem_15 : decode cX10_takesItem 15 = .ok (.iadd, 1) := by decide +kernel
theorem dX10_takesItem_16 : decode cX10_takesItem 16 = .ok (.putfield 104, 3) := by decide +kernel
theorem dX10_takesItem_19 : decode cX10_takesItem 19 = .ok (.iload_n 1, 1) := by decide +kernel
theorem dX10_takesItem_20 : decode cX10_takesItem 20 = .ok (.bipush 102, 2) := by decide +kernel
theorem dX10_takesItem_22 : decode cX10_takesItem 22 = .ok (.if_icmp .ne 8, 3) := by decide +kernel
theorem dX10_takesItem_25 : decode cX10_takesItem 25 = .ok (.aload_n 0, 1) := by decide +kernel
theorem dX10_takesItem_26 : decode cX10_takesItem 26 = .ok (.invokevirtual 126, 3) := by decide +kernel
theorem dX10_takesItem_29 : decode cX10_takesItem 29 = .ok (.ireturn, 1) := by decide +kernel
theorem dX10_takesItem_30 : decode cX10_takesItem 30 = .ok (.aload_n 0, 1) := by decide +kernel
theorem dX10_takesItem_31 : decode cX10_takesItem 31 = .ok (.iconst 1, 1) := by decide +kernel
theorem dX10_takesItem_32 : decode cX10_takesItem 32 = .ok (.putfield 118, 3) := by decide +kernel
theorem dX10_takesItem_35 : decode cX10_takesItem 35 = .ok (.iload_n 1, 1) := by decide +kernel
theorem dX10_takesItem_36 : decode cX10_takesItem 36 = .ok (.bipush 115, 2) := by decide +kernel
theorem dX10_takesItem_38 : decode cX10_takesItem 38 = .ok (.if_icmp .ne 10, 3) := by decide +kernel
theorem dX10_takesItem_41 : decode cX10_takesItem 41 = .ok (.aload_n 0, 1) := by decide +kernel
theorem dX10_takesItem_42 : decode cX10_takesItem 42 = .ok (.invokevirtual 130, 3) := by decide +kernel
theorem dX10_takesItem_45 : decode cX10_takesItem 45 = .ok (.goto 34, 3) := by decide +kernel
theorem dX10_takesItem_48 : decode cX10_takesItem 48 = .ok (.iload_n 1, 1) := by decide +kernel
theorem dX10_takesItem_49 : decode cX10_takesItem 49 = .ok (.bipush 119, 2) := by decide +kernel
theorem dX10_takesItem_51 : decode cX10_takesItem 51 = .ok (.if_icmp .ne 10, 3) := by decide +kernel
theorem dX10_takesItem_54 : decode cX10_takesItem 54 = .ok (.aload_n 0, 1) := by decide +kernel
theorem dX10_takesItem_55 : decode cX10_takesItem 55 = .ok (.invokevirtual 133, 3) := by decide +kernel
theorem dX10_takesItem_58 : decode cX10_takesItem 58 = .ok (.goto 21, 3) := by decide +kernel
theorem dX10_takesItem_61 : decode cX10_takesItem 61 = .ok (.iload_n 1, 1) := by decide +kernel
theorem dX10_takesItem_62 : decode cX10_takesItem 62 = .ok (.bipush 108, 2) := by decide +kernel
theorem dX10_takesItem_64 : decode cX10_takesItem 64 = .ok (.if_icmp .ne 14, 3) := by decide +kernel
theorem dX10_takesItem_67 : decode cX10_takesItem 67 = .ok (.aload_n 0, 1) := by decide +kernel
theorem dX10_takesItem_68 : decode cX10_takesItem 68 = .ok (.invokevirtual 136, 3) := by decide +kernel
theorem dX10_takesItem_71 : decode cX10_takesItem 71 = .ok (.ifCond .eq 7, 3) := by decide +kernel
theorem dX10_takesItem_74 : decode cX10_takesItem 74 = .ok (.iconst 1, 1) := by decide +kernel
theorem dX10_takesItem_75 : decode cX10_takesItem 75 = .ok (.goto 4, 3) := by decide +kernel
theorem dX10_takesItem_78 : decode cX10_takesItem 78 = .ok (.iconst 0, 1) := by decide +kernel
theorem dX10_takesItem_79 : decode cX10_takesItem 79 = .ok (.ireturn, 1) := by decide +kernel
theorem dX10_faultOf_0 : decode cX10_faultOf 0 = .ok (.aload_n 0, 1) := by decide +kernel
theorem dX10_faultOf_1 : decode cX10_faultOf 1 = .ok (.iconst 5, 1) := by decide +kernel
theorem dX10_faultOf_2 : decode cX10_faultOf 2 = .ok (.putfield 49, 3) := by decide +kernel
theorem dX10_faultOf_5 : decode cX10_faultOf 5 = .ok (.aload_n 0, 1) := by decide +kernel
theorem dX10_faultOf_6 : decode cX10_faultOf 6 = .ok (.iconst 0, 1) := by decide +kernel
theorem dX10_faultOf_7 : decode cX10_faultOf 7 = .ok (.putfield 79, 3) := by decide +kernel
theorem dX10_faultOf_10 : decode cX10_faultOf 10 = .ok (.aload_n 0, 1) := by decide +kernel
theorem dX10_faultOf_11 : decode cX10_faultOf 11 = .ok (.iconst 0, 1) := by decide +kernel
theorem dX10_faultOf_12 : decode cX10_faultOf 12 = .ok (.putfield 82, 3) := by decide +kernel
theorem dX10_faultOf_15 : decode cX10_faultOf 15 = .ok (.aload_n 0, 1) := by decide +kernel
theorem dX10_faultOf_16 : decode cX10_faultOf 16 = .ok (.bipush 40, 2) := by decide +kernel
theorem dX10_faultOf_18 : decode cX10_faultOf 18 = .ok (.putfield 60, 3) := by decide +kernel
theorem dX10_faultOf_21 : decode cX10_faultOf 21 = .ok (.aload_n 0, 1) := by decide +kernel
theorem dX10_faultOf_22 : decode cX10_faultOf 22 = .ok (.iconst 0, 1) := by decide +kernel
theorem dX10_faultOf_23 : decode cX10_faultOf 23 = .ok (.putfield 118, 3) := by decide +kernel
theorem dX10_faultOf_26 : decode cX10_faultOf 26 = .ok (.aload_n 0, 1) := by decide +kernel
theorem dX10_faultOf_27 : decode cX10_faultOf 27 = .ok (.iconst 0, 1) := by decide +kernel
theorem dX10_faultOf_28 : decode cX10_faultOf 28 = .ok (.putfield 104, 3) := by decide +kernel
theorem dX10_faultOf_31 : decode cX10_faultOf 31 = .ok (.aload_n 0, 1) := by decide +kernel
theorem dX10_faultOf_32 : decode cX10_faultOf 32 = .ok (.getfield 104, 3) := by decide +kernel
theorem dX10_faultOf_35 : decode cX10_faultOf 35 = .ok (.aload_n 0, 1) := by decide +kernel
theorem dX10_faultOf_36 : decode cX10_faultOf 36 = .ok (.getfield 101, 3) := by decide +kernel
theorem dX10_faultOf_39 : decode cX10_faultOf 39 = .ok (.if_icmp .ge 20, 3) := by decide +kernel
theorem dX10_faultOf_42 : decode cX10_faultOf 42 = .ok (.aload_n 0, 1) := by decide +kernel
theorem dX10_faultOf_43 : decode cX10_faultOf 43 = .ok (.getfield 104, 3) := by decide +kernel
theorem dX10_faultOf_46 : decode cX10_faultOf 46 = .ok (.istore_n 1, 1) := by decide +kernel
theorem dX10_faultOf_47 : decode cX10_faultOf 47 = .ok (.aload_n 0, 1) := by decide +kernel
theorem dX10_faultOf_48 : decode cX10_faultOf 48 = .ok (.invokevirtual 139, 3) := by decide +kernel
theorem dX10_faultOf_51 : decode cX10_faultOf 51 = .ok (.ifCond .ne 5, 3) := by decide +kernel
theorem dX10_faultOf_54 : decode cX10_faultOf 54 = .ok (.iload_n 1, 1) := by decide +kernel
theorem dX10_faultOf_55 : decode cX10_faultOf 55 = .ok (.ireturn, 1) := by decide +kernel
theorem dX10_faultOf_56 : decode cX10_faultOf 56 = .ok (.goto (-25), 3) := by decide +kernel
theorem dX10_faultOf_59 : decode cX10_faultOf 59 = .ok (.bipush (-4), 2) := by decide +kernel
theorem dX10_faultOf_61 : decode cX10_faultOf 61 = .ok (.ireturn, 1) := by decide +kernel
theorem dX10_fault_0 : decode cX10_fault 0 = .ok (.aload_n 0, 1) := by decide +kernel
theorem dX10_fault_1 : decode cX10_fault 1 = .ok (.invokevirtual 142, 3) := by decide +kernel
theorem dX10_fault_4 : decode cX10_fault 4 = .ok (.ireturn, 1) := by decide +kernel
theorem dX10_lay_0 : decode cX10_lay 0 = .ok (.aload_n 0, 1) := by decide +kernel
theorem dX10_lay_1 : decode cX10_lay 1 = .ok (.invokevirtual 142, 3) := by decide +kernel
theorem dX10_lay_4 : decode cX10_lay 4 = .ok (.bipush (-4), 2) := by decide +kernel
theorem dX10_lay_6 : decode cX10_lay 6 = .ok (.if_icmp .ne 10, 3) := by decide +kernel
theorem dX10_lay_9 : decode cX10_lay 9 = .ok (.aload_n 0, 1) := by decide +kernel
theorem dX10_lay_10 : decode cX10_lay 10 = .ok (.getfield 82, 3) := by decide +kernel
theorem dX10_lay_13 : decode cX10_lay 13 = .ok (.ifCond .ne 6, 3) := by decide +kernel
theorem dX10_lay_16 : decode cX10_lay 16 = .ok (.bipush (-2), 2) := by decide +kernel
theorem dX10_lay_18 : decode cX10_lay 18 = .ok (.ireturn, 1) := by decide +kernel
theorem dX10_lay_19 : decode cX10_lay 19 = .ok (.aload_n 0, 1) := by decide +kernel
theorem dX10_lay_20 : decode cX10_lay 20 = .ok (.invokevirtual 63, 3) := by decide +kernel
theorem dX10_lay_23 : decode cX10_lay 23 = .ok (.aload_n 0, 1) := by decide +kernel
theorem dX10_lay_24 : decode cX10_lay 24 = .ok (.getfield 66, 3) := by decide +kernel
theorem dX10_lay_27 : decode cX10_lay 27 = .ok (.ireturn, 1) := by decide +kernel
theorem dX10_isBroken_0 : decode cX10_isBroken 0 = .ok (.aload_n 0, 1) := by decide +kernel
theorem dX10_isBroken_1 : decode cX10_isBroken 1 = .ok (.getfield 7, 3) := by decide +kernel
theorem dX10_isBroken_4 : decode cX10_isBroken 4 = .ok (.iload_n 1, 1) := by decide +kernel
theorem dX10_isBroken_5 : decode cX10_isBroken 5 = .ok (.iconst 1, 1) := by decide +kernel
theorem dX10_isBroken_6 : decode cX10_isBroken 6 = .ok (.iadd, 1) := by decide +kernel
theorem dX10_isBroken_7 : decode cX10_isBroken 7 = .ok (.iload_n 2, 1) := by decide +kernel
theorem dX10_isBroken_8 : decode cX10_isBroken 8 = .ok (.iadd, 1) := by decide +kernel
theorem dX10_isBroken_9 : decode cX10_isBroken 9 = .ok (.iaload, 1) := by decide +kernel
theorem dX10_isBroken_10 : decode cX10_isBroken 10 = .ok (.aload_n 0, 1) := by decide +kernel
theorem dX10_isBroken_11 : decode cX10_isBroken 11 = .ok (.getfield 85, 3) := by decide +kernel
theorem dX10_isBroken_14 : decode cX10_isBroken 14 = .ok (.if_icmp .lt 7, 3) := by decide +kernel
theorem dX10_isBroken_17 : decode cX10_isBroken 17 = .ok (.iconst 1, 1) := by decide +kernel
theorem dX10_isBroken_18 : decode cX10_isBroken 18 = .ok (.goto 4, 3) := by decide +kernel
theorem dX10_isBroken_21 : decode cX10_isBroken 21 = .ok (.iconst 0, 1) := by decide +kernel
theorem dX10_isBroken_22 : decode cX10_isBroken 22 = .ok (.ireturn, 1) := by decide +kernel
theorem dX10_isAt_0 : decode cX10_isAt 0 = .ok (.aload_n 0, 1) := by decide +kernel
theorem dX10_isAt_1 : decode cX10_isAt 1 = .ok (.getfield 16, 3) := by decide +kernel
theorem dX10_isAt_4 : decode cX10_isAt 4 = .ok (.iload_n 1, 1) := by decide +kernel
theorem dX10_isAt_5 : decode cX10_isAt 5 = .ok (.iaload, 1) := by decide +kernel
theorem dX10_isAt_6 : decode cX10_isAt 6 = .ok (.iload_n 2, 1) := by decide +kernel
theorem dX10_isAt_7 : decode cX10_isAt 7 = .ok (.if_icmp .eq 13, 3) := by decide +kernel
theorem dX10_isAt_10 : decode cX10_isAt 10 = .ok (.aload_n 0, 1) := by decide +kernel
theorem dX10_isAt_11 : decode cX10_isAt 11 = .ok (.getfield 19, 3) := by decide +kernel
theorem dX10_isAt_14 : decode cX10_isAt 14 = .ok (.iload_n 1, 1) := by decide +kernel
theorem dX10_isAt_15 : decode cX10_isAt 15 = .ok (.iaload, 1) := by decide +kernel
theorem dX10_isAt_16 : decode cX10_isAt 16 = .ok (.iload_n 2, 1) := by decide +kernel
theorem dX10_isAt_17 : decode cX10_isAt 17 = .ok (.if_icmp .ne 7, 3) := by decide +kernel
theorem dX10_isAt_20 : decode cX10_isAt 20 = .ok (.iconst 1, 1) := by decide +kernel
theorem dX10_isAt_21 : decode cX10_isAt 21 = .ok (.goto 4, 3) := by decide +kernel
theorem dX10_isAt_24 : decode cX10_isAt 24 = .ok (.iconst 0, 1) := by decide +kernel
theorem dX10_isAt_25 : decode cX10_isAt 25 = .ok (.ireturn, 1) := by decide +kernel
theorem dX10_otherEnd_0 : decode cX10_otherEnd 0 = .ok (.aload_n 0, 1) := by decide +kernel
theorem dX10_otherEnd_1 : decode cX10_otherEnd 1 = .ok (.getfield 16, 3) := by decide +kernel
theorem dX10_otherEnd_4 : decode cX10_otherEnd 4 = .ok (.iload_n 1, 1) := by decide +kernel
theorem dX10_otherEnd_5 : decode cX10_otherEnd 5 = .ok (.iaload, 1) := by decide +kernel
theorem dX10_otherEnd_6 : decode cX10_otherEnd 6 = .ok (.iload_n 2, 1) := by decide +kernel
theorem dX10_otherEnd_7 : decode cX10_otherEnd 7 = .ok (.if_icmp .ne 12, 3) := by decide +kernel
theorem dX10_otherEnd_10 : decode cX10_otherEnd 10 = .ok (.aload_n 0, 1) := by decide +kernel
theorem dX10_otherEnd_11 : decode cX10_otherEnd 11 = .ok (.getfield 19, 3) := by decide +kernel
theorem dX10_otherEnd_14 : decode cX10_otherEnd 14 = .ok (.iload_n 1, 1) := by decide +kernel
theorem dX10_otherEnd_15 : decode cX10_otherEnd 15 = .ok (.iaload, 1) := by decide +kernel
theorem dX10_otherEnd_16 : decode cX10_otherEnd 16 = .ok (.goto 9, 3) := by decide +kernel
theorem dX10_otherEnd_19 : decode cX10_otherEnd 19 = .ok (.aload_n 0, 1) := by decide +kernel
theorem dX10_otherEnd_20 : decode cX10_otherEnd 20 = .ok (.getfield 16, 3) := by decide +kernel
theorem dX10_otherEnd_23 : decode cX10_otherEnd 23 = .ok (.iload_n 1, 1) := by decide +kernel
theorem dX10_otherEnd_24 : decode cX10_otherEnd 24 = .ok (.iaload, 1) := by decide +kernel
theorem dX10_otherEnd_25 : decode cX10_otherEnd 25 = .ok (.ireturn, 1) := by decide +kernel
theorem dX10_wears_0 : decode cX10_wears 0 = .ok (.aload_n 0, 1) := by decide +kernel
theorem dX10_wears_1 : decode cX10_wears 1 = .ok (.getfield 13, 3) := by decide +kernel
theorem dX10_wears_4 : decode cX10_wears 4 = .ok (.iload_n 2, 1) := by decide +kernel
theorem dX10_wears_5 : decode cX10_wears 5 = .ok (.iaload, 1) := by decide +kernel
theorem dX10_wears_6 : decode cX10_wears 6 = .ok (.iconst 2, 1) := by decide +kernel
theorem dX10_wears_7 : decode cX10_wears 7 = .ok (.if_icmp .lt 7, 3) := by decide +kernel
theorem dX10_wears_10 : decode cX10_wears 10 = .ok (.iconst 0, 1) := by decide +kernel
theorem dX10_wears_11 : decode cX10_wears 11 = .ok (.goto 30, 3) := by decide +kernel
theorem dX10_wears_14 : decode cX10_wears 14 = .ok (.aload_n 0, 1) := by decide +kernel
theorem dX10_wears_15 : decode cX10_wears 15 = .ok (.getfield 13, 3) := by decide +kernel
theorem dX10_wears_18 : decode cX10_wears 18 = .ok (.iload_n 2, 1) := by decide +kernel
theorem dX10_wears_19 : decode cX10_wears 19 = .ok (.iaload, 1) := by decide +kernel
theorem dX10_wears_20 : decode cX10_wears 20 = .ok (.iconst 1, 1) := by decide +kernel
theorem dX10_wears_21 : decode cX10_wears 21 = .ok (.if_icmp .ne 14, 3) := by decide +kernel
theorem dX10_wears_24 : decode cX10_wears 24 = .ok (.iconst 2, 1) := by decide +kernel
theorem dX10_wears_25 : decode cX10_wears 25 = .ok (.aload_n 0, 1) := by decide +kernel
theorem dX10_wears_26 : decode cX10_wears 26 = .ok (.getfield 25, 3) := by decide +kernel
theorem dX10_wears_29 : decode cX10_wears 29 = .ok (.iload_n 1, 1) := by decide +kernel
theorem dX10_wears_30 : decode cX10_wears 30 = .ok (.iaload, 1) := by decide +kernel
theorem dX10_wears_31 : decode cX10_wears 31 = .ok (.imul, 1) := by decide +kernel
theorem dX10_wears_32 : decode cX10_wears 32 = .ok (.goto 9, 3) := by decide +kernel
theorem dX10_wears_35 : decode cX10_wears 35 = .ok (.aload_n 0, 1) := by decide +kernel
theorem dX10_wears_36 : decode cX10_wears 36 = .ok (.getfield 25, 3) := by decide +kernel
theorem dX10_wears_39 : decode cX10_wears 39 = .ok (.iload_n 1, 1) := by decide +kernel
theorem dX10_wears_40 : decode cX10_wears 40 = .ok (.iaload, 1) := by decide +kernel
theorem dX10_wears_41 : decode cX10_wears 41 = .ok (.istore_n 3, 1) := by decide +kernel
theorem dX10_wears_42 : decode cX10_wears 42 = .ok (.aload_n 0, 1) := by decide +kernel
theorem dX10_wears_43 : decode cX10_wears 43 = .ok (.getfield 22, 3) := by decide +kernel
theorem dX10_wears_46 : decode cX10_wears 46 = .ok (.iload_n 1, 1) := by decide +kernel
theorem dX10_wears_47 : decode cX10_wears 47 = .ok (.iaload, 1) := by decide +kernel
theorem dX10_wears_48 : decode cX10_wears 48 = .ok (.iconst 2, 1) := by decide +kernel
theorem dX10_wears_49 : decode cX10_wears 49 = .ok (.if_icmp .ne 9, 3) := by decide +kernel
theorem dX10_wears_52 : decode cX10_wears 52 = .ok (.iconst 2, 1) := by decide +kernel
theorem dX10_wears_53 : decode cX10_wears 53 = .ok (.iload_n 3, 1) := by decide +kernel
theorem dX10_wears_54 : decode cX10_wears 54 = .ok (.imul, 1) := by decide +kernel
theorem dX10_wears_55 : decode cX10_wears 55 = .ok (.goto 4, 3) := by decide +kernel
theorem dX10_wears_58 : decode cX10_wears 58 = .ok (.iload_n 3, 1) := by decide +kernel
theorem dX10_wears_59 : decode cX10_wears 59 = .ok (.ireturn, 1) := by decide +kernel
theorem dX10_earns_0 : decode cX10_earns 0 = .ok (.aload_n 0, 1) := by decide +kernel
theorem dX10_earns_1 : decode cX10_earns 1 = .ok (.getfield 13, 3) := by decide +kernel
theorem dX10_earns_4 : decode cX10_earns 4 = .ok (.iload_n 2, 1) := by decide +kernel
theorem dX10_earns_5 : decode cX10_earns 5 = .ok (.iaload, 1) := by decide +kernel
theorem dX10_earns_6 : decode cX10_earns 6 = .ok (.iconst 3, 1) := by decide +kernel
theorem dX10_earns_7 : decode cX10_earns 7 = .ok (.if_icmp .eq 13, 3) := by decide +kernel
theorem dX10_earns_10 : decode cX10_earns 10 = .ok (.aload_n 0, 1) := by decide +kernel
theorem dX10_earns_11 : decode cX10_earns 11 = .ok (.getfield 22, 3) := by decide +kernel
theorem dX10_earns_14 : decode cX10_earns 14 = .ok (.iload_n 1, 1) := by decide +kernel
theorem dX10_earns_15 : decode cX10_earns 15 = .ok (.iaload, 1) := by decide +kernel
theorem dX10_earns_16 : decode cX10_earns 16 = .ok (.iconst 3, 1) := by decide +kernel
theorem dX10_earns_17 : decode cX10_earns 17 = .ok (.if_icmp .ne 7, 3) := by decide +kernel
theorem dX10_earns_20 : decode cX10_earns 20 = .ok (.iconst 0, 1) := by decide +kernel
theorem dX10_earns_21 : decode cX10_earns 21 = .ok (.goto 18, 3) := by decide +kernel
theorem dX10_earns_24 : decode cX10_earns 24 = .ok (.aload_n 0, 1) := by decide +kernel
theorem dX10_earns_25 : decode cX10_earns 25 = .ok (.getfield 22, 3) := by decide +kernel
theorem dX10_earns_28 : decode cX10_earns 28 = .ok (.iload_n 1, 1) := by decide +kernel
theorem dX10_earns_29 : decode cX10_earns 29 = .ok (.iaload, 1) := by decide +kernel
theorem dX10_earns_30 : decode cX10_earns 30 = .ok (.iconst 1, 1) := by decide +kernel
theorem dX10_earns_31 : decode cX10_earns 31 = .ok (.if_icmp .ne 7, 3) := by decide +kernel
theorem dX10_earns_34 : decode cX10_earns 34 = .ok (.iconst 2, 1) := by decide +kernel
theorem dX10_earns_35 : decode cX10_earns 35 = .ok (.goto 4, 3) := by decide +kernel
theorem dX10_earns_38 : decode cX10_earns 38 = .ok (.iconst 1, 1) := by decide +kernel
theorem dX10_earns_39 : decode cX10_earns 39 = .ok (.ireturn, 1) := by decide +kernel
theorem dX10_wornMore_0 : decode cX10_wornMore 0 = .ok (.aload_n 0, 1) := by decide +kernel
theorem dX10_wornMore_1 : decode cX10_wornMore 1 = .ok (.getfield 7, 3) := by decide +kernel
theorem dX10_wornMore_4 : decode cX10_wornMore 4 = .ok (.iload_n 1, 1) := by decide +kernel
theorem dX10_wornMore_5 : decode cX10_wornMore 5 = .ok (.iconst 1, 1) := by decide +kernel
theorem dX10_wornMore_6 : decode cX10_wornMore 6 = .ok (.iadd, 1) := by decide +kernel
theorem dX10_wornMore_7 : decode cX10_wornMore 7 = .ok (.iload_n 2, 1) := by decide +kernel
theorem dX10_wornMore_8 : decode cX10_wornMore 8 = .ok (.iadd, 1) := by decide +kernel
theorem dX10_wornMore_9 : decode cX10_wornMore 9 = .ok (.iaload, 1) := by decide +kernel
theorem dX10_wornMore_10 : decode cX10_wornMore 10 = .ok (.iload_n 3, 1) := by decide +kernel
theorem dX10_wornMore_11 : decode cX10_wornMore 11 = .ok (.iadd, 1) := by decide +kernel
theorem dX10_wornMore_12 : decode cX10_wornMore 12 = .ok (.istore 4, 2) := by decide +kernel
theorem dX10_wornMore_14 : decode cX10_wornMore 14 = .ok (.aload_n 0, 1) := by decide +kernel
theorem dX10_wornMore_15 : decode cX10_wornMore 15 = .ok (.getfield 7, 3) := by decide +kernel
theorem dX10_wornMore_18 : decode cX10_wornMore 18 = .ok (.iload_n 1, 1) := by decide +kernel
theorem dX10_wornMore_19 : decode cX10_wornMore 19 = .ok (.iconst 1, 1) := by decide +kernel
theorem dX10_wornMore_20 : decode cX10_wornMore 20 = .ok (.iadd, 1) := by decide +kernel
theorem dX10_wornMore_21 : decode cX10_wornMore 21 = .ok (.iload_n 2, 1) := by decide +kernel
theorem dX10_wornMore_22 : decode cX10_wornMore 22 = .ok (.iadd, 1) := by decide +kernel
theorem dX10_wornMore_23 : decode cX10_wornMore 23 = .ok (.iload 4, 2) := by decide +kernel
theorem dX10_wornMore_25 : decode cX10_wornMore 25 = .ok (.sipush 999, 3) := by decide +kernel
theorem dX10_wornMore_28 : decode cX10_wornMore 28 = .ok (.if_icmp .le 9, 3) := by decide +kernel
theorem dX10_wornMore_31 : decode cX10_wornMore 31 = .ok (.sipush 999, 3) := by decide +kernel
theorem dX10_wornMore_34 : decode cX10_wornMore 34 = .ok (.goto 5, 3) := by decide +kernel
theorem dX10_wornMore_37 : decode cX10_wornMore 37 = .ok (.iload 4, 2) := by decide +kernel
theorem dX10_wornMore_39 : decode cX10_wornMore 39 = .ok (.iastore, 1) := by decide +kernel
theorem dX10_wornMore_40 : decode cX10_wornMore 40 = .ok (.return_, 1) := by decide +kernel
theorem dX10_goes_0 : decode cX10_goes 0 = .ok (.aload_n 0, 1) := by decide +kernel
theorem dX10_goes_1 : decode cX10_goes 1 = .ok (.getfield 16, 3) := by decide +kernel
theorem dX10_goes_4 : decode cX10_goes 4 = .ok (.iload_n 3, 1) := by decide +kernel
theorem dX10_goes_5 : decode cX10_goes 5 = .ok (.iaload, 1) := by decide +kernel
theorem dX10_goes_6 : decode cX10_goes 6 = .ok (.aload_n 0, 1) := by decide +kernel
theorem dX10_goes_7 : decode cX10_goes 7 = .ok (.getfield 7, 3) := by decide +kernel
theorem dX10_goes_10 : decode cX10_goes 10 = .ok (.iload_n 1, 1) := by decide +kernel
theorem dX10_goes_11 : decode cX10_goes 11 = .ok (.bipush 10, 2) := by decide +kernel
theorem dX10_goes_13 : decode cX10_goes 13 = .ok (.iadd, 1) := by decide +kernel
theorem dX10_goes_14 : decode cX10_goes 14 = .ok (.iload_n 2, 1) := by decide +kernel
theorem dX10_goes_15 : decode cX10_goes 15 = .ok (.iadd, 1) := by decide +kernel
theorem dX10_goes_16 : decode cX10_goes 16 = .ok (.iaload, 1) := by decide +kernel
theorem dX10_goes_17 : decode cX10_goes 17 = .ok (.if_icmp .ne 7, 3) := by decide +kernel
theorem dX10_goes_20 : decode cX10_goes 20 = .ok (.iconst 1, 1) := by decide +kernel
theorem dX10_goes_21 : decode cX10_goes 21 = .ok (.goto 4, 3) := by decide +kernel
theorem dX10_goes_24 : decode cX10_goes 24 = .ok (.iconst 0, 1) := by decide +kernel
theorem dX10_goes_25 : decode cX10_goes 25 = .ok (.istore 4, 2) := by decide +kernel
theorem dX10_goes_27 : decode cX10_goes 27 = .ok (.aload_n 0, 1) := by decide +kernel
theorem dX10_goes_28 : decode cX10_goes 28 = .ok (.getfield 7, 3) := by decide +kernel
theorem dX10_goes_31 : decode cX10_goes 31 = .ok (.iload_n 1, 1) := by decide +kernel
theorem dX10_goes_32 : decode cX10_goes 32 = .ok (.bipush 10, 2) := by decide +kernel
theorem dX10_goes_34 : decode cX10_goes 34 = .ok (.iadd, 1) := by decide +kernel
theorem dX10_goes_35 : decode cX10_goes 35 = .ok (.iload_n 2, 1) := by decide +kernel
theorem dX10_goes_36 : decode cX10_goes 36 = .ok (.iadd, 1) := by decide +kernel
theorem dX10_goes_37 : decode cX10_goes 37 = .ok (.aload_n 0, 1) := by decide +kernel
theorem dX10_goes_38 : decode cX10_goes 38 = .ok (.iload_n 3, 1) := by decide +kernel
theorem dX10_goes_39 : decode cX10_goes 39 = .ok (.aload_n 0, 1) := by decide +kernel
theorem dX10_goes_40 : decode cX10_goes 40 = .ok (.getfield 7, 3) := by decide +kernel
theorem dX10_goes_43 : decode cX10_goes 43 = .ok (.iload_n 1, 1) := by decide +kernel
theorem dX10_goes_44 : decode cX10_goes 44 = .ok (.bipush 10, 2) := by decide +kernel
theorem dX10_goes_46 : decode cX10_goes 46 = .ok (.iadd, 1) := by decide +kernel
theorem dX10_goes_47 : decode cX10_goes 47 = .ok (.iload_n 2, 1) := by decide +kernel
theorem dX10_goes_48 : decode cX10_goes 48 = .ok (.iadd, 1) := by decide +kernel
theorem dX10_goes_49 : decode cX10_goes 49 = .ok (.iaload, 1) := by decide +kernel
theorem dX10_goes_50 : decode cX10_goes 50 = .ok (.invokevirtual 146, 3) := by decide +kernel
theorem dX10_goes_53 : decode cX10_goes 53 = .ok (.iastore, 1) := by decide +kernel
theorem dX10_goes_54 : decode cX10_goes 54 = .ok (.aload_n 0, 1) := by decide +kernel
theorem dX10_goes_55 : decode cX10_goes 55 = .ok (.iload_n 1, 1) := by decide +kernel
theorem dX10_goes_56 : decode cX10_goes 56 = .ok (.iload_n 3, 1) := by decide +kernel
theorem dX10_goes_57 : decode cX10_goes 57 = .ok (.aload_n 0, 1) := by decide +kernel
theorem dX10_goes_58 : decode cX10_goes 58 = .ok (.iload_n 2, 1) := by decide +kernel
theorem dX10_goes_59 : decode cX10_goes 59 = .ok (.iload_n 3, 1) := by decide +kernel
theorem dX10_goes_60 : decode cX10_goes 60 = .ok (.invokevirtual 150, 3) := by decide +kernel
theorem dX10_goes_63 : decode cX10_goes 63 = .ok (.invokevirtual 153, 3) := by decide +kernel
theorem dX10_goes_66 : decode cX10_goes 66 = .ok (.aload_n 0, 1) := by decide +kernel
theorem dX10_goes_67 : decode cX10_goes 67 = .ok (.getfield 7, 3) := by decide +kernel
theorem dX10_goes_70 : decode cX10_goes 70 = .ok (.iload_n 1, 1) := by decide +kernel
theorem dX10_goes_71 : decode cX10_goes 71 = .ok (.bipush 14, 2) := by decide +kernel
theorem dX10_goes_73 : decode cX10_goes 73 = .ok (.iadd, 1) := by decide +kernel
theorem dX10_goes_74 : decode cX10_goes 74 = .ok (.iload_n 2, 1) := by decide +kernel
theorem dX10_goes_75 : decode cX10_goes 75 = .ok (.iadd, 1) := by decide +kernel
theorem dX10_goes_76 : decode cX10_goes 76 = .ok (.dup2, 1) := by decide +kernel
theorem dX10_goes_77 : decode cX10_goes 77 = .ok (.iaload, 1) := by decide +kernel
theorem dX10_goes_78 : decode cX10_goes 78 = .ok (.aload_n 0, 1) := by decide +kernel
theorem dX10_goes_79 : decode cX10_goes 79 = .ok (.iload_n 2, 1) := by decide +kernel
theorem dX10_goes_80 : decode cX10_goes 80 = .ok (.iload_n 3, 1) := by decide +kernel
theorem dX10_goes_81 : decode cX10_goes 81 = .ok (.invokevirtual 156, 3) := by decide +kernel
theorem dX10_goes_84 : decode cX10_goes 84 = .ok (.iadd, 1) := by decide +kernel
theorem dX10_goes_85 : decode cX10_goes 85 = .ok (.iastore, 1) := by decide +kernel
theorem dX10_goes_86 : decode cX10_goes 86 = .ok (.aload_n 0, 1) := by decide +kernel
theorem dX10_goes_87 : decode cX10_goes 87 = .ok (.getfield 7, 3) := by decide +kernel
theorem dX10_goes_90 : decode cX10_goes 90 = .ok (.iload_n 1, 1) := by decide +kernel
theorem dX10_goes_91 : decode cX10_goes 91 = .ok (.bipush 22, 2) := by decide +kernel
theorem dX10_goes_93 : decode cX10_goes 93 = .ok (.iadd, 1) := by decide +kernel
theorem dX10_goes_94 : decode cX10_goes 94 = .ok (.bipush 9, 2) := by decide +kernel
theorem dX10_goes_96 : decode cX10_goes 96 = .ok (.iload_n 2, 1) := by decide +kernel
theorem dX10_goes_97 : decode cX10_goes 97 = .ok (.imul, 1) := by decide +kernel
theorem dX10_goes_98 : decode cX10_goes 98 = .ok (.iadd, 1) := by decide +kernel
theorem dX10_goes_99 : decode cX10_goes 99 = .ok (.iload_n 3, 1) := by decide +kernel
theorem dX10_goes_100 : decode cX10_goes 100 = .ok (.iadd, 1) := by decide +kernel
theorem dX10_goes_101 : decode cX10_goes 101 = .ok (.dup2, 1) := by decide +kernel
theorem dX10_goes_102 : decode cX10_goes 102 = .ok (.iaload, 1) := by decide +kernel
theorem dX10_goes_103 : decode cX10_goes 103 = .ok (.iload 4, 2) := by decide +kernel
theorem dX10_goes_105 : decode cX10_goes 105 = .ok (.ifCond .eq 7, 3) := by decide +kernel
theorem dX10_goes_108 : decode cX10_goes 108 = .ok (.iconst 1, 1) := by decide +kernel
theorem dX10_goes_109 : decode cX10_goes 109 = .ok (.goto 4, 3) := by decide +kernel
theorem dX10_goes_112 : decode cX10_goes 112 = .ok (.iconst (-1), 1) := by decide +kernel
theorem dX10_goes_113 : decode cX10_goes 113 = .ok (.iadd, 1) := by decide +kernel
theorem dX10_goes_114 : decode cX10_goes 114 = .ok (.iastore, 1) := by decide +kernel
theorem dX10_goes_115 : decode cX10_goes 115 = .ok (.aload_n 0, 1) := by decide +kernel
theorem dX10_goes_116 : decode cX10_goes 116 = .ok (.getfield 7, 3) := by decide +kernel
theorem dX10_goes_119 : decode cX10_goes 119 = .ok (.iload_n 1, 1) := by decide +kernel
theorem dX10_goes_120 : decode cX10_goes 120 = .ok (.bipush 18, 2) := by decide +kernel
theorem dX10_goes_122 : decode cX10_goes 122 = .ok (.iadd, 1) := by decide +kernel
theorem dX10_goes_123 : decode cX10_goes 123 = .ok (.iload_n 2, 1) := by decide +kernel
theorem dX10_goes_124 : decode cX10_goes 124 = .ok (.iadd, 1) := by decide +kernel
theorem dX10_goes_125 : decode cX10_goes 125 = .ok (.iload_n 3, 1) := by decide +kernel
theorem dX10_goes_126 : decode cX10_goes 126 = .ok (.iastore, 1) := by decide +kernel
theorem dX10_goes_127 : decode cX10_goes 127 = .ok (.aload_n 0, 1) := by decide +kernel
theorem dX10_goes_128 : decode cX10_goes 128 = .ok (.getfield 7, 3) := by decide +kernel
theorem dX10_goes_131 : decode cX10_goes 131 = .ok (.iload_n 1, 1) := by decide +kernel
theorem dX10_goes_132 : decode cX10_goes 132 = .ok (.iconst 0, 1) := by decide +kernel
theorem dX10_goes_133 : decode cX10_goes 133 = .ok (.iadd, 1) := by decide +kernel
theorem dX10_goes_134 : decode cX10_goes 134 = .ok (.dup2, 1) := by decide +kernel
theorem dX10_goes_135 : decode cX10_goes 135 = .ok (.iaload, 1) := by decide +kernel
theorem dX10_goes_136 : decode cX10_goes 136 = .ok (.iconst 1, 1) := by decide +kernel
theorem dX10_goes_137 : decode cX10_goes 137 = .ok (.iadd, 1) := by decide +kernel
theorem dX10_goes_138 : decode cX10_goes 138 = .ok (.iastore, 1) := by decide +kernel
theorem dX10_goes_139 : decode cX10_goes 139 = .ok (.return_, 1) := by decide +kernel
theorem dX10_isAnew_0 : decode cX10_isAnew 0 = .ok (.aload_n 0, 1) := by decide +kernel
theorem dX10_isAnew_1 : decode cX10_isAnew 1 = .ok (.getfield 7, 3) := by decide +kernel
theorem dX10_isAnew_4 : decode cX10_isAnew 4 = .ok (.iload_n 1, 1) := by decide +kernel
theorem dX10_isAnew_5 : decode cX10_isAnew 5 = .ok (.iconst 1, 1) := by decide +kernel
theorem dX10_isAnew_6 : decode cX10_isAnew 6 = .ok (.iadd, 1) := by decide +kernel
theorem dX10_isAnew_7 : decode cX10_isAnew 7 = .ok (.iload_n 2, 1) := by decide +kernel
theorem dX10_isAnew_8 : decode cX10_isAnew 8 = .ok (.iadd, 1) := by decide +kernel
theorem dX10_isAnew_9 : decode cX10_isAnew 9 = .ok (.iconst 0, 1) := by decide +kernel
theorem dX10_isAnew_10 : decode cX10_isAnew 10 = .ok (.iastore, 1) := by decide +kernel
theorem dX10_isAnew_11 : decode cX10_isAnew 11 = .ok (.iconst 0, 1) := by decide +kernel
theorem dX10_isAnew_12 : decode cX10_isAnew 12 = .ok (.istore_n 3, 1) := by decide +kernel
theorem dX10_isAnew_13 : decode cX10_isAnew 13 = .ok (.iload_n 3, 1) := by decide +kernel
theorem dX10_isAnew_14 : decode cX10_isAnew 14 = .ok (.aload_n 0, 1) := by decide +kernel
theorem dX10_isAnew_15 : decode cX10_isAnew 15 = .ok (.getfield 76, 3) := by decide +kernel
theorem dX10_isAnew_18 : decode cX10_isAnew 18 = .ok (.if_icmp .ge 26, 3) := by decide +kernel
theorem dX10_isAnew_21 : decode cX10_isAnew 21 = .ok (.aload_n 0, 1) := by decide +kernel
theorem dX10_isAnew_22 : decode cX10_isAnew 22 = .ok (.getfield 7, 3) := by decide +kernel
theorem dX10_isAnew_25 : decode cX10_isAnew 25 = .ok (.iload_n 1, 1) := by decide +kernel
theorem dX10_isAnew_26 : decode cX10_isAnew 26 = .ok (.bipush 22, 2) := by decide +kernel
theorem dX10_isAnew_28 : decode cX10_isAnew 28 = .ok (.iadd, 1) := by decide +kernel
theorem dX10_isAnew_29 : decode cX10_isAnew 29 = .ok (.bipush 9, 2) := by decide +kernel
theorem dX10_isAnew_31 : decode cX10_isAnew 31 = .ok (.iload_n 3, 1) := by decide +kernel
theorem dX10_isAnew_32 : decode cX10_isAnew 32 = .ok (.imul, 1) := by decide +kernel
theorem dX10_isAnew_33 : decode cX10_isAnew 33 = .ok (.iadd, 1) := by decide +kernel
theorem dX10_isAnew_34 : decode cX10_isAnew 34 = .ok (.iload_n 2, 1) := by decide +kernel
theorem dX10_isAnew_35 : decode cX10_isAnew 35 = .ok (.iadd, 1) := by decide +kernel
theorem dX10_isAnew_36 : decode cX10_isAnew 36 = .ok (.iconst 0, 1) := by decide +kernel
theorem dX10_isAnew_37 : decode cX10_isAnew 37 = .ok (.iastore, 1) := by decide +kernel
theorem dX10_isAnew_38 : decode cX10_isAnew 38 = .ok (.iinc 3 1, 3) := by decide +kernel
theorem dX10_isAnew_41 : decode cX10_isAnew 41 = .ok (.goto (-28), 3) := by decide +kernel
theorem dX10_isAnew_44 : decode cX10_isAnew 44 = .ok (.return_, 1) := by decide +kernel
theorem dX10_isLevel_0 : decode cX10_isLevel 0 = .ok (.iconst 1, 1) := by decide +kernel
theorem dX10_isLevel_1 : decode cX10_isLevel 1 = .ok (.istore_n 2, 1) := by decide +kernel
theorem dX10_isLevel_2 : decode cX10_isLevel 2 = .ok (.iconst 0, 1) := by decide +kernel
theorem dX10_isLevel_3 : decode cX10_isLevel 3 = .ok (.istore_n 3, 1) := by decide +kernel
theorem dX10_isLevel_4 : decode cX10_isLevel 4 = .ok (.iload_n 3, 1) := by decide +kernel
theorem dX10_isLevel_5 : decode cX10_isLevel 5 = .ok (.aload_n 0, 1) := by decide +kernel
theorem dX10_isLevel_6 : decode cX10_isLevel 6 = .ok (.getfield 73, 3) := by decide +kernel
theorem dX10_isLevel_9 : decode cX10_isLevel 9 = .ok (.if_icmp .ge 36, 3) := by decide +kernel
theorem dX10_isLevel_12 : decode cX10_isLevel 12 = .ok (.iload_n 2, 1) := by decide +kernel
theorem dX10_isLevel_13 : decode cX10_isLevel 13 = .ok (.ifCond .eq 24, 3) := by decide +kernel
theorem dX10_isLevel_16 : decode cX10_isLevel 16 = .ok (.aload_n 0, 1) := by decide +kernel
theorem dX10_isLevel_17 : decode cX10_isLevel 17 = .ok (.getfield 7, 3) := by decide +kernel
theorem dX10_isLevel_20 : decode cX10_isLevel 20 = .ok (.bipush 22, 2) := by decide +kernel
theorem dX10_isLevel_22 : decode cX10_isLevel 22 = .ok (.bipush 9, 2) := by decide +kernel
theorem dX10_isLevel_24 : decode cX10_isLevel 24 = .ok (.iload_n 1, 1) := by decide +kernel
theorem dX10_isLevel_25 : decode cX10_isLevel 25 = .ok (.imul, 1) := by decide +kernel
theorem dX10_isLevel_26 : decode cX10_isLevel 26 = .ok (.iadd, 1) := by decide +kernel
theorem dX10_isLevel_27 : decode cX10_isLevel 27 = .ok (.iload_n 3, 1) := by decide +kernel
theorem dX10_isLevel_28 : decode cX10_isLevel 28 = .ok (.iadd, 1) := by decide +kernel
theorem dX10_isLevel_29 : decode cX10_isLevel 29 = .ok (.iaload, 1) := by decide +kernel
theorem dX10_isLevel_30 : decode cX10_isLevel 30 = .ok (.ifCond .ne 7, 3) := by decide +kernel
theorem dX10_isLevel_33 : decode cX10_isLevel 33 = .ok (.iconst 1, 1) := by decide +kernel
theorem dX10_isLevel_34 : decode cX10_isLevel 34 = .ok (.goto 4, 3) := by decide +kernel
theorem dX10_isLevel_37 : decode cX10_isLevel 37 = .ok (.iconst 0, 1) := by decide +kernel
theorem dX10_isLevel_38 : decode cX10_isLevel 38 = .ok (.istore_n 2, 1) := by decide +kernel
theorem dX10_isLevel_39 : decode cX10_isLevel 39 = .ok (.iinc 3 1, 3) := by decide +kernel
theorem dX10_isLevel_42 : decode cX10_isLevel 42 = .ok (.goto (-38), 3) := by decide +kernel
theorem dX10_isLevel_45 : decode cX10_isLevel 45 = .ok (.iload_n 2, 1) := by decide +kernel
theorem dX10_isLevel_46 : decode cX10_isLevel 46 = .ok (.ireturn, 1) := by decide +kernel
theorem dX10_stile_0 : decode cX10_stile 0 = .ok (.aload_n 0, 1) := by decide +kernel
theorem dX10_stile_1 : decode cX10_stile 1 = .ok (.iload_n 1, 1) := by decide +kernel
theorem dX10_stile_2 : decode cX10_stile 2 = .ok (.invokevirtual 159, 3) := by decide +kernel
theorem dX10_stile_5 : decode cX10_stile 5 = .ok (.ifCond .ne 5, 3) := by decide +kernel
theorem dX10_stile_8 : decode cX10_stile 8 = .ok (.iconst (-1), 1) := by decide +kernel
theorem dX10_stile_9 : decode cX10_stile 9 = .ok (.ireturn, 1) := by decide +kernel
theorem dX10_stile_10 : decode cX10_stile 10 = .ok (.iload_n 2, 1) := by decide +kernel
theorem dX10_stile_11 : decode cX10_stile 11 = .ok (.tableswitch 78 0 4 #[33, 40, 47, 54, 63], 33) := by decide +kernel
theorem dX10_stile_44 : decode cX10_stile 44 = .ok (.aload_n 0, 1) := by decide +kernel
theorem dX10_stile_45 : decode cX10_stile 45 = .ok (.getfield 13, 3) := by decide +kernel
theorem dX10_stile_48 : decode cX10_stile 48 = .ok (.iload_n 1, 1) := by decide +kernel
theorem dX10_stile_49 : decode cX10_stile 49 = .ok (.iaload, 1) := by decide +kernel
theorem dX10_stile_50 : decode cX10_stile 50 = .ok (.ireturn, 1) := by decide +kernel
theorem dX10_stile_51 : decode cX10_stile 51 = .ok (.aload_n 0, 1) := by decide +kernel
theorem dX10_stile_52 : decode cX10_stile 52 = .ok (.getfield 16, 3) := by decide +kernel
theorem dX10_stile_55 : decode cX10_stile 55 = .ok (.iload_n 1, 1) := by decide +kernel
theorem dX10_stile_56 : decode cX10_stile 56 = .ok (.iaload, 1) := by decide +kernel
theorem dX10_stile_57 : decode cX10_stile 57 = .ok (.ireturn, 1) := by decide +kernel
theorem dX10_stile_58 : decode cX10_stile 58 = .ok (.aload_n 0, 1) := by decide +kernel
theorem dX10_stile_59 : decode cX10_stile 59 = .ok (.getfield 19, 3) := by decide +kernel
theorem dX10_stile_62 : decode cX10_stile 62 = .ok (.iload_n 1, 1) := by decide +kernel
theorem dX10_stile_63 : decode cX10_stile 63 = .ok (.iaload, 1) := by decide +kernel
theorem dX10_stile_64 : decode cX10_stile 64 = .ok (.ireturn, 1) := by decide +kernel
theorem dX10_stile_65 : decode cX10_stile 65 = .ok (.aload_n 0, 1) := by decide +kernel
theorem dX10_stile_66 : decode cX10_stile 66 = .ok (.getfield 7, 3) := by decide +kernel
theorem dX10_stile_69 : decode cX10_stile 69 = .ok (.iconst 1, 1) := by decide +kernel
theorem dX10_stile_70 : decode cX10_stile 70 = .ok (.iload_n 1, 1) := by decide +kernel
theorem dX10_stile_71 : decode cX10_stile 71 = .ok (.iadd, 1) := by decide +kernel
theorem dX10_stile_72 : decode cX10_stile 72 = .ok (.iaload, 1) := by decide +kernel
theorem dX10_stile_73 : decode cX10_stile 73 = .ok (.ireturn, 1) := by decide +kernel
theorem dX10_stile_74 : decode cX10_stile 74 = .ok (.aload_n 0, 1) := by decide +kernel
theorem dX10_stile_75 : decode cX10_stile 75 = .ok (.iconst 0, 1) := by decide +kernel
theorem dX10_stile_76 : decode cX10_stile 76 = .ok (.iload_n 1, 1) := by decide +kernel
theorem dX10_stile_77 : decode cX10_stile 77 = .ok (.invokevirtual 163, 3) := by decide +kernel
theorem dX10_stile_80 : decode cX10_stile 80 = .ok (.ifCond .eq 7, 3) := by decide +kernel
theorem dX10_stile_83 : decode cX10_stile 83 = .ok (.iconst 1, 1) := by decide +kernel
theorem dX10_stile_84 : decode cX10_stile 84 = .ok (.goto 4, 3) := by decide +kernel
theorem dX10_stile_87 : decode cX10_stile 87 = .ok (.iconst 0, 1) := by decide +kernel
theorem dX10_stile_88 : decode cX10_stile 88 = .ok (.ireturn, 1) := by decide +kernel
theorem dX10_stile_89 : decode cX10_stile 89 = .ok (.iconst (-1), 1) := by decide +kernel
theorem dX10_stile_90 : decode cX10_stile 90 = .ok (.ireturn, 1) := by decide +kernel
theorem dX10_walker_0 : decode cX10_walker 0 = .ok (.aload_n 0, 1) := by decide +kernel
theorem dX10_walker_1 : decode cX10_walker 1 = .ok (.iload_n 1, 1) := by decide +kernel
theorem dX10_walker_2 : decode cX10_walker 2 = .ok (.invokevirtual 167, 3) := by decide +kernel
theorem dX10_walker_5 : decode cX10_walker 5 = .ok (.ifCond .ne 5, 3) := by decide +kernel
theorem dX10_walker_8 : decode cX10_walker 8 = .ok (.iconst (-1), 1) := by decide +kernel
theorem dX10_walker_9 : decode cX10_walker 9 = .ok (.ireturn, 1) := by decide +kernel
theorem dX10_walker_10 : decode cX10_walker 10 = .ok (.iload_n 2, 1) := by decide +kernel
theorem dX10_walker_11 : decode cX10_walker 11 = .ok (.tableswitch 95 0 5 #[37, 44, 54, 61, 71, 85], 37) := by decide +kernel
theorem dX10_walker_48 : decode cX10_walker 48 = .ok (.aload_n 0, 1) := by decide +kernel
theorem dX10_walker_49 : decode cX10_walker 49 = .ok (.getfield 22, 3) := by decide +kernel
theorem dX10_walker_52 : decode cX10_walker 52 = .ok (.iload_n 1, 1) := by decide +kernel
theorem dX10_walker_53 : decode cX10_walker 53 = .ok (.iaload, 1) := by decide +kernel
theorem dX10_walker_54 : decode cX10_walker 54 = .ok (.ireturn, 1) := by decide +kernel
theorem dX10_walker_55 : decode cX10_walker 55 = .ok (.aload_n 0, 1) := by decide +kernel
theorem dX10_walker_56 : decode cX10_walker 56 = .ok (.getfield 7, 3) := by decide +kernel
theorem dX10_walker_59 : decode cX10_walker 59 = .ok (.bipush 10, 2) := by decide +kernel
theorem dX10_walker_61 : decode cX10_walker 61 = .ok (.iload_n 1, 1) := by decide +kernel
theorem dX10_walker_62 : decode cX10_walker 62 = .ok (.iadd, 1) := by decide +kernel
theorem dX10_walker_63 : decode cX10_walker 63 = .ok (.iaload, 1) := by decide +kernel
theorem dX10_walker_64 : decode cX10_walker 64 = .ok (.ireturn, 1) := by decide +kernel
theorem dX10_walker_65 : decode cX10_walker 65 = .ok (.aload_n 0, 1) := by decide +kernel
theorem dX10_walker_66 : decode cX10_walker 66 = .ok (.getfield 25, 3) := by decide +kernel
theorem dX10_walker_69 : decode cX10_walker 69 = .ok (.iload_n 1, 1) := by decide +kernel
theorem dX10_walker_70 : decode cX10_walker 70 = .ok (.iaload, 1) := by decide +kernel
theorem dX10_walker_71 : decode cX10_walker 71 = .ok (.ireturn, 1) := by decide +kernel
theorem dX10_walker_72 : decode cX10_walker 72 = .ok (.aload_n 0, 1) := by decide +kernel
theorem dX10_walker_73 : decode cX10_walker 73 = .ok (.getfield 7, 3) := by decide +kernel
theorem dX10_walker_76 : decode cX10_walker 76 = .ok (.bipush 14, 2) := by decide +kernel
theorem dX10_walker_78 : decode cX10_walker 78 = .ok (.iload_n 1, 1) := by decide +kernel
theorem dX10_walker_79 : decode cX10_walker 79 = .ok (.iadd, 1) := by decide +kernel
theorem dX10_walker_80 : decode cX10_walker 80 = .ok (.iaload, 1) := by decide +kernel
theorem dX10_walker_81 : decode cX10_walker 81 = .ok (.ireturn, 1) := by decide +kernel
theorem dX10_walker_82 : decode cX10_walker 82 = .ok (.aload_n 0, 1) := by decide +kernel
theorem dX10_walker_83 : decode cX10_walker 83 = .ok (.iload_n 1, 1) := by decide +kernel
theorem dX10_walker_84 : decode cX10_walker 84 = .ok (.invokevirtual 170, 3) := by decide +kernel
theorem dX10_walker_87 : decode cX10_walker 87 = .ok (.ifCond .eq 7, 3) := by decide +kernel
theorem dX10_walker_90 : decode cX10_walker 90 = .ok (.iconst 1, 1) := by decide +kernel
theorem dX10_walker_91 : decode cX10_walker 91 = .ok (.goto 4, 3) := by decide +kernel
theorem dX10_walker_94 : decode cX10_walker 94 = .ok (.iconst 0, 1) := by decide +kernel
theorem dX10_walker_95 : decode cX10_walker 95 = .ok (.ireturn, 1) := by decide +kernel
theorem dX10_walker_96 : decode cX10_walker 96 = .ok (.aload_n 0, 1) := by decide +kernel
theorem dX10_walker_97 : decode cX10_walker 97 = .ok (.getfield 7, 3) := by decide +kernel
theorem dX10_walker_100 : decode cX10_walker 100 = .ok (.bipush 18, 2) := by decide +kernel
theorem dX10_walker_102 : decode cX10_walker 102 = .ok (.iload_n 1, 1) := by decide +kernel
theorem dX10_walker_103 : decode cX10_walker 103 = .ok (.iadd, 1) := by decide +kernel
theorem dX10_walker_104 : decode cX10_walker 104 = .ok (.iaload, 1) := by decide +kernel
theorem dX10_walker_105 : decode cX10_walker 105 = .ok (.ireturn, 1) := by decide +kernel
theorem dX10_walker_106 : decode cX10_walker 106 = .ok (.iconst (-1), 1) := by decide +kernel
theorem dX10_walker_107 : decode cX10_walker 107 = .ok (.ireturn, 1) := by decide +kernel
theorem dX10_account_0 : decode cX10_account 0 = .ok (.aload_n 0, 1) := by decide +kernel
theorem dX10_account_1 : decode cX10_account 1 = .ok (.iload_n 1, 1) := by decide +kernel
theorem dX10_account_2 : decode cX10_account 2 = .ok (.invokevirtual 167, 3) := by decide +kernel
theorem dX10_account_5 : decode cX10_account 5 = .ok (.ifCond .eq 32, 3) := by decide +kernel
theorem dX10_account_8 : decode cX10_account 8 = .ok (.aload_n 0, 1) := by decide +kernel
theorem dX10_account_9 : decode cX10_account 9 = .ok (.iload_n 2, 1) := by decide +kernel
theorem dX10_account_10 : decode cX10_account 10 = .ok (.invokevirtual 159, 3) := by decide +kernel
theorem dX10_account_13 : decode cX10_account 13 = .ok (.ifCond .eq 24, 3) := by decide +kernel
theorem dX10_account_16 : decode cX10_account 16 = .ok (.aload_n 0, 1) := by decide +kernel
theorem dX10_account_17 : decode cX10_account 17 = .ok (.getfield 7, 3) := by decide +kernel
theorem dX10_account_20 : decode cX10_account 20 = .ok (.bipush 22, 2) := by decide +kernel
theorem dX10_account_22 : decode cX10_account 22 = .ok (.bipush 9, 2) := by decide +kernel
theorem dX10_account_24 : decode cX10_account 24 = .ok (.iload_n 1, 1) := by decide +kernel
theorem dX10_account_25 : decode cX10_account 25 = .ok (.imul, 1) := by decide +kernel
theorem dX10_account_26 : decode cX10_account 26 = .ok (.iadd, 1) := by decide +kernel
theorem dX10_account_27 : decode cX10_account 27 = .ok (.iload_n 2, 1) := by decide +kernel
theorem dX10_account_28 : decode cX10_account 28 = .ok (.iadd, 1) := by decide +kernel
theorem dX10_account_29 : decode cX10_account 29 = .ok (.iaload, 1) := by decide +kernel
theorem dX10_account_30 : decode cX10_account 30 = .ok (.sipush 1000, 3) := by decide +kernel
theorem dX10_account_33 : decode cX10_account 33 = .ok (.iadd, 1) := by decide +kernel
theorem dX10_account_34 : decode cX10_account 34 = .ok (.goto 4, 3) := by decide +kernel
theorem dX10_account_37 : decode cX10_account 37 = .ok (.iconst (-1), 1) := by decide +kernel
theorem dX10_account_38 : decode cX10_account 38 = .ok (.ireturn, 1) := by decide +kernel
theorem dX10_minds_0 : decode cX10_minds 0 = .ok (.aload_n 0, 1) := by decide +kernel
theorem dX10_minds_1 : decode cX10_minds 1 = .ok (.getfield 88, 3) := by decide +kernel
theorem dX10_minds_4 : decode cX10_minds 4 = .ok (.bipush 8, 2) := by decide +kernel
theorem dX10_minds_6 : decode cX10_minds 6 = .ok (.if_icmp .ne 51, 3) := by decide +kernel
theorem dX10_minds_9 : decode cX10_minds 9 = .ok (.iconst 0, 1) := by decide +kernel
theorem dX10_minds_10 : decode cX10_minds 10 = .ok (.istore_n 1, 1) := by decide +kernel
theorem dX10_minds_11 : decode cX10_minds 11 = .ok (.iload_n 1, 1) := by decide +kernel
theorem dX10_minds_12 : decode cX10_minds 12 = .ok (.sipush 406, 3) := by decide +kernel
theorem dX10_minds_15 : decode cX10_minds 15 = .ok (.if_icmp .ge 32, 3) := by decide +kernel
theorem dX10_minds_18 : decode cX10_minds 18 = .ok (.aload_n 0, 1) := by decide +kernel
theorem dX10_minds_19 : decode cX10_minds 19 = .ok (.getfield 7, 3) := by decide +kernel
theorem dX10_minds_22 : decode cX10_minds 22 = .ok (.sipush 232, 3) := by decide +kernel
theorem dX10_minds_25 : decode cX10_minds 25 = .ok (.iload_n 1, 1) := by decide +kernel
theorem dX10_minds_26 : decode cX10_minds 26 = .ok (.iadd, 1) := by decide +kernel
theorem dX10_minds_27 : decode cX10_minds 27 = .ok (.aload_n 0, 1) := by decide +kernel
theorem dX10_minds_28 : decode cX10_minds 28 = .ok (.getfield 7, 3) := by decide +kernel
theorem dX10_minds_31 : decode cX10_minds 31 = .ok (.sipush 232, 3) := by decide +kernel
theorem dX10_minds_34 : decode cX10_minds 34 = .ok (.iload_n 1, 1) := by decide +kernel
theorem dX10_minds_35 : decode cX10_minds 35 = .ok (.iadd, 1) := by decide +kernel
theorem dX10_minds_36 : decode cX10_minds 36 = .ok (.bipush 58, 2) := by decide +kernel
theorem dX10_minds_38 : decode cX10_minds 38 = .ok (.iadd, 1) := by decide +kernel
theorem dX10_minds_39 : decode cX10_minds 39 = .ok (.iaload, 1) := by decide +kernel
theorem dX10_minds_40 : decode cX10_minds 40 = .ok (.iastore, 1) := by decide +kernel
theorem dX10_minds_41 : decode cX10_minds 41 = .ok (.iinc 1 1, 3) := by decide +kernel
theorem dX10_minds_44 : decode cX10_minds 44 = .ok (.goto (-33), 3) := by decide +kernel
theorem dX10_minds_47 : decode cX10_minds 47 = .ok (.aload_n 0, 1) := by decide +kernel
theorem dX10_minds_48 : decode cX10_minds 48 = .ok (.dup, 1) := by decide +kernel
theorem dX10_minds_49 : decode cX10_minds 49 = .ok (.getfield 88, 3) := by decide +kernel
theorem dX10_minds_52 : decode cX10_minds 52 = .ok (.iconst 1, 1) := by decide +kernel
theorem dX10_minds_53 : decode cX10_minds 53 = .ok (.isub, 1) := by decide +kernel
theorem dX10_minds_54 : decode cX10_minds 54 = .ok (.putfield 88, 3) := by decide +kernel
theorem dX10_minds_57 : decode cX10_minds 57 = .ok (.aload_n 0, 1) := by decide +kernel
theorem dX10_minds_58 : decode cX10_minds 58 = .ok (.iconst 0, 1) := by decide +kernel
theorem dX10_minds_59 : decode cX10_minds 59 = .ok (.sipush 232, 3) := by decide +kernel
theorem dX10_minds_62 : decode cX10_minds 62 = .ok (.bipush 58, 2) := by decide +kernel
theorem dX10_minds_64 : decode cX10_minds 64 = .ok (.aload_n 0, 1) := by decide +kernel
theorem dX10_minds_65 : decode cX10_minds 65 = .ok (.getfield 88, 3) := by decide +kernel
theorem dX10_minds_68 : decode cX10_minds 68 = .ok (.imul, 1) := by decide +kernel
theorem dX10_minds_69 : decode cX10_minds 69 = .ok (.iadd, 1) := by decide +kernel
theorem dX10_minds_70 : decode cX10_minds 70 = .ok (.invokevirtual 173, 3) := by decide +kernel
theorem dX10_minds_73 : decode cX10_minds 73 = .ok (.aload_n 0, 1) := by decide +kernel
theorem dX10_minds_74 : decode cX10_minds 74 = .ok (.dup, 1) := by decide +kernel
theorem dX10_minds_75 : decode cX10_minds 75 = .ok (.getfield 88, 3) := by decide +kernel
theorem dX10_minds_78 : decode cX10_minds 78 = .ok (.iconst 1, 1) := by decide +kernel
theorem dX10_minds_79 : decode cX10_minds 79 = .ok (.iadd, 1) := by decide +kernel
theorem dX10_minds_80 : decode cX10_minds 80 = .ok (.putfield 88, 3) := by decide +kernel
theorem dX10_minds_83 : decode cX10_minds 83 = .ok (.return_, 1) := by decide +kernel
theorem dX10_tread_0 : decode cX10_tread 0 = .ok (.aload_n 0, 1) := by decide +kernel
theorem dX10_tread_1 : decode cX10_tread 1 = .ok (.iload_n 1, 1) := by decide +kernel
theorem dX10_tread_2 : decode cX10_tread 2 = .ok (.invokevirtual 167, 3) := by decide +kernel
theorem dX10_tread_5 : decode cX10_tread 5 = .ok (.ifCond .eq 11, 3) := by decide +kernel
theorem dX10_tread_8 : decode cX10_tread 8 = .ok (.aload_n 0, 1) := by decide +kernel
theorem dX10_tread_9 : decode cX10_tread 9 = .ok (.iload_n 2, 1) := by decide +kernel
theorem dX10_tread_10 : decode cX10_tread 10 = .ok (.invokevirtual 159, 3) := by decide +kernel
theorem dX10_tread_13 : decode cX10_tread 13 = .ok (.ifCond .ne 5, 3) := by decide +kernel
theorem dX10_tread_16 : decode cX10_tread 16 = .ok (.iconst (-1), 1) := by decide +kernel
theorem dX10_tread_17 : decode cX10_tread 17 = .ok (.ireturn, 1) := by decide +kernel
theorem dX10_tread_18 : decode cX10_tread 18 = .ok (.aload_n 0, 1) := by decide +kernel
theorem dX10_tread_19 : decode cX10_tread 19 = .ok (.iload_n 2, 1) := by decide +kernel
theorem dX10_tread_20 : decode cX10_tread 20 = .ok (.aload_n 0, 1) := by decide +kernel
theorem dX10_tread_21 : decode cX10_tread 21 = .ok (.getfield 7, 3) := by decide +kernel
theorem dX10_tread_24 : decode cX10_tread 24 = .ok (.bipush 10, 2) := by decide +kernel
theorem dX10_tread_26 : decode cX10_tread 26 = .ok (.iload_n 1, 1) := by decide +kernel
theorem dX10_tread_27 : decode cX10_tread 27 = .ok (.iadd, 1) := by decide +kernel
theorem dX10_tread_28 : decode cX10_tread 28 = .ok (.iaload, 1) := by decide +kernel
theorem dX10_tread_29 : decode cX10_tread 29 = .ok (.invokevirtual 177, 3) := by decide +kernel
theorem dX10_tread_32 : decode cX10_tread 32 = .ok (.ifCond .eq 12, 3) := by decide +kernel
theorem dX10_tread_35 : decode cX10_tread 35 = .ok (.aload_n 0, 1) := by decide +kernel
theorem dX10_tread_36 : decode cX10_tread 36 = .ok (.iconst 0, 1) := by decide +kernel
theorem dX10_tread_37 : decode cX10_tread 37 = .ok (.iload_n 2, 1) := by decide +kernel
theorem dX10_tread_38 : decode cX10_tread 38 = .ok (.invokevirtual 163, 3) := by decide +kernel
theorem dX10_tread_41 : decode cX10_tread 41 = .ok (.ifCond .eq 6, 3) := by decide +kernel
theorem dX10_tread_44 : decode cX10_tread 44 = .ok (.bipush (-2), 2) := by decide +kernel
theorem dX10_tread_46 : decode cX10_tread 46 = .ok (.ireturn, 1) := by decide +kernel
theorem dX10_tread_47 : decode cX10_tread 47 = .ok (.aload_n 0, 1) := by decide +kernel
theorem dX10_tread_48 : decode cX10_tread 48 = .ok (.invokevirtual 180, 3) := by decide +kernel
theorem dX10_tread_51 : decode cX10_tread 51 = .ok (.aload_n 0, 1) := by decide +kernel
theorem dX10_tread_52 : decode cX10_tread 52 = .ok (.iconst 0, 1) := by decide +kernel
theorem dX10_tread_53 : decode cX10_tread 53 = .ok (.iload_n 1, 1) := by decide +kernel
theorem dX10_tread_54 : decode cX10_tread 54 = .ok (.iload_n 2, 1) := by decide +kernel
theorem dX10_tread_55 : decode cX10_tread 55 = .ok (.invokevirtual 183, 3) := by decide +kernel
theorem dX10_tread_58 : decode cX10_tread 58 = .ok (.aload_n 0, 1) := by decide +kernel
theorem dX10_tread_59 : decode cX10_tread 59 = .ok (.getfield 7, 3) := by decide +kernel
theorem dX10_tread_62 : decode cX10_tread 62 = .ok (.bipush 10, 2) := by decide +kernel
theorem dX10_tread_64 : decode cX10_tread 64 = .ok (.iload_n 1, 1) := by decide +kernel
theorem dX10_tread_65 : decode cX10_tread 65 = .ok (.iadd, 1) := by decide +kernel
theorem dX10_tread_66 : decode cX10_tread 66 = .ok (.iaload, 1) := by decide +kernel
theorem dX10_tread_67 : decode cX10_tread 67 = .ok (.ireturn, 1) := by decide +kernel
theorem dX10_replace_0 : decode cX10_replace 0 = .ok (.aload_n 0, 1) := by decide +kernel
theorem dX10_replace_1 : decode cX10_replace 1 = .ok (.iload_n 1, 1) := by decide +kernel
theorem dX10_replace_2 : decode cX10_replace 2 = .ok (.invokevirtual 159, 3) := by decide +kernel
theorem dX10_replace_5 : decode cX10_replace 5 = .ok (.ifCond .ne 5, 3) := by decide +kernel
theorem dX10_replace_8 : decode cX10_replace 8 = .ok (.iconst (-1), 1) := by decide +kernel
theorem dX10_replace_9 : decode cX10_replace 9 = .ok (.ireturn, 1) := by decide +kernel
theorem dX10_replace_10 : decode cX10_replace 10 = .ok (.aload_n 0, 1) := by decide +kernel
theorem dX10_replace_11 : decode cX10_replace 11 = .ok (.invokevirtual 180, 3) := by decide +kernel
theorem dX10_replace_14 : decode cX10_replace 14 = .ok (.aload_n 0, 1) := by decide +kernel
theorem dX10_replace_15 : decode cX10_replace 15 = .ok (.getfield 7, 3) := by decide +kernel
theorem dX10_replace_18 : decode cX10_replace 18 = .ok (.iconst 1, 1) := by decide +kernel
theorem dX10_replace_19 : decode cX10_replace 19 = .ok (.iload_n 1, 1) := by decide +kernel
theorem dX10_replace_20 : decode cX10_replace 20 = .ok (.iadd, 1) := by decide +kernel
theorem dX10_replace_21 : decode cX10_replace 21 = .ok (.iaload, 1) := by decide +kernel
theorem dX10_replace_22 : decode cX10_replace 22 = .ok (.istore_n 2, 1) := by decide +kernel
theorem dX10_replace_23 : decode cX10_replace 23 = .ok (.aload_n 0, 1) := by decide +kernel
theorem dX10_replace_24 : decode cX10_replace 24 = .ok (.iconst 0, 1) := by decide +kernel
theorem dX10_replace_25 : decode cX10_replace 25 = .ok (.iload_n 1, 1) := by decide +kernel
theorem dX10_replace_26 : decode cX10_replace 26 = .ok (.invokevirtual 186, 3) := by decide +kernel
theorem dX10_replace_29 : decode cX10_replace 29 = .ok (.iload_n 2, 1) := by decide +kernel
theorem dX10_replace_30 : decode cX10_replace 30 = .ok (.ireturn, 1) := by decide +kernel
theorem dX10_sand_0 : decode cX10_sand 0 = .ok (.aload_n 0, 1) := by decide +kernel
theorem dX10_sand_1 : decode cX10_sand 1 = .ok (.iload_n 1, 1) := by decide +kernel
theorem dX10_sand_2 : decode cX10_sand 2 = .ok (.invokevirtual 159, 3) := by decide +kernel
theorem dX10_sand_5 : decode cX10_sand 5 = .ok (.ifCond .ne 5, 3) := by decide +kernel
theorem dX10_sand_8 : decode cX10_sand 8 = .ok (.iconst (-1), 1) := by decide +kernel
theorem dX10_sand_9 : decode cX10_sand 9 = .ok (.ireturn, 1) := by decide +kernel
theorem dX10_sand_10 : decode cX10_sand 10 = .ok (.aload_n 0, 1) := by decide +kernel
theorem dX10_sand_11 : decode cX10_sand 11 = .ok (.invokevirtual 180, 3) := by decide +kernel
theorem dX10_sand_14 : decode cX10_sand 14 = .ok (.aload_n 0, 1) := by decide +kernel
theorem dX10_sand_15 : decode cX10_sand 15 = .ok (.iconst 0, 1) := by decide +kernel
theorem dX10_sand_16 : decode cX10_sand 16 = .ok (.iload_n 1, 1) := by decide +kernel
theorem dX10_sand_17 : decode cX10_sand 17 = .ok (.iconst 5, 1) := by decide +kernel
theorem dX10_sand_18 : decode cX10_sand 18 = .ok (.invokevirtual 153, 3) := by decide +kernel
theorem dX10_sand_21 : decode cX10_sand 21 = .ok (.aload_n 0, 1) := by decide +kernel
theorem dX10_sand_22 : decode cX10_sand 22 = .ok (.getfield 7, 3) := by decide +kernel
theorem dX10_sand_25 : decode cX10_sand 25 = .ok (.iconst 1, 1) := by decide +kernel
theorem dX10_sand_26 : decode cX10_sand 26 = .ok (.iload_n 1, 1) := by decide +kernel
theorem dX10_sand_27 : decode cX10_sand 27 = .ok (.iadd, 1) := by decide +kernel
theorem dX10_sand_28 : decode cX10_sand 28 = .ok (.iaload, 1) := by decide +kernel
theorem dX10_sand_29 : decode cX10_sand 29 = .ok (.ireturn, 1) := by decide +kernel
theorem dX10_undo_0 : decode cX10_undo 0 = .ok (.aload_n 0, 1) := by decide +kernel
theorem dX10_undo_1 : decode cX10_undo 1 = .ok (.getfield 88, 3) := by decide +kernel
theorem dX10_undo_4 : decode cX10_undo 4 = .ok (.ifCond .ne 6, 3) := by decide +kernel
theorem dX10_undo_7 : decode cX10_undo 7 = .ok (.bipush (-2), 2) := by decide +kernel
theorem dX10_undo_9 : decode cX10_undo 9 = .ok (.ireturn, 1) := by decide +kernel
theorem dX10_undo_10 : decode cX10_undo 10 = .ok (.aload_n 0, 1) := by decide +kernel
theorem dX10_undo_11 : decode cX10_undo 11 = .ok (.dup, 1) := by decide +kernel
theorem dX10_undo_12 : decode cX10_undo 12 = .ok (.getfield 88, 3) := by decide +kernel
theorem dX10_undo_15 : decode cX10_undo 15 = .ok (.iconst 1, 1) := by decide +kernel
theorem dX10_undo_16 : decode cX10_undo 16 = .ok (.isub, 1) := by decide +kernel
theorem dX10_undo_17 : decode cX10_undo 17 = .ok (.putfield 88, 3) := by decide +kernel
theorem dX10_undo_20 : decode cX10_undo 20 = .ok (.aload_n 0, 1) := by decide +kernel
theorem dX10_undo_21 : decode cX10_undo 21 = .ok (.sipush 232, 3) := by decide +kernel
theorem dX10_undo_24 : decode cX10_undo 24 = .ok (.bipush 58, 2) := by decide +kernel
theorem dX10_undo_26 : decode cX10_undo 26 = .ok (.aload_n 0, 1) := by decide +kernel
theorem dX10_undo_27 : decode cX10_undo 27 = .ok (.getfield 88, 3) := by decide +kernel
theorem dX10_undo_30 : decode cX10_undo 30 = .ok (.imul, 1) := by decide +kernel
theorem dX10_undo_31 : decode cX10_undo 31 = .ok (.iadd, 1) := by decide +kernel
theorem dX10_undo_32 : decode cX10_undo 32 = .ok (.iconst 0, 1) := by decide +kernel
theorem dX10_undo_33 : decode cX10_undo 33 = .ok (.invokevirtual 173, 3) := by decide +kernel
theorem dX10_undo_36 : decode cX10_undo 36 = .ok (.aload_n 0, 1) := by decide +kernel
theorem dX10_undo_37 : decode cX10_undo 37 = .ok (.getfield 88, 3) := by decide +kernel
theorem dX10_undo_40 : decode cX10_undo 40 = .ok (.ireturn, 1) := by decide +kernel
theorem dX10_layApart_0 : decode cX10_layApart 0 = .ok (.iconst 0, 1) := by decide +kernel
theorem dX10_layApart_1 : decode cX10_layApart 1 = .ok (.istore_n 1, 1) := by decide +kernel
theorem dX10_layApart_2 : decode cX10_layApart 2 = .ok (.iload_n 1, 1) := by decide +kernel
theorem dX10_layApart_3 : decode cX10_layApart 3 = .ok (.bipush 8, 2) := by decide +kernel
theorem dX10_layApart_5 : decode cX10_layApart 5 = .ok (.if_icmp .ge 45, 3) := by decide +kernel
theorem dX10_layApart_8 : decode cX10_layApart 8 = .ok (.iconst 0, 1) := by decide +kernel
theorem dX10_layApart_9 : decode cX10_layApart 9 = .ok (.istore_n 2, 1) := by decide +kernel
theorem dX10_layApart_10 : decode cX10_layApart 10 = .ok (.iload_n 2, 1) := by decide +kernel
theorem dX10_layApart_11 : decode cX10_layApart 11 = .ok (.bipush 8, 2) := by decide +kernel
theorem dX10_layApart_13 : decode cX10_layApart 13 = .ok (.if_icmp .ge 31, 3) := by decide +kernel
theorem dX10_layApart_16 : decode cX10_layApart 16 = .ok (.aload_n 0, 1) := by decide +kernel
theorem dX10_layApart_17 : decode cX10_layApart 17 = .ok (.getfield 43, 3) := by decide +kernel
theorem dX10_layApart_20 : decode cX10_layApart 20 = .ok (.bipush 8, 2) := by decide +kernel
theorem dX10_layApart_22 : decode cX10_layApart 22 = .ok (.iload_n 1, 1) := by decide +kernel
theorem dX10_layApart_23 : decode cX10_layApart 23 = .ok (.imul, 1) := by decide +kernel
theorem dX10_layApart_24 : decode cX10_layApart 24 = .ok (.iload_n 2, 1) := by decide +kernel
theorem dX10_layApart_25 : decode cX10_layApart 25 = .ok (.iadd, 1) := by decide +kernel
theorem dX10_layApart_26 : decode cX10_layApart 26 = .ok (.iload_n 1, 1) := by decide +kernel
theorem dX10_layApart_27 : decode cX10_layApart 27 = .ok (.iload_n 2, 1) := by decide +kernel
theorem dX10_layApart_28 : decode cX10_layApart 28 = .ok (.if_icmp .ne 7, 3) := by decide +kernel
theorem dX10_layApart_31 : decode cX10_layApart 31 = .ok (.iconst 0, 1) := by decide +kernel
theorem dX10_layApart_32 : decode cX10_layApart 32 = .ok (.goto 5, 3) := by decide +kernel
theorem dX10_layApart_35 : decode cX10_layApart 35 = .ok (.bipush 20, 2) := by decide +kernel
theorem dX10_layApart_37 : decode cX10_layApart 37 = .ok (.iastore, 1) := by decide +kernel
theorem dX10_layApart_38 : decode cX10_layApart 38 = .ok (.iinc 2 1, 3) := by decide +kernel
theorem dX10_layApart_41 : decode cX10_layApart 41 = .ok (.goto (-31), 3) := by decide +kernel
theorem dX10_layApart_44 : decode cX10_layApart 44 = .ok (.iinc 1 1, 3) := by decide +kernel
theorem dX10_layApart_47 : decode cX10_layApart 47 = .ok (.goto (-45), 3) := by decide +kernel
theorem dX10_layApart_50 : decode cX10_layApart 50 = .ok (.iconst 0, 1) := by decide +kernel
theorem dX10_layApart_51 : decode cX10_layApart 51 = .ok (.istore_n 1, 1) := by decide +kernel
theorem dX10_layApart_52 : decode cX10_layApart 52 = .ok (.iload_n 1, 1) := by decide +kernel
theorem dX10_layApart_53 : decode cX10_layApart 53 = .ok (.aload_n 0, 1) := by decide +kernel
theorem dX10_layApart_54 : decode cX10_layApart 54 = .ok (.getfield 73, 3) := by decide +kernel
theorem dX10_layApart_57 : decode cX10_layApart 57 = .ok (.if_icmp .ge 62, 3) := by decide +kernel
theorem dX10_layApart_60 : decode cX10_layApart 60 = .ok (.aload_n 0, 1) := by decide +kernel
theorem dX10_layApart_61 : decode cX10_layApart 61 = .ok (.iconst 0, 1) := by decide +kernel
theorem dX10_layApart_62 : decode cX10_layApart 62 = .ok (.iload_n 1, 1) := by decide +kernel
theorem dX10_layApart_63 : decode cX10_layApart 63 = .ok (.invokevirtual 163, 3) := by decide +kernel
theorem dX10_layApart_66 : decode cX10_layApart 66 = .ok (.ifCond .ne 47, 3) := by decide +kernel
theorem dX10_layApart_69 : decode cX10_layApart 69 = .ok (.aload_n 0, 1) := by decide +kernel
theorem dX10_layApart_70 : decode cX10_layApart 70 = .ok (.getfield 43, 3) := by decide +kernel
theorem dX10_layApart_73 : decode cX10_layApart 73 = .ok (.bipush 8, 2) := by decide +kernel
theorem dX10_layApart_75 : decode cX10_layApart 75 = .ok (.aload_n 0, 1) := by decide +kernel
theorem dX10_layApart_76 : decode cX10_layApart 76 = .ok (.getfield 16, 3) := by decide +kernel
theorem dX10_layApart_79 : decode cX10_layApart 79 = .ok (.iload_n 1, 1) := by decide +kernel
theorem dX10_layApart_80 : decode cX10_layApart 80 = .ok (.iaload, 1) := by decide +kernel
theorem dX10_layApart_81 : decode cX10_layApart 81 = .ok (.imul, 1) := by decide +kernel
theorem dX10_layApart_82 : decode cX10_layApart 82 = .ok (.aload_n 0, 1) := by decide +kernel
theorem dX10_layApart_83 : decode cX10_layApart 83 = .ok (.getfield 19, 3) := by decide +kernel
theorem dX10_layApart_86 : decode cX10_layApart 86 = .ok (.iload_n 1, 1) := by decide +kernel
theorem dX10_layApart_87 : decode cX10_layApart 87 = .ok (.iaload, 1) := by decide +kernel
theorem dX10_layApart_88 : decode cX10_layApart 88 = .ok (.iadd, 1) := by decide +kernel
theorem dX10_layApart_89 : decode cX10_layApart 89 = .ok (.iconst 1, 1) := by decide +kernel
theorem dX10_layApart_90 : decode cX10_layApart 90 = .ok (.iastore, 1) := by decide +kernel
theorem dX10_layApart_91 : decode cX10_layApart 91 = .ok (.aload_n 0, 1) := by decide +kernel
theorem dX10_layApart_92 : decode cX10_layApart 92 = .ok (.getfield 43, 3) := by decide +kernel
theorem dX10_layApart_95 : decode cX10_layApart 95 = .ok (.bipush 8, 2) := by decide +kernel
theorem dX10_layApart_97 : decode cX10_layApart 97 = .ok (.aload_n 0, 1) := by decide +kernel
theorem dX10_layApart_98 : decode cX10_layApart 98 = .ok (.getfield 19, 3) := by decide +kernel
theorem dX10_layApart_101 : decode cX10_layApart 101 = .ok (.iload_n 1, 1) := by decide +kernel
theorem dX10_layApart_102 : decode cX10_layApart 102 = .ok (.iaload, 1) := by decide +kernel
theorem dX10_layApart_103 : decode cX10_layApart 103 = .ok (.imul, 1) := by decide +kernel
theorem dX10_layApart_104 : decode cX10_layApart 104 = .ok (.aload_n 0, 1) := by decide +kernel
theorem dX10_layApart_105 : decode cX10_layApart 105 = .ok (.getfield 16, 3) := by decide +kernel
theorem dX10_layApart_108 : decode cX10_layApart 108 = .ok (.iload_n 1, 1) := by decide +kernel
theorem dX10_layApart_109 : decode cX10_layApart 109 = .ok (.iaload, 1) := by decide +kernel
theorem dX10_layApart_110 : decode cX10_layApart 110 = .ok (.iadd, 1) := by decide +kernel
theorem dX10_layApart_111 : decode cX10_layApart 111 = .ok (.iconst 1, 1) := by decide +kernel
theorem dX10_layApart_112 : decode cX10_layApart 112 = .ok (.iastore, 1) := by decide +kernel
theorem dX10_layApart_113 : decode cX10_layApart 113 = .ok (.iinc 1 1, 3) := by decide +kernel
theorem dX10_layApart_116 : decode cX10_layApart 116 = .ok (.goto (-64), 3) := by decide +kernel
theorem dX10_layApart_119 : decode cX10_layApart 119 = .ok (.return_, 1) := by decide +kernel
theorem dX10_closeApart_0 : decode cX10_closeApart 0 = .ok (.iconst 0, 1) := by decide +kernel
theorem dX10_closeApart_1 : decode cX10_closeApart 1 = .ok (.istore_n 1, 1) := by decide +kernel
theorem dX10_closeApart_2 : decode cX10_closeApart 2 = .ok (.iload_n 1, 1) := by decide +kernel
theorem dX10_closeApart_3 : decode cX10_closeApart 3 = .ok (.aload_n 0, 1) := by decide +kernel
theorem dX10_closeApart_4 : decode cX10_closeApart 4 = .ok (.getfield 66, 3) := by decide +kernel
theorem dX10_closeApart_7 : decode cX10_closeApart 7 = .ok (.if_icmp .ge 109, 3) := by decide +kernel
theorem dX10_closeApart_10 : decode cX10_closeApart 10 = .ok (.iconst 0, 1) := by decide +kernel
theorem dX10_closeApart_11 : decode cX10_closeApart 11 = .ok (.istore_n 2, 1) := by decide +kernel
theorem dX10_closeApart_12 : decode cX10_closeApart 12 = .ok (.iload_n 2, 1) := by decide +kernel
theorem dX10_closeApart_13 : decode cX10_closeApart 13 = .ok (.aload_n 0, 1) := by decide +kernel
theorem dX10_closeApart_14 : decode cX10_closeApart 14 = .ok (.getfield 66, 3) := by decide +kernel
theorem dX10_closeApart_17 : decode cX10_closeApart 17 = .ok (.if_icmp .ge 93, 3) := by decide +kernel
theorem dX10_closeApart_20 : decode cX10_closeApart 20 = .ok (.iconst 0, 1) := by decide +kernel
theorem dX10_closeApart_21 : decode cX10_closeApart 21 = .ok (.istore_n 3, 1) := by decide +kernel
theorem dX10_closeApart_22 : decode cX10_closeApart 22 = .ok (.iload_n 3, 1) := by decide +kernel
theorem dX10_closeApart_23 : decode cX10_closeApart 23 = .ok (.aload_n 0, 1) := by decide +kernel
theorem dX10_closeApart_24 : decode cX10_closeApart 24 = .ok (.getfield 66, 3) := by decide +kernel
theorem dX10_closeApart_27 : decode cX10_closeApart 27 = .ok (.if_icmp .ge 77, 3) := by decide +kernel
theorem dX10_closeApart_30 : decode cX10_closeApart 30 = .ok (.aload_n 0, 1) := by decide +kernel
theorem dX10_closeApart_31 : decode cX10_closeApart 31 = .ok (.getfield 43, 3) := by decide +kernel
theorem dX10_closeApart_34 : decode cX10_closeApart 34 = .ok (.bipush 8, 2) := by decide +kernel
theorem dX10_closeApart_36 : decode cX10_closeApart 36 = .ok (.iload_n 2, 1) := by decide +kernel
theorem dX10_closeApart_37 : decode cX10_closeApart 37 = .ok (.imul, 1) := by decide +kernel
theorem dX10_closeApart_38 : decode cX10_closeApart 38 = .ok (.iload_n 1, 1) := by decide +kernel
theorem dX10_closeApart_39 : decode cX10_closeApart 39 = .ok (.iadd, 1) := by decide +kernel
theorem dX10_closeApart_40 : decode cX10_closeApart 40 = .ok (.iaload, 1) := by decide +kernel
theorem dX10_closeApart_41 : decode cX10_closeApart 41 = .ok (.aload_n 0, 1) := by decide +kernel
theorem dX10_closeApart_42 : decode cX10_closeApart 42 = .ok (.getfield 43, 3) := by decide +kernel
theorem dX10_closeApart_45 : decode cX10_closeApart 45 = .ok (.bipush 8, 2) := by decide +kernel
theorem dX10_closeApart_47 : decode cX10_closeApart 47 = .ok (.iload_n 1, 1) := by decide +kernel
theorem dX10_closeApart_48 : decode cX10_closeApart 48 = .ok (.imul, 1) := by decide +kernel
theorem dX10_closeApart_49 : decode cX10_closeApart 49 = .ok (.iload_n 3, 1) := by decide +kernel
theorem dX10_closeApart_50 : decode cX10_closeApart 50 = .ok (.iadd, 1) := by decide +kernel
theorem dX10_closeApart_51 : decode cX10_closeApart 51 = .ok (.iaload, 1) := by decide +kernel
theorem dX10_closeApart_52 : decode cX10_closeApart 52 = .ok (.iadd, 1) := by decide +kernel
theorem dX10_closeApart_53 : decode cX10_closeApart 53 = .ok (.istore 4, 2) := by decide +kernel
theorem dX10_closeApart_55 : decode cX10_closeApart 55 = .ok (.aload_n 0, 1) := by decide +kernel
theorem dX10_closeApart_56 : decode cX10_closeApart 56 = .ok (.getfield 43, 3) := by decide +kernel
theorem dX10_closeApart_59 : decode cX10_closeApart 59 = .ok (.bipush 8, 2) := by decide +kernel
theorem dX10_closeApart_61 : decode cX10_closeApart 61 = .ok (.iload_n 2, 1) := by decide +kernel
theorem dX10_closeApart_62 : decode cX10_closeApart 62 = .ok (.imul, 1) := by decide +kernel
theorem dX10_closeApart_63 : decode cX10_closeApart 63 = .ok (.iload_n 3, 1) := by decide +kernel
theorem dX10_closeApart_64 : decode cX10_closeApart 64 = .ok (.iadd, 1) := by decide +kernel
theorem dX10_closeApart_65 : decode cX10_closeApart 65 = .ok (.iload 4, 2) := by decide +kernel
theorem dX10_closeApart_67 : decode cX10_closeApart 67 = .ok (.aload_n 0, 1) := by decide +kernel
theorem dX10_closeApart_68 : decode cX10_closeApart 68 = .ok (.getfield 43, 3) := by decide +kernel
theorem dX10_closeApart_71 : decode cX10_closeApart 71 = .ok (.bipush 8, 2) := by decide +kernel
theorem dX10_closeApart_73 : decode cX10_closeApart 73 = .ok (.iload_n 2, 1) := by decide +kernel
theorem dX10_closeApart_74 : decode cX10_closeApart 74 = .ok (.imul, 1) := by decide +kernel
theorem dX10_closeApart_75 : decode cX10_closeApart 75 = .ok (.iload_n 3, 1) := by decide +kernel
theorem dX10_closeApart_76 : decode cX10_closeApart 76 = .ok (.iadd, 1) := by decide +kernel
theorem dX10_closeApart_77 : decode cX10_closeApart 77 = .ok (.iaload, 1) := by decide +kernel
theorem dX10_closeApart_78 : decode cX10_closeApart 78 = .ok (.if_icmp .ge 8, 3) := by decide +kernel
theorem dX10_closeApart_81 : decode cX10_closeApart 81 = .ok (.iload 4, 2) := by decide +kernel
theorem dX10_closeApart_83 : decode cX10_closeApart 83 = .ok (.goto 14, 3) := by decide +kernel
theorem dX10_closeApart_86 : decode cX10_closeApart 86 = .ok (.aload_n 0, 1) := by decide +kernel
theorem dX10_closeApart_87 : decode cX10_closeApart 87 = .ok (.getfield 43, 3) := by decide +kernel
theorem dX10_closeApart_90 : decode cX10_closeApart 90 = .ok (.bipush 8, 2) := by decide +kernel
theorem dX10_closeApart_92 : decode cX10_closeApart 92 = .ok (.iload_n 2, 1) := by decide +kernel
theorem dX10_closeApart_93 : decode cX10_closeApart 93 = .ok (.imul, 1) := by decide +kernel
theorem dX10_closeApart_94 : decode cX10_closeApart 94 = .ok (.iload_n 3, 1) := by decide +kernel
theorem dX10_closeApart_95 : decode cX10_closeApart 95 = .ok (.iadd, 1) := by decide +kernel
theorem dX10_closeApart_96 : decode cX10_closeApart 96 = .ok (.iaload, 1) := by decide +kernel
theorem dX10_closeApart_97 : decode cX10_closeApart 97 = .ok (.iastore, 1) := by decide +kernel
theorem dX10_closeApart_98 : decode cX10_closeApart 98 = .ok (.iinc 3 1, 3) := by decide +kernel
theorem dX10_closeApart_101 : decode cX10_closeApart 101 = .ok (.goto (-79), 3) := by decide +kernel
theorem dX10_closeApart_104 : decode cX10_closeApart 104 = .ok (.iinc 2 1, 3) := by decide +kernel
theorem dX10_closeApart_107 : decode cX10_closeApart 107 = .ok (.goto (-95), 3) := by decide +kernel
theorem dX10_closeApart_110 : decode cX10_closeApart 110 = .ok (.iinc 1 1, 3) := by decide +kernel
theorem dX10_closeApart_113 : decode cX10_closeApart 113 = .ok (.goto (-111), 3) := by decide +kernel
theorem dX10_closeApart_116 : decode cX10_closeApart 116 = .ok (.return_, 1) := by decide +kernel
theorem dX10_allApart_0 : decode cX10_allApart 0 = .ok (.iconst 0, 1) := by decide +kernel
theorem dX10_allApart_1 : decode cX10_allApart 1 = .ok (.istore_n 1, 1) := by decide +kernel
theorem dX10_allApart_2 : decode cX10_allApart 2 = .ok (.iconst 0, 1) := by decide +kernel
theorem dX10_allApart_3 : decode cX10_allApart 3 = .ok (.istore_n 2, 1) := by decide +kernel
theorem dX10_allApart_4 : decode cX10_allApart 4 = .ok (.iload_n 2, 1) := by decide +kernel
theorem dX10_allApart_5 : decode cX10_allApart 5 = .ok (.aload_n 0, 1) := by decide +kernel
theorem dX10_allApart_6 : decode cX10_allApart 6 = .ok (.getfield 66, 3) := by decide +kernel
theorem dX10_allApart_9 : decode cX10_allApart 9 = .ok (.if_icmp .ge 41, 3) := by decide +kernel
theorem dX10_allApart_12 : decode cX10_allApart 12 = .ok (.iload_n 2, 1) := by decide +kernel
theorem dX10_allApart_13 : decode cX10_allApart 13 = .ok (.iconst 1, 1) := by decide +kernel
theorem dX10_allApart_14 : decode cX10_allApart 14 = .ok (.iadd, 1) := by decide +kernel
theorem dX10_allApart_15 : decode cX10_allApart 15 = .ok (.istore_n 3, 1) := by decide +kernel
theorem dX10_allApart_16 : decode cX10_allApart 16 = .ok (.iload_n 3, 1) := by decide +kernel
theorem dX10_allApart_17 : decode cX10_allApart 17 = .ok (.aload_n 0, 1) := by decide +kernel
theorem dX10_allApart_18 : decode cX10_allApart 18 = .ok (.getfield 66, 3) := by decide +kernel
theorem dX10_allApart_21 : decode cX10_allApart 21 = .ok (.if_icmp .ge 23, 3) := by decide +kernel
theorem dX10_allApart_24 : decode cX10_allApart 24 = .ok (.iload_n 1, 1) := by decide +kernel
theorem dX10_allApart_25 : decode cX10_allApart 25 = .ok (.aload_n 0, 1) := by decide +kernel
theorem dX10_allApart_26 : decode cX10_allApart 26 = .ok (.getfield 43, 3) := by decide +kernel
theorem dX10_allApart_29 : decode cX10_allApart 29 = .ok (.bipush 8, 2) := by decide +kernel
theorem dX10_allApart_31 : decode cX10_allApart 31 = .ok (.iload_n 2, 1) := by decide +kernel
theorem dX10_allApart_32 : decode cX10_allApart 32 = .ok (.imul, 1) := by decide +kernel
theorem dX10_allApart_33 : decode cX10_allApart 33 = .ok (.iload_n 3, 1) := by decide +kernel
theorem dX10_allApart_34 : decode cX10_allApart 34 = .ok (.iadd, 1) := by decide +kernel
theorem dX10_allApart_35 : decode cX10_allApart 35 = .ok (.iaload, 1) := by decide +kernel
theorem dX10_allApart_36 : decode cX10_allApart 36 = .ok (.iadd, 1) := by decide +kernel
theorem dX10_allApart_37 : decode cX10_allApart 37 = .ok (.istore_n 1, 1) := by decide +kernel
theorem dX10_allApart_38 : decode cX10_allApart 38 = .ok (.iinc 3 1, 3) := by decide +kernel
theorem dX10_allApart_41 : decode cX10_allApart 41 = .ok (.goto (-25), 3) := by decide +kernel
theorem dX10_allApart_44 : decode cX10_allApart 44 = .ok (.iinc 2 1, 3) := by decide +kernel
theorem dX10_allApart_47 : decode cX10_allApart 47 = .ok (.goto (-43), 3) := by decide +kernel
theorem dX10_allApart_50 : decode cX10_allApart 50 = .ok (.iload_n 1, 1) := by decide +kernel
theorem dX10_allApart_51 : decode cX10_allApart 51 = .ok (.ireturn, 1) := by decide +kernel
theorem dX10_way_0 : decode cX10_way 0 = .ok (.aload_n 0, 1) := by decide +kernel
theorem dX10_way_1 : decode cX10_way 1 = .ok (.iload_n 1, 1) := by decide +kernel
theorem dX10_way_2 : decode cX10_way 2 = .ok (.invokevirtual 167, 3) := by decide +kernel
theorem dX10_way_5 : decode cX10_way 5 = .ok (.ifCond .eq 21, 3) := by decide +kernel
theorem dX10_way_8 : decode cX10_way 8 = .ok (.aload_n 0, 1) := by decide +kernel
theorem dX10_way_9 : decode cX10_way 9 = .ok (.iload_n 2, 1) := by decide +kernel
theorem dX10_way_10 : decode cX10_way 10 = .ok (.invokevirtual 189, 3) := by decide +kernel
theorem dX10_way_13 : decode cX10_way 13 = .ok (.ifCond .eq 13, 3) := by decide +kernel
theorem dX10_way_16 : decode cX10_way 16 = .ok (.iload_n 3, 1) := by decide +kernel
theorem dX10_way_17 : decode cX10_way 17 = .ok (.i2l, 1) := by decide +kernel
theorem dX10_way_18 : decode cX10_way 18 = .ok (.lconst 0, 1) := by decide +kernel
theorem dX10_way_19 : decode cX10_way 19 = .ok (.lconst 1, 1) := by decide +kernel
theorem dX10_way_20 : decode cX10_way 20 = .ok (.invokestatic 69, 3) := by decide +kernel
theorem dX10_way_23 : decode cX10_way 23 = .ok (.ifCond .ne 5, 3) := by decide +kernel
theorem dX10_way_26 : decode cX10_way 26 = .ok (.iconst (-1), 1) := by decide +kernel
theorem dX10_way_27 : decode cX10_way 27 = .ok (.ireturn, 1) := by decide +kernel
theorem dX10_way_28 : decode cX10_way 28 = .ok (.aload_n 0, 1) := by decide +kernel
theorem dX10_way_29 : decode cX10_way 29 = .ok (.invokevirtual 192, 3) := by decide +kernel
theorem dX10_way_32 : decode cX10_way 32 = .ok (.aload_n 0, 1) := by decide +kernel
theorem dX10_way_33 : decode cX10_way 33 = .ok (.invokevirtual 195, 3) := by decide +kernel
theorem dX10_way_36 : decode cX10_way 36 = .ok (.aload_n 0, 1) := by decide +kernel
theorem dX10_way_37 : decode cX10_way 37 = .ok (.getfield 7, 3) := by decide +kernel
theorem dX10_way_40 : decode cX10_way 40 = .ok (.bipush 10, 2) := by decide +kernel
theorem dX10_way_42 : decode cX10_way 42 = .ok (.iload_n 1, 1) := by decide +kernel
theorem dX10_way_43 : decode cX10_way 43 = .ok (.iadd, 1) := by decide +kernel
theorem dX10_way_44 : decode cX10_way 44 = .ok (.iaload, 1) := by decide +kernel
theorem dX10_way_45 : decode cX10_way 45 = .ok (.istore 4, 2) := by decide +kernel
theorem dX10_way_47 : decode cX10_way 47 = .ok (.aload_n 0, 1) := by decide +kernel
theorem dX10_way_48 : decode cX10_way 48 = .ok (.getfield 43, 3) := by decide +kernel
theorem dX10_way_51 : decode cX10_way 51 = .ok (.bipush 8, 2) := by decide +kernel
theorem dX10_way_53 : decode cX10_way 53 = .ok (.iload 4, 2) := by decide +kernel
theorem dX10_way_55 : decode cX10_way 55 = .ok (.imul, 1) := by decide +kernel
theorem dX10_way_56 : decode cX10_way 56 = .ok (.iload_n 2, 1) := by decide +kernel
theorem dX10_way_57 : decode cX10_way 57 = .ok (.iadd, 1) := by decide +kernel
theorem dX10_way_58 : decode cX10_way 58 = .ok (.iaload, 1) := by decide +kernel
theorem dX10_way_59 : decode cX10_way 59 = .ok (.istore 5, 2) := by decide +kernel
theorem dX10_way_61 : decode cX10_way 61 = .ok (.iload 5, 2) := by decide +kernel
theorem dX10_way_63 : decode cX10_way 63 = .ok (.bipush 20, 2) := by decide +kernel
theorem dX10_way_65 : decode cX10_way 65 = .ok (.if_icmp .ne 6, 3) := by decide +kernel
theorem dX10_way_68 : decode cX10_way 68 = .ok (.bipush (-4), 2) := by decide +kernel
theorem dX10_way_70 : decode cX10_way 70 = .ok (.ireturn, 1) := by decide +kernel
theorem dX10_way_71 : decode cX10_way 71 = .ok (.iload_n 3, 1) := by decide +kernel
theorem dX10_way_72 : decode cX10_way 72 = .ok (.ifCond .ne 6, 3) := by decide +kernel
theorem dX10_way_75 : decode cX10_way 75 = .ok (.iload 5, 2) := by decide +kernel
theorem dX10_way_77 : decode cX10_way 77 = .ok (.ireturn, 1) := by decide +kernel
theorem dX10_way_78 : decode cX10_way 78 = .ok (.iconst 0, 1) := by decide +kernel
theorem dX10_way_79 : decode cX10_way 79 = .ok (.istore 6, 2) := by decide +kernel
theorem dX10_way_81 : decode cX10_way 81 = .ok (.iload 6, 2) := by decide +kernel
theorem dX10_way_83 : decode cX10_way 83 = .ok (.aload_n 0, 1) := by decide +kernel
theorem dX10_way_84 : decode cX10_way 84 = .ok (.getfield 73, 3) := by decide +kernel
theorem dX10_way_87 : decode cX10_way 87 = .ok (.if_icmp .ge 63, 3) := by decide +kernel
theorem dX10_way_90 : decode cX10_way 90 = .ok (.iload 5, 2) := by decide +kernel
theorem dX10_way_92 : decode cX10_way 92 = .ok (.ifCond .le 58, 3) := by decide +kernel
theorem dX10_way_95 : decode cX10_way 95 = .ok (.aload_n 0, 1) := by decide +kernel
theorem dX10_way_96 : decode cX10_way 96 = .ok (.iload 6, 2) := by decide +kernel
theorem dX10_way_98 : decode cX10_way 98 = .ok (.iload 4, 2) := by decide +kernel
theorem dX10_way_100 : decode cX10_way 100 = .ok (.invokevirtual 177, 3) := by decide +kernel
theorem dX10_way_103 : decode cX10_way 103 = .ok (.ifCond .eq 41, 3) := by decide +kernel
theorem dX10_way_106 : decode cX10_way 106 = .ok (.aload_n 0, 1) := by decide +kernel
theorem dX10_way_107 : decode cX10_way 107 = .ok (.iconst 0, 1) := by decide +kernel
theorem dX10_way_108 : decode cX10_way 108 = .ok (.iload 6, 2) := by decide +kernel
theorem dX10_way_110 : decode cX10_way 110 = .ok (.invokevirtual 163, 3) := by decide +kernel
theorem dX10_way_113 : decode cX10_way 113 = .ok (.ifCond .ne 31, 3) := by decide +kernel
theorem dX10_way_116 : decode cX10_way 116 = .ok (.aload_n 0, 1) := by decide +kernel
theorem dX10_way_117 : decode cX10_way 117 = .ok (.getfield 43, 3) := by decide +kernel
theorem dX10_way_120 : decode cX10_way 120 = .ok (.bipush 8, 2) := by decide +kernel
theorem dX10_way_122 : decode cX10_way 122 = .ok (.aload_n 0, 1) := by decide +kernel
theorem dX10_way_123 : decode cX10_way 123 = .ok (.iload 6, 2) := by decide +kernel
theorem dX10_way_125 : decode cX10_way 125 = .ok (.iload 4, 2) := by decide +kernel
theorem dX10_way_127 : decode cX10_way 127 = .ok (.invokevirtual 146, 3) := by decide +kernel
theorem dX10_way_130 : decode cX10_way 130 = .ok (.imul, 1) := by decide +kernel
theorem dX10_way_131 : decode cX10_way 131 = .ok (.iload_n 2, 1) := by decide +kernel
theorem dX10_way_132 : decode cX10_way 132 = .ok (.iadd, 1) := by decide +kernel
theorem dX10_way_133 : decode cX10_way 133 = .ok (.iaload, 1) := by decide +kernel
theorem dX10_way_134 : decode cX10_way 134 = .ok (.iload 5, 2) := by decide +kernel
theorem dX10_way_136 : decode cX10_way 136 = .ok (.iconst 1, 1) := by decide +kernel
theorem dX10_way_137 : decode cX10_way 137 = .ok (.isub, 1) := by decide +kernel
theorem dX10_way_138 : decode cX10_way 138 = .ok (.if_icmp .ne 6, 3) := by decide +kernel
theorem dX10_way_141 : decode cX10_way 141 = .ok (.iload 6, 2) := by decide +kernel
theorem dX10_way_143 : decode cX10_way 143 = .ok (.ireturn, 1) := by decide +kernel
theorem dX10_way_144 : decode cX10_way 144 = .ok (.iinc 6 1, 3) := by decide +kernel
theorem dX10_way_147 : decode cX10_way 147 = .ok (.goto (-66), 3) := by decide +kernel
theorem dX10_way_150 : decode cX10_way 150 = .ok (.bipush (-4), 2) := by decide +kernel
theorem dX10_way_152 : decode cX10_way 152 = .ok (.ireturn, 1) := by decide +kernel
theorem dX10_joins_0 : decode cX10_joins 0 = .ok (.aload_n 0, 1) := by decide +kernel
theorem dX10_joins_1 : decode cX10_joins 1 = .ok (.getfield 46, 3) := by decide +kernel
theorem dX10_joins_4 : decode cX10_joins 4 = .ok (.aload_n 0, 1) := by decide +kernel
theorem dX10_joins_5 : decode cX10_joins 5 = .ok (.getfield 19, 3) := by decide +kernel
theorem dX10_joins_8 : decode cX10_joins 8 = .ok (.iload_n 1, 1) := by decide +kernel
theorem dX10_joins_9 : decode cX10_joins 9 = .ok (.iaload, 1) := by decide +kernel
theorem dX10_joins_10 : decode cX10_joins 10 = .ok (.iaload, 1) := by decide +kernel
theorem dX10_joins_11 : decode cX10_joins 11 = .ok (.istore_n 2, 1) := by decide +kernel
theorem dX10_joins_12 : decode cX10_joins 12 = .ok (.iconst 0, 1) := by decide +kernel
theorem dX10_joins_13 : decode cX10_joins 13 = .ok (.istore_n 3, 1) := by decide +kernel
theorem dX10_joins_14 : decode cX10_joins 14 = .ok (.iload_n 3, 1) := by decide +kernel
theorem dX10_joins_15 : decode cX10_joins 15 = .ok (.aload_n 0, 1) := by decide +kernel
theorem dX10_joins_16 : decode cX10_joins 16 = .ok (.getfield 66, 3) := by decide +kernel
theorem dX10_joins_19 : decode cX10_joins 19 = .ok (.if_icmp .ge 45, 3) := by decide +kernel
theorem dX10_joins_22 : decode cX10_joins 22 = .ok (.aload_n 0, 1) := by decide +kernel
theorem dX10_joins_23 : decode cX10_joins 23 = .ok (.getfield 46, 3) := by decide +kernel
theorem dX10_joins_26 : decode cX10_joins 26 = .ok (.iload_n 3, 1) := by decide +kernel
theorem dX10_joins_27 : decode cX10_joins 27 = .ok (.aload_n 0, 1) := by decide +kernel
theorem dX10_joins_28 : decode cX10_joins 28 = .ok (.getfield 46, 3) := by decide +kernel
theorem dX10_joins_31 : decode cX10_joins 31 = .ok (.iload_n 3, 1) := by decide +kernel
theorem dX10_joins_32 : decode cX10_joins 32 = .ok (.iaload, 1) := by decide +kernel
theorem dX10_joins_33 : decode cX10_joins 33 = .ok (.iload_n 2, 1) := by decide +kernel
theorem dX10_joins_34 : decode cX10_joins 34 = .ok (.if_icmp .ne 17, 3) := by decide +kernel
theorem dX10_joins_37 : decode cX10_joins 37 = .ok (.aload_n 0, 1) := by decide +kernel
theorem dX10_joins_38 : decode cX10_joins 38 = .ok (.getfield 46, 3) := by decide +kernel
theorem dX10_joins_41 : decode cX10_joins 41 = .ok (.aload_n 0, 1) := by decide +kernel
theorem dX10_joins_42 : decode cX10_joins 42 = .ok (.getfield 16, 3) := by decide +kernel
theorem dX10_joins_45 : decode cX10_joins 45 = .ok (.iload_n 1, 1) := by decide +kernel
theorem dX10_joins_46 : decode cX10_joins 46 = .ok (.iaload, 1) := by decide +kernel
theorem dX10_joins_47 : decode cX10_joins 47 = .ok (.iaload, 1) := by decide +kernel
theorem dX10_joins_48 : decode cX10_joins 48 = .ok (.goto 9, 3) := by decide +kernel
theorem dX10_joins_51 : decode cX10_joins 51 = .ok (.aload_n 0, 1) := by decide +kernel
theorem dX10_joins_52 : decode cX10_joins 52 = .ok (.getfield 46, 3) := by decide +kernel
theorem dX10_joins_55 : decode cX10_joins 55 = .ok (.iload_n 3, 1) := by decide +kernel
theorem dX10_joins_56 : decode cX10_joins 56 = .ok (.iaload, 1) := by decide +kernel
theorem dX10_joins_57 : decode cX10_joins 57 = .ok (.iastore, 1) := by decide +kernel
theorem dX10_joins_58 : decode cX10_joins 58 = .ok (.iinc 3 1, 3) := by decide +kernel
theorem dX10_joins_61 : decode cX10_joins 61 = .ok (.goto (-47), 3) := by decide +kernel
theorem dX10_joins_64 : decode cX10_joins 64 = .ok (.return_, 1) := by decide +kernel
theorem dX10_hangs_0 : decode cX10_hangs 0 = .ok (.iconst 0, 1) := by decide +kernel
theorem dX10_hangs_1 : decode cX10_hangs 1 = .ok (.istore_n 3, 1) := by decide +kernel
theorem dX10_hangs_2 : decode cX10_hangs 2 = .ok (.iload_n 3, 1) := by decide +kernel
theorem dX10_hangs_3 : decode cX10_hangs 3 = .ok (.aload_n 0, 1) := by decide +kernel
theorem dX10_hangs_4 : decode cX10_hangs 4 = .ok (.getfield 66, 3) := by decide +kernel
theorem dX10_hangs_7 : decode cX10_hangs 7 = .ok (.if_icmp .ge 16, 3) := by decide +kernel
theorem dX10_hangs_10 : decode cX10_hangs 10 = .ok (.aload_n 0, 1) := by decide +kernel
theorem dX10_hangs_11 : decode cX10_hangs 11 = .ok (.getfield 46, 3) := by decide +kernel
theorem dX10_hangs_14 : decode cX10_hangs 14 = .ok (.iload_n 3, 1) := by decide +kernel
theorem dX10_hangs_15 : decode cX10_hangs 15 = .ok (.iload_n 3, 1) := by decide +kernel
theorem dX10_hangs_16 : decode cX10_hangs 16 = .ok (.iastore, 1) := by decide +kernel
theorem dX10_hangs_17 : decode cX10_hangs 17 = .ok (.iinc 3 1, 3) := by decide +kernel
theorem dX10_hangs_20 : decode cX10_hangs 20 = .ok (.goto (-18), 3) := by decide +kernel
theorem dX10_hangs_23 : decode cX10_hangs 23 = .ok (.iconst 0, 1) := by decide +kernel
theorem dX10_hangs_24 : decode cX10_hangs 24 = .ok (.istore_n 3, 1) := by decide +kernel
theorem dX10_hangs_25 : decode cX10_hangs 25 = .ok (.iload_n 3, 1) := by decide +kernel
theorem dX10_hangs_26 : decode cX10_hangs 26 = .ok (.aload_n 0, 1) := by decide +kernel
theorem dX10_hangs_27 : decode cX10_hangs 27 = .ok (.getfield 73, 3) := by decide +kernel
theorem dX10_hangs_30 : decode cX10_hangs 30 = .ok (.if_icmp .ge 39, 3) := by decide +kernel
theorem dX10_hangs_33 : decode cX10_hangs 33 = .ok (.iload_n 2, 1) := by decide +kernel
theorem dX10_hangs_34 : decode cX10_hangs 34 = .ok (.iload_n 3, 1) := by decide +kernel
theorem dX10_hangs_35 : decode cX10_hangs 35 = .ok (.invokestatic 198, 3) := by decide +kernel
theorem dX10_hangs_38 : decode cX10_hangs 38 = .ok (.ifCond .ne 20, 3) := by decide +kernel
theorem dX10_hangs_41 : decode cX10_hangs 41 = .ok (.aload_n 0, 1) := by decide +kernel
theorem dX10_hangs_42 : decode cX10_hangs 42 = .ok (.getfield 7, 3) := by decide +kernel
theorem dX10_hangs_45 : decode cX10_hangs 45 = .ok (.bipush 22, 2) := by decide +kernel
theorem dX10_hangs_47 : decode cX10_hangs 47 = .ok (.bipush 9, 2) := by decide +kernel
theorem dX10_hangs_49 : decode cX10_hangs 49 = .ok (.iload_n 1, 1) := by decide +kernel
theorem dX10_hangs_50 : decode cX10_hangs 50 = .ok (.imul, 1) := by decide +kernel
theorem dX10_hangs_51 : decode cX10_hangs 51 = .ok (.iadd, 1) := by decide +kernel
theorem dX10_hangs_52 : decode cX10_hangs 52 = .ok (.iload_n 3, 1) := by decide +kernel
theorem dX10_hangs_53 : decode cX10_hangs 53 = .ok (.iadd, 1) := by decide +kernel
theorem dX10_hangs_54 : decode cX10_hangs 54 = .ok (.iaload, 1) := by decide +kernel
theorem dX10_hangs_55 : decode cX10_hangs 55 = .ok (.ifCond .eq 8, 3) := by decide +kernel
theorem dX10_hangs_58 : decode cX10_hangs 58 = .ok (.aload_n 0, 1) := by decide +kernel
theorem dX10_hangs_59 : decode cX10_hangs 59 = .ok (.iload_n 3, 1) := by decide +kernel
theorem dX10_hangs_60 : decode cX10_hangs 60 = .ok (.invokevirtual 201, 3) := by decide +kernel
theorem dX10_hangs_63 : decode cX10_hangs 63 = .ok (.iinc 3 1, 3) := by decide +kernel
theorem dX10_hangs_66 : decode cX10_hangs 66 = .ok (.goto (-41), 3) := by decide +kernel
theorem dX10_hangs_69 : decode cX10_hangs 69 = .ok (.iconst 1, 1) := by decide +kernel
theorem dX10_hangs_70 : decode cX10_hangs 70 = .ok (.istore_n 3, 1) := by decide +kernel
theorem dX10_hangs_71 : decode cX10_hangs 71 = .ok (.iconst 0, 1) := by decide +kernel
theorem dX10_hangs_72 : decode cX10_hangs 72 = .ok (.istore 4, 2) := by decide +kernel
theorem dX10_hangs_74 : decode cX10_hangs 74 = .ok (.iload 4, 2) := by decide +kernel
theorem dX10_hangs_76 : decode cX10_hangs 76 = .ok (.aload_n 0, 1) := by decide +kernel
theorem dX10_hangs_77 : decode cX10_hangs 77 = .ok (.getfield 73, 3) := by decide +kernel
theorem dX10_hangs_80 : decode cX10_hangs 80 = .ok (.if_icmp .ge 66, 3) := by decide +kernel
theorem dX10_hangs_83 : decode cX10_hangs 83 = .ok (.iload_n 3, 1) := by decide +kernel
theorem dX10_hangs_84 : decode cX10_hangs 84 = .ok (.ifCond .eq 54, 3) := by decide +kernel
theorem dX10_hangs_87 : decode cX10_hangs 87 = .ok (.aload_n 0, 1) := by decide +kernel
theorem dX10_hangs_88 : decode cX10_hangs 88 = .ok (.getfield 7, 3) := by decide +kernel
theorem dX10_hangs_91 : decode cX10_hangs 91 = .ok (.bipush 22, 2) := by decide +kernel
theorem dX10_hangs_93 : decode cX10_hangs 93 = .ok (.bipush 9, 2) := by decide +kernel
theorem dX10_hangs_95 : decode cX10_hangs 95 = .ok (.iload_n 1, 1) := by decide +kernel
theorem dX10_hangs_96 : decode cX10_hangs 96 = .ok (.imul, 1) := by decide +kernel
theorem dX10_hangs_97 : decode cX10_hangs 97 = .ok (.iadd, 1) := by decide +kernel
theorem dX10_hangs_98 : decode cX10_hangs 98 = .ok (.iload 4, 2) := by decide +kernel
theorem dX10_hangs_100 : decode cX10_hangs 100 = .ok (.iadd, 1) := by decide +kernel
theorem dX10_hangs_101 : decode cX10_hangs 101 = .ok (.iaload, 1) := by decide +kernel
theorem dX10_hangs_102 : decode cX10_hangs 102 = .ok (.ifCond .eq 32, 3) := by decide +kernel
theorem dX10_hangs_105 : decode cX10_hangs 105 = .ok (.aload_n 0, 1) := by decide +kernel
theorem dX10_hangs_106 : decode cX10_hangs 106 = .ok (.getfield 46, 3) := by decide +kernel
theorem dX10_hangs_109 : decode cX10_hangs 109 = .ok (.aload_n 0, 1) := by decide +kernel
theorem dX10_hangs_110 : decode cX10_hangs 110 = .ok (.getfield 16, 3) := by decide +kernel
theorem dX10_hangs_113 : decode cX10_hangs 113 = .ok (.iload 4, 2) := by decide +kernel
theorem dX10_hangs_115 : decode cX10_hangs 115 = .ok (.iaload, 1) := by decide +kernel
theorem dX10_hangs_116 : decode cX10_hangs 116 = .ok (.iaload, 1) := by decide +kernel
theorem dX10_hangs_117 : decode cX10_hangs 117 = .ok (.aload_n 0, 1) := by decide +kernel
theorem dX10_hangs_118 : decode cX10_hangs 118 = .ok (.getfield 46, 3) := by decide +kernel
theorem dX10_hangs_121 : decode cX10_hangs 121 = .ok (.aload_n 0, 1) := by decide +kernel
theorem dX10_hangs_122 : decode cX10_hangs 122 = .ok (.getfield 7, 3) := by decide +kernel
theorem dX10_hangs_125 : decode cX10_hangs 125 = .ok (.bipush 10, 2) := by decide +kernel
theorem dX10_hangs_127 : decode cX10_hangs 127 = .ok (.iload_n 1, 1) := by decide +kernel
theorem dX10_hangs_128 : decode cX10_hangs 128 = .ok (.iadd, 1) := by decide +kernel
theorem dX10_hangs_129 : decode cX10_hangs 129 = .ok (.iaload, 1) := by decide +kernel
theorem dX10_hangs_130 : decode cX10_hangs 130 = .ok (.iaload, 1) := by decide +kernel
theorem dX10_hangs_131 : decode cX10_hangs 131 = .ok (.if_icmp .ne 7, 3) := by decide +kernel
theorem dX10_hangs_134 : decode cX10_hangs 134 = .ok (.iconst 1, 1) := by decide +kernel
theorem dX10_hangs_135 : decode cX10_hangs 135 = .ok (.goto 4, 3) := by decide +kernel
theorem dX10_hangs_138 : decode cX10_hangs 138 = .ok (.iconst 0, 1) := by decide +kernel
theorem dX10_hangs_139 : decode cX10_hangs 139 = .ok (.istore_n 3, 1) := by decide +kernel
theorem dX10_hangs_140 : decode cX10_hangs 140 = .ok (.iinc 4 1, 3) := by decide +kernel
theorem dX10_hangs_143 : decode cX10_hangs 143 = .ok (.goto (-69), 3) := by decide +kernel
theorem dX10_hangs_146 : decode cX10_hangs 146 = .ok (.iload_n 3, 1) := by decide +kernel
theorem dX10_hangs_147 : decode cX10_hangs 147 = .ok (.ireturn, 1) := by decide +kernel
theorem dX10_owedOut_0 : decode cX10_owedOut 0 = .ok (.iconst 0, 1) := by decide +kernel
theorem dX10_owedOut_1 : decode cX10_owedOut 1 = .ok (.istore_n 3, 1) := by decide +kernel
theorem dX10_owedOut_2 : decode cX10_owedOut 2 = .ok (.iconst 0, 1) := by decide +kernel
theorem dX10_owedOut_3 : decode cX10_owedOut 3 = .ok (.istore 4, 2) := by decide +kernel
theorem dX10_owedOut_5 : decode cX10_owedOut 5 = .ok (.iload 4, 2) := by decide +kernel
theorem dX10_owedOut_7 : decode cX10_owedOut 7 = .ok (.aload_n 0, 1) := by decide +kernel
theorem dX10_owedOut_8 : decode cX10_owedOut 8 = .ok (.getfield 73, 3) := by decide +kernel
theorem dX10_owedOut_11 : decode cX10_owedOut 11 = .ok (.if_icmp .ge 75, 3) := by decide +kernel
theorem dX10_owedOut_14 : decode cX10_owedOut 14 = .ok (.iload_n 3, 1) := by decide +kernel
theorem dX10_owedOut_15 : decode cX10_owedOut 15 = .ok (.aload_n 0, 1) := by decide +kernel
theorem dX10_owedOut_16 : decode cX10_owedOut 16 = .ok (.getfield 19, 3) := by decide +kernel
theorem dX10_owedOut_19 : decode cX10_owedOut 19 = .ok (.iload 4, 2) := by decide +kernel
theorem dX10_owedOut_21 : decode cX10_owedOut 21 = .ok (.iaload, 1) := by decide +kernel
theorem dX10_owedOut_22 : decode cX10_owedOut 22 = .ok (.iload_n 2, 1) := by decide +kernel
theorem dX10_owedOut_23 : decode cX10_owedOut 23 = .ok (.if_icmp .ne 21, 3) := by decide +kernel
theorem dX10_owedOut_26 : decode cX10_owedOut 26 = .ok (.aload_n 0, 1) := by decide +kernel
theorem dX10_owedOut_27 : decode cX10_owedOut 27 = .ok (.getfield 7, 3) := by decide +kernel
theorem dX10_owedOut_30 : decode cX10_owedOut 30 = .ok (.bipush 22, 2) := by decide +kernel
theorem dX10_owedOut_32 : decode cX10_owedOut 32 = .ok (.bipush 9, 2) := by decide +kernel
theorem dX10_owedOut_34 : decode cX10_owedOut 34 = .ok (.iload_n 1, 1) := by decide +kernel
theorem dX10_owedOut_35 : decode cX10_owedOut 35 = .ok (.imul, 1) := by decide +kernel
theorem dX10_owedOut_36 : decode cX10_owedOut 36 = .ok (.iadd, 1) := by decide +kernel
theorem dX10_owedOut_37 : decode cX10_owedOut 37 = .ok (.iload 4, 2) := by decide +kernel
theorem dX10_owedOut_39 : decode cX10_owedOut 39 = .ok (.iadd, 1) := by decide +kernel
theorem dX10_owedOut_40 : decode cX10_owedOut 40 = .ok (.iaload, 1) := by decide +kernel
theorem dX10_owedOut_41 : decode cX10_owedOut 41 = .ok (.goto 4, 3) := by decide +kernel
theorem dX10_owedOut_44 : decode cX10_owedOut 44 = .ok (.iconst 0, 1) := by decide +kernel
theorem dX10_owedOut_45 : decode cX10_owedOut 45 = .ok (.iadd, 1) := by decide +kernel
theorem dX10_owedOut_46 : decode cX10_owedOut 46 = .ok (.istore_n 3, 1) := by decide +kernel
theorem dX10_owedOut_47 : decode cX10_owedOut 47 = .ok (.iload_n 3, 1) := by decide +kernel
theorem dX10_owedOut_48 : decode cX10_owedOut 48 = .ok (.aload_n 0, 1) := by decide +kernel
theorem dX10_owedOut_49 : decode cX10_owedOut 49 = .ok (.getfield 16, 3) := by decide +kernel
theorem dX10_owedOut_52 : decode cX10_owedOut 52 = .ok (.iload 4, 2) := by decide +kernel
theorem dX10_owedOut_54 : decode cX10_owedOut 54 = .ok (.iaload, 1) := by decide +kernel
theorem dX10_owedOut_55 : decode cX10_owedOut 55 = .ok (.iload_n 2, 1) := by decide +kernel
theorem dX10_owedOut_56 : decode cX10_owedOut 56 = .ok (.if_icmp .ne 21, 3) := by decide +kernel
theorem dX10_owedOut_59 : decode cX10_owedOut 59 = .ok (.aload_n 0, 1) := by decide +kernel
theorem dX10_owedOut_60 : decode cX10_owedOut 60 = .ok (.getfield 7, 3) := by decide +kernel
theorem dX10_owedOut_63 : decode cX10_owedOut 63 = .ok (.bipush 22, 2) := by decide +kernel
theorem dX10_owedOut_65 : decode cX10_owedOut 65 = .ok (.bipush 9, 2) := by decide +kernel
theorem dX10_owedOut_67 : decode cX10_owedOut 67 = .ok (.iload_n 1, 1) := by decide +kernel
theorem dX10_owedOut_68 : decode cX10_owedOut 68 = .ok (.imul, 1) := by decide +kernel
theorem dX10_owedOut_69 : decode cX10_owedOut 69 = .ok (.iadd, 1) := by decide +kernel
theorem dX10_owedOut_70 : decode cX10_owedOut 70 = .ok (.iload 4, 2) := by decide +kernel
theorem dX10_owedOut_72 : decode cX10_owedOut 72 = .ok (.iadd, 1) := by decide +kernel
theorem dX10_owedOut_73 : decode cX10_owedOut 73 = .ok (.iaload, 1) := by decide +kernel
theorem dX10_owedOut_74 : decode cX10_owedOut 74 = .ok (.goto 4, 3) := by decide +kernel
theorem dX10_owedOut_77 : decode cX10_owedOut 77 = .ok (.iconst 0, 1) := by decide +kernel
theorem dX10_owedOut_78 : decode cX10_owedOut 78 = .ok (.isub, 1) := by decide +kernel
theorem dX10_owedOut_79 : decode cX10_owedOut 79 = .ok (.istore_n 3, 1) := by decide +kernel
theorem dX10_owedOut_80 : decode cX10_owedOut 80 = .ok (.iinc 4 1, 3) := by decide +kernel
theorem dX10_owedOut_83 : decode cX10_owedOut 83 = .ok (.goto (-78), 3) := by decide +kernel
theorem dX10_owedOut_86 : decode cX10_owedOut 86 = .ok (.iload_n 3, 1) := by decide +kernel
theorem dX10_owedOut_87 : decode cX10_owedOut 87 = .ok (.ireturn, 1) := by decide +kernel
theorem dX10_isOwed_0 : decode cX10_isOwed 0 = .ok (.iconst 0, 1) := by decide +kernel
theorem dX10_isOwed_1 : decode cX10_isOwed 1 = .ok (.istore_n 2, 1) := by decide +kernel
theorem dX10_isOwed_2 : decode cX10_isOwed 2 = .ok (.iconst 1, 1) := by decide +kernel
theorem dX10_isOwed_3 : decode cX10_isOwed 3 = .ok (.istore_n 3, 1) := by decide +kernel
theorem dX10_isOwed_4 : decode cX10_isOwed 4 = .ok (.iconst 0, 1) := by decide +kernel
theorem dX10_isOwed_5 : decode cX10_isOwed 5 = .ok (.istore 4, 2) := by decide +kernel
theorem dX10_isOwed_7 : decode cX10_isOwed 7 = .ok (.iload 4, 2) := by decide +kernel
theorem dX10_isOwed_9 : decode cX10_isOwed 9 = .ok (.aload_n 0, 1) := by decide +kernel
theorem dX10_isOwed_10 : decode cX10_isOwed 10 = .ok (.getfield 66, 3) := by decide +kernel
theorem dX10_isOwed_13 : decode cX10_isOwed 13 = .ok (.if_icmp .ge 73, 3) := by decide +kernel
theorem dX10_isOwed_16 : decode cX10_isOwed 16 = .ok (.aload_n 0, 1) := by decide +kernel
theorem dX10_isOwed_17 : decode cX10_isOwed 17 = .ok (.iload_n 1, 1) := by decide +kernel
theorem dX10_isOwed_18 : decode cX10_isOwed 18 = .ok (.iload 4, 2) := by decide +kernel
theorem dX10_isOwed_20 : decode cX10_isOwed 20 = .ok (.invokevirtual 205, 3) := by decide +kernel
theorem dX10_isOwed_23 : decode cX10_isOwed 23 = .ok (.istore 5, 2) := by decide +kernel
theorem dX10_isOwed_25 : decode cX10_isOwed 25 = .ok (.iload_n 2, 1) := by decide +kernel
theorem dX10_isOwed_26 : decode cX10_isOwed 26 = .ok (.iload 5, 2) := by decide +kernel
theorem dX10_isOwed_28 : decode cX10_isOwed 28 = .ok (.iconst (-1), 1) := by decide +kernel
theorem dX10_isOwed_29 : decode cX10_isOwed 29 = .ok (.if_icmp .ne 7, 3) := by decide +kernel
theorem dX10_isOwed_32 : decode cX10_isOwed 32 = .ok (.iconst 1, 1) := by decide +kernel
theorem dX10_isOwed_33 : decode cX10_isOwed 33 = .ok (.goto 4, 3) := by decide +kernel
theorem dX10_isOwed_36 : decode cX10_isOwed 36 = .ok (.iconst 0, 1) := by decide +kernel
theorem dX10_isOwed_37 : decode cX10_isOwed 37 = .ok (.iadd, 1) := by decide +kernel
theorem dX10_isOwed_38 : decode cX10_isOwed 38 = .ok (.istore_n 2, 1) := by decide +kernel
theorem dX10_isOwed_39 : decode cX10_isOwed 39 = .ok (.iload_n 3, 1) := by decide +kernel
theorem dX10_isOwed_40 : decode cX10_isOwed 40 = .ok (.ifCond .eq 38, 3) := by decide +kernel
theorem dX10_isOwed_43 : decode cX10_isOwed 43 = .ok (.iload 5, 2) := by decide +kernel
theorem dX10_isOwed_45 : decode cX10_isOwed 45 = .ok (.ifCond .eq 29, 3) := by decide +kernel
theorem dX10_isOwed_48 : decode cX10_isOwed 48 = .ok (.iload 5, 2) := by decide +kernel
theorem dX10_isOwed_50 : decode cX10_isOwed 50 = .ok (.iconst (-1), 1) := by decide +kernel
theorem dX10_isOwed_51 : decode cX10_isOwed 51 = .ok (.if_icmp .eq 23, 3) := by decide +kernel
theorem dX10_isOwed_54 : decode cX10_isOwed 54 = .ok (.iload 5, 2) := by decide +kernel
theorem dX10_isOwed_56 : decode cX10_isOwed 56 = .ok (.iconst 1, 1) := by decide +kernel
theorem dX10_isOwed_57 : decode cX10_isOwed 57 = .ok (.if_icmp .ne 21, 3) := by decide +kernel
theorem dX10_isOwed_60 : decode cX10_isOwed 60 = .ok (.iload 4, 2) := by decide +kernel
theorem dX10_isOwed_62 : decode cX10_isOwed 62 = .ok (.aload_n 0, 1) := by decide +kernel
theorem dX10_isOwed_63 : decode cX10_isOwed 63 = .ok (.getfield 7, 3) := by decide +kernel
theorem dX10_isOwed_66 : decode cX10_isOwed 66 = .ok (.bipush 10, 2) := by decide +kernel
theorem dX10_isOwed_68 : decode cX10_isOwed 68 = .ok (.iload_n 1, 1) := by decide +kernel
theorem dX10_isOwed_69 : decode cX10_isOwed 69 = .ok (.iadd, 1) := by decide +kernel
theorem dX10_isOwed_70 : decode cX10_isOwed 70 = .ok (.iaload, 1) := by decide +kernel
theorem dX10_isOwed_71 : decode cX10_isOwed 71 = .ok (.if_icmp .ne 7, 3) := by decide +kernel
theorem dX10_isOwed_74 : decode cX10_isOwed 74 = .ok (.iconst 1, 1) := by decide +kernel
theorem dX10_isOwed_75 : decode cX10_isOwed 75 = .ok (.goto 4, 3) := by decide +kernel
theorem dX10_isOwed_78 : decode cX10_isOwed 78 = .ok (.iconst 0, 1) := by decide +kernel
theorem dX10_isOwed_79 : decode cX10_isOwed 79 = .ok (.istore_n 3, 1) := by decide +kernel
theorem dX10_isOwed_80 : decode cX10_isOwed 80 = .ok (.iinc 4 1, 3) := by decide +kernel
theorem dX10_isOwed_83 : decode cX10_isOwed 83 = .ok (.goto (-76), 3) := by decide +kernel
theorem dX10_isOwed_86 : decode cX10_isOwed 86 = .ok (.iload_n 3, 1) := by decide +kernel
theorem dX10_isOwed_87 : decode cX10_isOwed 87 = .ok (.ifCond .eq 34, 3) := by decide +kernel
theorem dX10_isOwed_90 : decode cX10_isOwed 90 = .ok (.iload_n 2, 1) := by decide +kernel
theorem dX10_isOwed_91 : decode cX10_isOwed 91 = .ok (.aload_n 0, 1) := by decide +kernel
theorem dX10_isOwed_92 : decode cX10_isOwed 92 = .ok (.iload_n 1, 1) := by decide +kernel
theorem dX10_isOwed_93 : decode cX10_isOwed 93 = .ok (.aload_n 0, 1) := by decide +kernel
theorem dX10_isOwed_94 : decode cX10_isOwed 94 = .ok (.getfield 7, 3) := by decide +kernel
theorem dX10_isOwed_97 : decode cX10_isOwed 97 = .ok (.bipush 10, 2) := by decide +kernel
theorem dX10_isOwed_99 : decode cX10_isOwed 99 = .ok (.iload_n 1, 1) := by decide +kernel
theorem dX10_isOwed_100 : decode cX10_isOwed 100 = .ok (.iadd, 1) := by decide +kernel
theorem dX10_isOwed_101 : decode cX10_isOwed 101 = .ok (.iaload, 1) := by decide +kernel
theorem dX10_isOwed_102 : decode cX10_isOwed 102 = .ok (.invokevirtual 205, 3) := by decide +kernel
theorem dX10_isOwed_105 : decode cX10_isOwed 105 = .ok (.iconst 1, 1) := by decide +kernel
theorem dX10_isOwed_106 : decode cX10_isOwed 106 = .ok (.if_icmp .ne 7, 3) := by decide +kernel
theorem dX10_isOwed_109 : decode cX10_isOwed 109 = .ok (.iconst 1, 1) := by decide +kernel
theorem dX10_isOwed_110 : decode cX10_isOwed 110 = .ok (.goto 4, 3) := by decide +kernel
theorem dX10_isOwed_113 : decode cX10_isOwed 113 = .ok (.iconst 0, 1) := by decide +kernel
theorem dX10_isOwed_114 : decode cX10_isOwed 114 = .ok (.if_icmp .ne 7, 3) := by decide +kernel
theorem dX10_isOwed_117 : decode cX10_isOwed 117 = .ok (.iconst 1, 1) := by decide +kernel
theorem dX10_isOwed_118 : decode cX10_isOwed 118 = .ok (.goto 4, 3) := by decide +kernel
theorem dX10_isOwed_121 : decode cX10_isOwed 121 = .ok (.iconst 0, 1) := by decide +kernel
theorem dX10_isOwed_122 : decode cX10_isOwed 122 = .ok (.ireturn, 1) := by decide +kernel
theorem dX10_even_0 : decode cX10_even 0 = .ok (.aload_n 0, 1) := by decide +kernel
theorem dX10_even_1 : decode cX10_even 1 = .ok (.iload_n 1, 1) := by decide +kernel
theorem dX10_even_2 : decode cX10_even 2 = .ok (.invokevirtual 167, 3) := by decide +kernel
theorem dX10_even_5 : decode cX10_even 5 = .ok (.ifCond .ne 5, 3) := by decide +kernel
theorem dX10_even_8 : decode cX10_even 8 = .ok (.iconst (-1), 1) := by decide +kernel
theorem dX10_even_9 : decode cX10_even 9 = .ok (.ireturn, 1) := by decide +kernel
theorem dX10_even_10 : decode cX10_even 10 = .ok (.aload_n 0, 1) := by decide +kernel
theorem dX10_even_11 : decode cX10_even 11 = .ok (.iload_n 1, 1) := by decide +kernel
theorem dX10_even_12 : decode cX10_even 12 = .ok (.invokevirtual 208, 3) := by decide +kernel
theorem dX10_even_15 : decode cX10_even 15 = .ok (.ifCond .ne 6, 3) := by decide +kernel
theorem dX10_even_18 : decode cX10_even 18 = .ok (.bipush (-4), 2) := by decide +kernel
theorem dX10_even_20 : decode cX10_even 20 = .ok (.ireturn, 1) := by decide +kernel
theorem dX10_even_21 : decode cX10_even 21 = .ok (.iconst 0, 1) := by decide +kernel
theorem dX10_even_22 : decode cX10_even 22 = .ok (.istore_n 2, 1) := by decide +kernel
theorem dX10_even_23 : decode cX10_even 23 = .ok (.iconst 0, 1) := by decide +kernel
theorem dX10_even_24 : decode cX10_even 24 = .ok (.istore_n 3, 1) := by decide +kernel
theorem dX10_even_25 : decode cX10_even 25 = .ok (.iload_n 3, 1) := by decide +kernel
theorem dX10_even_26 : decode cX10_even 26 = .ok (.aload_n 0, 1) := by decide +kernel
theorem dX10_even_27 : decode cX10_even 27 = .ok (.getfield 73, 3) := by decide +kernel
theorem dX10_even_30 : decode cX10_even 30 = .ok (.if_icmp .ge 41, 3) := by decide +kernel
theorem dX10_even_33 : decode cX10_even 33 = .ok (.aload_n 0, 1) := by decide +kernel
theorem dX10_even_34 : decode cX10_even 34 = .ok (.getfield 7, 3) := by decide +kernel
theorem dX10_even_37 : decode cX10_even 37 = .ok (.bipush 22, 2) := by decide +kernel
theorem dX10_even_39 : decode cX10_even 39 = .ok (.bipush 9, 2) := by decide +kernel
theorem dX10_even_41 : decode cX10_even 41 = .ok (.iload_n 1, 1) := by decide +kernel
theorem dX10_even_42 : decode cX10_even 42 = .ok (.imul, 1) := by decide +kernel
theorem dX10_even_43 : decode cX10_even 43 = .ok (.iadd, 1) := by decide +kernel
theorem dX10_even_44 : decode cX10_even 44 = .ok (.iload_n 3, 1) := by decide +kernel
theorem dX10_even_45 : decode cX10_even 45 = .ok (.iadd, 1) := by decide +kernel
theorem dX10_even_46 : decode cX10_even 46 = .ok (.iaload, 1) := by decide +kernel
theorem dX10_even_47 : decode cX10_even 47 = .ok (.istore 4, 2) := by decide +kernel
theorem dX10_even_49 : decode cX10_even 49 = .ok (.iload_n 2, 1) := by decide +kernel
theorem dX10_even_50 : decode cX10_even 50 = .ok (.iload 4, 2) := by decide +kernel
theorem dX10_even_52 : decode cX10_even 52 = .ok (.ifCond .ge 9, 3) := by decide +kernel
theorem dX10_even_55 : decode cX10_even 55 = .ok (.iload 4, 2) := by decide +kernel
theorem dX10_even_57 : decode cX10_even 57 = .ok (.ineg, 1) := by decide +kernel
theorem dX10_even_58 : decode cX10_even 58 = .ok (.goto 5, 3) := by decide +kernel
theorem dX10_even_61 : decode cX10_even 61 = .ok (.iload 4, 2) := by decide +kernel
theorem dX10_even_63 : decode cX10_even 63 = .ok (.iadd, 1) := by decide +kernel
theorem dX10_even_64 : decode cX10_even 64 = .ok (.istore_n 2, 1) := by decide +kernel
theorem dX10_even_65 : decode cX10_even 65 = .ok (.iinc 3 1, 3) := by decide +kernel
theorem dX10_even_68 : decode cX10_even 68 = .ok (.goto (-43), 3) := by decide +kernel
theorem dX10_even_71 : decode cX10_even 71 = .ok (.ldc 211, 2) := by decide +kernel
theorem dX10_even_73 : decode cX10_even 73 = .ok (.istore_n 3, 1) := by decide +kernel
theorem dX10_even_74 : decode cX10_even 74 = .ok (.iconst 0, 1) := by decide +kernel
theorem dX10_even_75 : decode cX10_even 75 = .ok (.istore 4, 2) := by decide +kernel
theorem dX10_even_77 : decode cX10_even 77 = .ok (.iload 4, 2) := by decide +kernel
theorem dX10_even_79 : decode cX10_even 79 = .ok (.iconst 1, 1) := by decide +kernel
theorem dX10_even_80 : decode cX10_even 80 = .ok (.aload_n 0, 1) := by decide +kernel
theorem dX10_even_81 : decode cX10_even 81 = .ok (.getfield 73, 3) := by decide +kernel
theorem dX10_even_84 : decode cX10_even 84 = .ok (.ishl, 1) := by decide +kernel
theorem dX10_even_85 : decode cX10_even 85 = .ok (.if_icmp .ge 38, 3) := by decide +kernel
theorem dX10_even_88 : decode cX10_even 88 = .ok (.iload 4, 2) := by decide +kernel
theorem dX10_even_90 : decode cX10_even 90 = .ok (.invokestatic 212, 3) := by decide +kernel
theorem dX10_even_93 : decode cX10_even 93 = .ok (.iload_n 3, 1) := by decide +kernel
theorem dX10_even_94 : decode cX10_even 94 = .ok (.if_icmp .ge 21, 3) := by decide +kernel
theorem dX10_even_97 : decode cX10_even 97 = .ok (.aload_n 0, 1) := by decide +kernel
theorem dX10_even_98 : decode cX10_even 98 = .ok (.iload_n 1, 1) := by decide +kernel
theorem dX10_even_99 : decode cX10_even 99 = .ok (.iload 4, 2) := by decide +kernel
theorem dX10_even_101 : decode cX10_even 101 = .ok (.invokevirtual 215, 3) := by decide +kernel
theorem dX10_even_104 : decode cX10_even 104 = .ok (.ifCond .eq 11, 3) := by decide +kernel
theorem dX10_even_107 : decode cX10_even 107 = .ok (.iload 4, 2) := by decide +kernel
theorem dX10_even_109 : decode cX10_even 109 = .ok (.invokestatic 212, 3) := by decide +kernel
theorem dX10_even_112 : decode cX10_even 112 = .ok (.goto 4, 3) := by decide +kernel
theorem dX10_even_115 : decode cX10_even 115 = .ok (.iload_n 3, 1) := by decide +kernel
theorem dX10_even_116 : decode cX10_even 116 = .ok (.istore_n 3, 1) := by decide +kernel
theorem dX10_even_117 : decode cX10_even 117 = .ok (.iinc 4 1, 3) := by decide +kernel
theorem dX10_even_120 : decode cX10_even 120 = .ok (.goto (-43), 3) := by decide +kernel
theorem dX10_even_123 : decode cX10_even 123 = .ok (.iload_n 3, 1) := by decide +kernel
theorem dX10_even_124 : decode cX10_even 124 = .ok (.ldc 211, 2) := by decide +kernel
theorem dX10_even_126 : decode cX10_even 126 = .ok (.if_icmp .ne 8, 3) := by decide +kernel
theorem dX10_even_129 : decode cX10_even 129 = .ok (.bipush (-4), 2) := by decide +kernel
theorem dX10_even_131 : decode cX10_even 131 = .ok (.goto 8, 3) := by decide +kernel
theorem dX10_even_134 : decode cX10_even 134 = .ok (.iload_n 2, 1) := by decide +kernel
theorem dX10_even_135 : decode cX10_even 135 = .ok (.iconst 2, 1) := by decide +kernel
theorem dX10_even_136 : decode cX10_even 136 = .ok (.iload_n 3, 1) := by decide +kernel
theorem dX10_even_137 : decode cX10_even 137 = .ok (.imul, 1) := by decide +kernel
theorem dX10_even_138 : decode cX10_even 138 = .ok (.iadd, 1) := by decide +kernel
theorem dX10_even_139 : decode cX10_even 139 = .ok (.ireturn, 1) := by decide +kernel
theorem dX10_meets_0 : decode cX10_meets 0 = .ok (.aload_n 0, 1) := by decide +kernel
theorem dX10_meets_1 : decode cX10_meets 1 = .ok (.iload_n 1, 1) := by decide +kernel
theorem dX10_meets_2 : decode cX10_meets 2 = .ok (.invokevirtual 170, 3) := by decide +kernel
theorem dX10_meets_5 : decode cX10_meets 5 = .ok (.istore_n 3, 1) := by decide +kernel
theorem dX10_meets_6 : decode cX10_meets 6 = .ok (.iconst 0, 1) := by decide +kernel
theorem dX10_meets_7 : decode cX10_meets 7 = .ok (.istore 4, 2) := by decide +kernel
theorem dX10_meets_9 : decode cX10_meets 9 = .ok (.iload 4, 2) := by decide +kernel
theorem dX10_meets_11 : decode cX10_meets 11 = .ok (.aload_n 0, 1) := by decide +kernel
theorem dX10_meets_12 : decode cX10_meets 12 = .ok (.getfield 73, 3) := by decide +kernel
theorem dX10_meets_15 : decode cX10_meets 15 = .ok (.if_icmp .ge 46, 3) := by decide +kernel
theorem dX10_meets_18 : decode cX10_meets 18 = .ok (.iload_n 3, 1) := by decide +kernel
theorem dX10_meets_19 : decode cX10_meets 19 = .ok (.ifCond .ne 30, 3) := by decide +kernel
theorem dX10_meets_22 : decode cX10_meets 22 = .ok (.iload_n 2, 1) := by decide +kernel
theorem dX10_meets_23 : decode cX10_meets 23 = .ok (.iload 4, 2) := by decide +kernel
theorem dX10_meets_25 : decode cX10_meets 25 = .ok (.invokestatic 198, 3) := by decide +kernel
theorem dX10_meets_28 : decode cX10_meets 28 = .ok (.ifCond .eq 25, 3) := by decide +kernel
theorem dX10_meets_31 : decode cX10_meets 31 = .ok (.aload_n 0, 1) := by decide +kernel
theorem dX10_meets_32 : decode cX10_meets 32 = .ok (.getfield 7, 3) := by decide +kernel
theorem dX10_meets_35 : decode cX10_meets 35 = .ok (.bipush 22, 2) := by decide +kernel
theorem dX10_meets_37 : decode cX10_meets 37 = .ok (.bipush 9, 2) := by decide +kernel
theorem dX10_meets_39 : decode cX10_meets 39 = .ok (.iload_n 1, 1) := by decide +kernel
theorem dX10_meets_40 : decode cX10_meets 40 = .ok (.imul, 1) := by decide +kernel
theorem dX10_meets_41 : decode cX10_meets 41 = .ok (.iadd, 1) := by decide +kernel
theorem dX10_meets_42 : decode cX10_meets 42 = .ok (.iload 4, 2) := by decide +kernel
theorem dX10_meets_44 : decode cX10_meets 44 = .ok (.iadd, 1) := by decide +kernel
theorem dX10_meets_45 : decode cX10_meets 45 = .ok (.iaload, 1) := by decide +kernel
theorem dX10_meets_46 : decode cX10_meets 46 = .ok (.ifCond .eq 7, 3) := by decide +kernel
theorem dX10_meets_49 : decode cX10_meets 49 = .ok (.iconst 1, 1) := by decide +kernel
theorem dX10_meets_50 : decode cX10_meets 50 = .ok (.goto 4, 3) := by decide +kernel
theorem dX10_meets_53 : decode cX10_meets 53 = .ok (.iconst 0, 1) := by decide +kernel
theorem dX10_meets_54 : decode cX10_meets 54 = .ok (.istore_n 3, 1) := by decide +kernel
theorem dX10_meets_55 : decode cX10_meets 55 = .ok (.iinc 4 1, 3) := by decide +kernel
theorem dX10_meets_58 : decode cX10_meets 58 = .ok (.goto (-49), 3) := by decide +kernel
theorem dX10_meets_61 : decode cX10_meets 61 = .ok (.iload_n 3, 1) := by decide +kernel
theorem dX10_meets_62 : decode cX10_meets 62 = .ok (.ireturn, 1) := by decide +kernel
theorem dX10_measure_0 : decode cX10_measure 0 = .ok (.iload_n 1, 1) := by decide +kernel
theorem dX10_measure_1 : decode cX10_measure 1 = .ok (.i2l, 1) := by decide +kernel
theorem dX10_measure_2 : decode cX10_measure 2 = .ok (.lconst 0, 1) := by decide +kernel
theorem dX10_measure_3 : decode cX10_measure 3 = .ok (.lconst 1, 1) := by decide +kernel
theorem dX10_measure_4 : decode cX10_measure 4 = .ok (.invokestatic 69, 3) := by decide +kernel
theorem dX10_measure_7 : decode cX10_measure 7 = .ok (.ifCond .ne 5, 3) := by decide +kernel
theorem dX10_measure_10 : decode cX10_measure 10 = .ok (.iconst (-1), 1) := by decide +kernel
theorem dX10_measure_11 : decode cX10_measure 11 = .ok (.ireturn, 1) := by decide +kernel
theorem dX10_measure_12 : decode cX10_measure 12 = .ok (.bipush (-4), 2) := by decide +kernel
theorem dX10_measure_14 : decode cX10_measure 14 = .ok (.istore_n 2, 1) := by decide +kernel
theorem dX10_measure_15 : decode cX10_measure 15 = .ok (.iconst 0, 1) := by decide +kernel
theorem dX10_measure_16 : decode cX10_measure 16 = .ok (.istore_n 3, 1) := by decide +kernel
theorem dX10_measure_17 : decode cX10_measure 17 = .ok (.iload_n 3, 1) := by decide +kernel
theorem dX10_measure_18 : decode cX10_measure 18 = .ok (.iconst 1, 1) := by decide +kernel
theorem dX10_measure_19 : decode cX10_measure 19 = .ok (.aload_n 0, 1) := by decide +kernel
theorem dX10_measure_20 : decode cX10_measure 20 = .ok (.getfield 73, 3) := by decide +kernel
theorem dX10_measure_23 : decode cX10_measure 23 = .ok (.ishl, 1) := by decide +kernel
theorem dX10_measure_24 : decode cX10_measure 24 = .ok (.if_icmp .ge 84, 3) := by decide +kernel
theorem dX10_measure_27 : decode cX10_measure 27 = .ok (.iload_n 2, 1) := by decide +kernel
theorem dX10_measure_28 : decode cX10_measure 28 = .ok (.bipush (-4), 2) := by decide +kernel
theorem dX10_measure_30 : decode cX10_measure 30 = .ok (.if_icmp .eq 14, 3) := by decide +kernel
theorem dX10_measure_33 : decode cX10_measure 33 = .ok (.iload_n 3, 1) := by decide +kernel
theorem dX10_measure_34 : decode cX10_measure 34 = .ok (.invokestatic 212, 3) := by decide +kernel
theorem dX10_measure_37 : decode cX10_measure 37 = .ok (.iload_n 2, 1) := by decide +kernel
theorem dX10_measure_38 : decode cX10_measure 38 = .ok (.invokestatic 212, 3) := by decide +kernel
theorem dX10_measure_41 : decode cX10_measure 41 = .ok (.if_icmp .ge 7, 3) := by decide +kernel
theorem dX10_measure_44 : decode cX10_measure 44 = .ok (.iconst 1, 1) := by decide +kernel
theorem dX10_measure_45 : decode cX10_measure 45 = .ok (.goto 4, 3) := by decide +kernel
theorem dX10_measure_48 : decode cX10_measure 48 = .ok (.iconst 0, 1) := by decide +kernel
theorem dX10_measure_49 : decode cX10_measure 49 = .ok (.istore 4, 2) := by decide +kernel
theorem dX10_measure_51 : decode cX10_measure 51 = .ok (.iconst 0, 1) := by decide +kernel
theorem dX10_measure_52 : decode cX10_measure 52 = .ok (.istore 5, 2) := by decide +kernel
theorem dX10_measure_54 : decode cX10_measure 54 = .ok (.iload 5, 2) := by decide +kernel
theorem dX10_measure_56 : decode cX10_measure 56 = .ok (.aload_n 0, 1) := by decide +kernel
theorem dX10_measure_57 : decode cX10_measure 57 = .ok (.getfield 76, 3) := by decide +kernel
theorem dX10_measure_60 : decode cX10_measure 60 = .ok (.if_icmp .ge 31, 3) := by decide +kernel
theorem dX10_measure_63 : decode cX10_measure 63 = .ok (.iload 4, 2) := by decide +kernel
theorem dX10_measure_65 : decode cX10_measure 65 = .ok (.ifCond .eq 17, 3) := by decide +kernel
theorem dX10_measure_68 : decode cX10_measure 68 = .ok (.aload_n 0, 1) := by decide +kernel
theorem dX10_measure_69 : decode cX10_measure 69 = .ok (.iload 5, 2) := by decide +kernel
theorem dX10_measure_71 : decode cX10_measure 71 = .ok (.iload_n 3, 1) := by decide +kernel
theorem dX10_measure_72 : decode cX10_measure 72 = .ok (.invokevirtual 218, 3) := by decide +kernel
theorem dX10_measure_75 : decode cX10_measure 75 = .ok (.ifCond .eq 7, 3) := by decide +kernel
theorem dX10_measure_78 : decode cX10_measure 78 = .ok (.iconst 1, 1) := by decide +kernel
theorem dX10_measure_79 : decode cX10_measure 79 = .ok (.goto 4, 3) := by decide +kernel
theorem dX10_measure_82 : decode cX10_measure 82 = .ok (.iconst 0, 1) := by decide +kernel
theorem dX10_measure_83 : decode cX10_measure 83 = .ok (.istore 4, 2) := by decide +kernel
theorem dX10_measure_85 : decode cX10_measure 85 = .ok (.iinc 5 1, 3) := by decide +kernel
theorem dX10_measure_88 : decode cX10_measure 88 = .ok (.goto (-34), 3) := by decide +kernel
theorem dX10_measure_91 : decode cX10_measure 91 = .ok (.iload 4, 2) := by decide +kernel
theorem dX10_measure_93 : decode cX10_measure 93 = .ok (.ifCond .eq 7, 3) := by decide +kernel
theorem dX10_measure_96 : decode cX10_measure 96 = .ok (.iload_n 3, 1) := by decide +kernel
theorem dX10_measure_97 : decode cX10_measure 97 = .ok (.goto 4, 3) := by decide +kernel
theorem dX10_measure_100 : decode cX10_measure 100 = .ok (.iload_n 2, 1) := by decide +kernel
theorem dX10_measure_101 : decode cX10_measure 101 = .ok (.istore_n 2, 1) := by decide +kernel
theorem dX10_measure_102 : decode cX10_measure 102 = .ok (.iinc 3 1, 3) := by decide +kernel
theorem dX10_measure_105 : decode cX10_measure 105 = .ok (.goto (-88), 3) := by decide +kernel
theorem dX10_measure_108 : decode cX10_measure 108 = .ok (.iload_n 1, 1) := by decide +kernel
theorem dX10_measure_109 : decode cX10_measure 109 = .ok (.ifCond .ne 7, 3) := by decide +kernel
theorem dX10_measure_112 : decode cX10_measure 112 = .ok (.iload_n 2, 1) := by decide +kernel
theorem dX10_measure_113 : decode cX10_measure 113 = .ok (.goto 7, 3) := by decide +kernel
theorem dX10_measure_116 : decode cX10_measure 116 = .ok (.iload_n 2, 1) := by decide +kernel
theorem dX10_measure_117 : decode cX10_measure 117 = .ok (.invokestatic 212, 3) := by decide +kernel
theorem dX10_measure_120 : decode cX10_measure 120 = .ok (.ireturn, 1) := by decide +kernel
theorem dX10_areJoined_0 : decode cX10_areJoined 0 = .ok (.iconst 0, 1) := by decide +kernel
theorem dX10_areJoined_1 : decode cX10_areJoined 1 = .ok (.istore_n 3, 1) := by decide +kernel
theorem dX10_areJoined_2 : decode cX10_areJoined 2 = .ok (.iconst 0, 1) := by decide +kernel
theorem dX10_areJoined_3 : decode cX10_areJoined 3 = .ok (.istore 4, 2) := by decide +kernel
theorem dX10_areJoined_5 : decode cX10_areJoined 5 = .ok (.iload 4, 2) := by decide +kernel
theorem dX10_areJoined_7 : decode cX10_areJoined 7 = .ok (.aload_n 0, 1) := by decide +kernel
theorem dX10_areJoined_8 : decode cX10_areJoined 8 = .ok (.getfield 73, 3) := by decide +kernel
theorem dX10_areJoined_11 : decode cX10_areJoined 11 = .ok (.if_icmp .ge 63, 3) := by decide +kernel
theorem dX10_areJoined_14 : decode cX10_areJoined 14 = .ok (.iload_n 3, 1) := by decide +kernel
theorem dX10_areJoined_15 : decode cX10_areJoined 15 = .ok (.ifCond .ne 47, 3) := by decide +kernel
theorem dX10_areJoined_18 : decode cX10_areJoined 18 = .ok (.aload_n 0, 1) := by decide +kernel
theorem dX10_areJoined_19 : decode cX10_areJoined 19 = .ok (.getfield 16, 3) := by decide +kernel
theorem dX10_areJoined_22 : decode cX10_areJoined 22 = .ok (.iload 4, 2) := by decide +kernel
theorem dX10_areJoined_24 : decode cX10_areJoined 24 = .ok (.iaload, 1) := by decide +kernel
theorem dX10_areJoined_25 : decode cX10_areJoined 25 = .ok (.iload_n 1, 1) := by decide +kernel
theorem dX10_areJoined_26 : decode cX10_areJoined 26 = .ok (.if_icmp .ne 14, 3) := by decide +kernel
theorem dX10_areJoined_29 : decode cX10_areJoined 29 = .ok (.aload_n 0, 1) := by decide +kernel
theorem dX10_areJoined_30 : decode cX10_areJoined 30 = .ok (.getfield 19, 3) := by decide +kernel
theorem dX10_areJoined_33 : decode cX10_areJoined 33 = .ok (.iload 4, 2) := by decide +kernel
theorem dX10_areJoined_35 : decode cX10_areJoined 35 = .ok (.iaload, 1) := by decide +kernel
theorem dX10_areJoined_36 : decode cX10_areJoined 36 = .ok (.iload_n 2, 1) := by decide +kernel
theorem dX10_areJoined_37 : decode cX10_areJoined 37 = .ok (.if_icmp .eq 25, 3) := by decide +kernel
theorem dX10_areJoined_40 : decode cX10_areJoined 40 = .ok (.aload_n 0, 1) := by decide +kernel
theorem dX10_areJoined_41 : decode cX10_areJoined 41 = .ok (.getfield 16, 3) := by decide +kernel
theorem dX10_areJoined_44 : decode cX10_areJoined 44 = .ok (.iload 4, 2) := by decide +kernel
theorem dX10_areJoined_46 : decode cX10_areJoined 46 = .ok (.iaload, 1) := by decide +kernel
theorem dX10_areJoined_47 : decode cX10_areJoined 47 = .ok (.iload_n 2, 1) := by decide +kernel
theorem dX10_areJoined_48 : decode cX10_areJoined 48 = .ok (.if_icmp .ne 18, 3) := by decide +kernel
theorem dX10_areJoined_51 : decode cX10_areJoined 51 = .ok (.aload_n 0, 1) := by decide +kernel
theorem dX10_areJoined_52 : decode cX10_areJoined 52 = .ok (.getfield 19, 3) := by decide +kernel
theorem dX10_areJoined_55 : decode cX10_areJoined 55 = .ok (.iload 4, 2) := by decide +kernel
theorem dX10_areJoined_57 : decode cX10_areJoined 57 = .ok (.iaload, 1) := by decide +kernel
theorem dX10_areJoined_58 : decode cX10_areJoined 58 = .ok (.iload_n 1, 1) := by decide +kernel
theorem dX10_areJoined_59 : decode cX10_areJoined 59 = .ok (.if_icmp .ne 7, 3) := by decide +kernel
theorem dX10_areJoined_62 : decode cX10_areJoined 62 = .ok (.iconst 1, 1) := by decide +kernel
theorem dX10_areJoined_63 : decode cX10_areJoined 63 = .ok (.goto 4, 3) := by decide +kernel
theorem dX10_areJoined_66 : decode cX10_areJoined 66 = .ok (.iconst 0, 1) := by decide +kernel
theorem dX10_areJoined_67 : decode cX10_areJoined 67 = .ok (.istore_n 3, 1) := by decide +kernel
theorem dX10_areJoined_68 : decode cX10_areJoined 68 = .ok (.iinc 4 1, 3) := by decide +kernel
theorem dX10_areJoined_71 : decode cX10_areJoined 71 = .ok (.goto (-66), 3) := by decide +kernel
theorem dX10_areJoined_74 : decode cX10_areJoined 74 = .ok (.iload_n 3, 1) := by decide +kernel
theorem dX10_areJoined_75 : decode cX10_areJoined 75 = .ok (.ireturn, 1) := by decide +kernel
theorem dX10_fresh_0 : decode cX10_fresh 0 = .ok (.iload_n 1, 1) := by decide +kernel
theorem dX10_fresh_1 : decode cX10_fresh 1 = .ok (.i2l, 1) := by decide +kernel
theorem dX10_fresh_2 : decode cX10_fresh 2 = .ok (.lconst 0, 1) := by decide +kernel
theorem dX10_fresh_3 : decode cX10_fresh 3 = .ok (.lconst 1, 1) := by decide +kernel
theorem dX10_fresh_4 : decode cX10_fresh 4 = .ok (.invokestatic 69, 3) := by decide +kernel
theorem dX10_fresh_7 : decode cX10_fresh 7 = .ok (.ifCond .ne 5, 3) := by decide +kernel
theorem dX10_fresh_10 : decode cX10_fresh 10 = .ok (.iconst (-1), 1) := by decide +kernel
theorem dX10_fresh_11 : decode cX10_fresh 11 = .ok (.ireturn, 1) := by decide +kernel
theorem dX10_fresh_12 : decode cX10_fresh 12 = .ok (.aload_n 0, 1) := by decide +kernel
theorem dX10_fresh_13 : decode cX10_fresh 13 = .ok (.invokevirtual 192, 3) := by decide +kernel
theorem dX10_fresh_16 : decode cX10_fresh 16 = .ok (.aload_n 0, 1) := by decide +kernel
theorem dX10_fresh_17 : decode cX10_fresh 17 = .ok (.invokevirtual 195, 3) := by decide +kernel
theorem dX10_fresh_20 : decode cX10_fresh 20 = .ok (.aload_n 0, 1) := by decide +kernel
theorem dX10_fresh_21 : decode cX10_fresh 21 = .ok (.invokevirtual 221, 3) := by decide +kernel
theorem dX10_fresh_24 : decode cX10_fresh 24 = .ok (.istore_n 2, 1) := by decide +kernel
theorem dX10_fresh_25 : decode cX10_fresh 25 = .ok (.bipush (-4), 2) := by decide +kernel
theorem dX10_fresh_27 : decode cX10_fresh 27 = .ok (.istore_n 3, 1) := by decide +kernel
theorem dX10_fresh_28 : decode cX10_fresh 28 = .ok (.ldc 211, 2) := by decide +kernel
theorem dX10_fresh_30 : decode cX10_fresh 30 = .ok (.istore 4, 2) := by decide +kernel
theorem dX10_fresh_32 : decode cX10_fresh 32 = .ok (.iconst 0, 1) := by decide +kernel
theorem dX10_fresh_33 : decode cX10_fresh 33 = .ok (.istore 5, 2) := by decide +kernel
theorem dX10_fresh_35 : decode cX10_fresh 35 = .ok (.iload 5, 2) := by decide +kernel
theorem dX10_fresh_37 : decode cX10_fresh 37 = .ok (.aload_n 0, 1) := by decide +kernel
theorem dX10_fresh_38 : decode cX10_fresh 38 = .ok (.getfield 66, 3) := by decide +kernel
theorem dX10_fresh_41 : decode cX10_fresh 41 = .ok (.if_icmp .ge 119, 3) := by decide +kernel
theorem dX10_fresh_44 : decode cX10_fresh 44 = .ok (.iload 5, 2) := by decide +kernel
theorem dX10_fresh_46 : decode cX10_fresh 46 = .ok (.iconst 1, 1) := by decide +kernel
theorem dX10_fresh_47 : decode cX10_fresh 47 = .ok (.iadd, 1) := by decide +kernel
theorem dX10_fresh_48 : decode cX10_fresh 48 = .ok (.istore 6, 2) := by decide +kernel
theorem dX10_fresh_50 : decode cX10_fresh 50 = .ok (.iload 6, 2) := by decide +kernel
theorem dX10_fresh_52 : decode cX10_fresh 52 = .ok (.aload_n 0, 1) := by decide +kernel
theorem dX10_fresh_53 : decode cX10_fresh 53 = .ok (.getfield 66, 3) := by decide +kernel
theorem dX10_fresh_56 : decode cX10_fresh 56 = .ok (.if_icmp .ge 98, 3) := by decide +kernel
theorem dX10_fresh_59 : decode cX10_fresh 59 = .ok (.aload_n 0, 1) := by decide +kernel
theorem dX10_fresh_60 : decode cX10_fresh 60 = .ok (.iload 5, 2) := by decide +kernel
theorem dX10_fresh_62 : decode cX10_fresh 62 = .ok (.iload 6, 2) := by decide +kernel
theorem dX10_fresh_64 : decode cX10_fresh 64 = .ok (.invokevirtual 224, 3) := by decide +kernel
theorem dX10_fresh_67 : decode cX10_fresh 67 = .ok (.ifCond .ne 81, 3) := by decide +kernel
theorem dX10_fresh_70 : decode cX10_fresh 70 = .ok (.aload_n 0, 1) := by decide +kernel
theorem dX10_fresh_71 : decode cX10_fresh 71 = .ok (.invokevirtual 192, 3) := by decide +kernel
theorem dX10_fresh_74 : decode cX10_fresh 74 = .ok (.aload_n 0, 1) := by decide +kernel
theorem dX10_fresh_75 : decode cX10_fresh 75 = .ok (.getfield 43, 3) := by decide +kernel
theorem dX10_fresh_78 : decode cX10_fresh 78 = .ok (.bipush 8, 2) := by decide +kernel
theorem dX10_fresh_80 : decode cX10_fresh 80 = .ok (.iload 5, 2) := by decide +kernel
theorem dX10_fresh_82 : decode cX10_fresh 82 = .ok (.imul, 1) := by decide +kernel
theorem dX10_fresh_83 : decode cX10_fresh 83 = .ok (.iload 6, 2) := by decide +kernel
theorem dX10_fresh_85 : decode cX10_fresh 85 = .ok (.iadd, 1) := by decide +kernel
theorem dX10_fresh_86 : decode cX10_fresh 86 = .ok (.iconst 1, 1) := by decide +kernel
theorem dX10_fresh_87 : decode cX10_fresh 87 = .ok (.iastore, 1) := by decide +kernel
theorem dX10_fresh_88 : decode cX10_fresh 88 = .ok (.aload_n 0, 1) := by decide +kernel
theorem dX10_fresh_89 : decode cX10_fresh 89 = .ok (.getfield 43, 3) := by decide +kernel
theorem dX10_fresh_92 : decode cX10_fresh 92 = .ok (.bipush 8, 2) := by decide +kernel
theorem dX10_fresh_94 : decode cX10_fresh 94 = .ok (.iload 6, 2) := by decide +kernel
theorem dX10_fresh_96 : decode cX10_fresh 96 = .ok (.imul, 1) := by decide +kernel
theorem dX10_fresh_97 : decode cX10_fresh 97 = .ok (.iload 5, 2) := by decide +kernel
theorem dX10_fresh_99 : decode cX10_fresh 99 = .ok (.iadd, 1) := by decide +kernel
theorem dX10_fresh_100 : decode cX10_fresh 100 = .ok (.iconst 1, 1) := by decide +kernel
theorem dX10_fresh_101 : decode cX10_fresh 101 = .ok (.iastore, 1) := by decide +kernel
theorem dX10_fresh_102 : decode cX10_fresh 102 = .ok (.aload_n 0, 1) := by decide +kernel
theorem dX10_fresh_103 : decode cX10_fresh 103 = .ok (.invokevirtual 195, 3) := by decide +kernel
theorem dX10_fresh_106 : decode cX10_fresh 106 = .ok (.aload_n 0, 1) := by decide +kernel
theorem dX10_fresh_107 : decode cX10_fresh 107 = .ok (.invokevirtual 221, 3) := by decide +kernel
theorem dX10_fresh_110 : decode cX10_fresh 110 = .ok (.istore 7, 2) := by decide +kernel
theorem dX10_fresh_112 : decode cX10_fresh 112 = .ok (.iload 7, 2) := by decide +kernel
theorem dX10_fresh_114 : decode cX10_fresh 114 = .ok (.iload 4, 2) := by decide +kernel
theorem dX10_fresh_116 : decode cX10_fresh 116 = .ok (.if_icmp .ge 14, 3) := by decide +kernel
theorem dX10_fresh_119 : decode cX10_fresh 119 = .ok (.bipush 10, 2) := by decide +kernel
theorem dX10_fresh_121 : decode cX10_fresh 121 = .ok (.iload 5, 2) := by decide +kernel
theorem dX10_fresh_123 : decode cX10_fresh 123 = .ok (.imul, 1) := by decide +kernel
theorem dX10_fresh_124 : decode cX10_fresh 124 = .ok (.iload 6, 2) := by decide +kernel
theorem dX10_fresh_126 : decode cX10_fresh 126 = .ok (.iadd, 1) := by decide +kernel
theorem dX10_fresh_127 : decode cX10_fresh 127 = .ok (.goto 4, 3) := by decide +kernel
theorem dX10_fresh_130 : decode cX10_fresh 130 = .ok (.iload_n 3, 1) := by decide +kernel
theorem dX10_fresh_131 : decode cX10_fresh 131 = .ok (.istore_n 3, 1) := by decide +kernel
theorem dX10_fresh_132 : decode cX10_fresh 132 = .ok (.iload 7, 2) := by decide +kernel
theorem dX10_fresh_134 : decode cX10_fresh 134 = .ok (.iload 4, 2) := by decide +kernel
theorem dX10_fresh_136 : decode cX10_fresh 136 = .ok (.if_icmp .ge 8, 3) := by decide +kernel
theorem dX10_fresh_139 : decode cX10_fresh 139 = .ok (.iload 7, 2) := by decide +kernel
theorem dX10_fresh_141 : decode cX10_fresh 141 = .ok (.goto 5, 3) := by decide +kernel
theorem dX10_fresh_144 : decode cX10_fresh 144 = .ok (.iload 4, 2) := by decide +kernel
theorem dX10_fresh_146 : decode cX10_fresh 146 = .ok (.istore 4, 2) := by decide +kernel
theorem dX10_fresh_148 : decode cX10_fresh 148 = .ok (.iinc 6 1, 3) := by decide +kernel
theorem dX10_fresh_151 : decode cX10_fresh 151 = .ok (.goto (-101), 3) := by decide +kernel
theorem dX10_fresh_154 : decode cX10_fresh 154 = .ok (.iinc 5 1, 3) := by decide +kernel
theorem dX10_fresh_157 : decode cX10_fresh 157 = .ok (.goto (-122), 3) := by decide +kernel
theorem dX10_fresh_160 : decode cX10_fresh 160 = .ok (.iload_n 3, 1) := by decide +kernel
theorem dX10_fresh_161 : decode cX10_fresh 161 = .ok (.bipush (-4), 2) := by decide +kernel
theorem dX10_fresh_163 : decode cX10_fresh 163 = .ok (.if_icmp .eq 7, 3) := by decide +kernel
theorem dX10_fresh_166 : decode cX10_fresh 166 = .ok (.iload_n 1, 1) := by decide +kernel
theorem dX10_fresh_167 : decode cX10_fresh 167 = .ok (.ifCond .ne 7, 3) := by decide +kernel
theorem dX10_fresh_170 : decode cX10_fresh 170 = .ok (.iload_n 3, 1) := by decide +kernel
theorem dX10_fresh_171 : decode cX10_fresh 171 = .ok (.goto 7, 3) := by decide +kernel
theorem dX10_fresh_174 : decode cX10_fresh 174 = .ok (.iload_n 2, 1) := by decide +kernel
theorem dX10_fresh_175 : decode cX10_fresh 175 = .ok (.iload 4, 2) := by decide +kernel
theorem dX10_fresh_177 : decode cX10_fresh 177 = .ok (.isub, 1) := by decide +kernel
theorem dX10_fresh_178 : decode cX10_fresh 178 = .ok (.ireturn, 1) := by decide +kernel
theorem dX10_lasts_0 : decode cX10_lasts 0 = .ok (.aload_n 0, 1) := by decide +kernel
theorem dX10_lasts_1 : decode cX10_lasts 1 = .ok (.iload_n 1, 1) := by decide +kernel
theorem dX10_lasts_2 : decode cX10_lasts 2 = .ok (.invokevirtual 159, 3) := by decide +kernel
theorem dX10_lasts_5 : decode cX10_lasts 5 = .ok (.ifCond .eq 11, 3) := by decide +kernel
theorem dX10_lasts_8 : decode cX10_lasts 8 = .ok (.aload_n 0, 1) := by decide +kernel
theorem dX10_lasts_9 : decode cX10_lasts 9 = .ok (.iload_n 2, 1) := by decide +kernel
theorem dX10_lasts_10 : decode cX10_lasts 10 = .ok (.invokevirtual 167, 3) := by decide +kernel
theorem dX10_lasts_13 : decode cX10_lasts 13 = .ok (.ifCond .ne 5, 3) := by decide +kernel
theorem dX10_lasts_16 : decode cX10_lasts 16 = .ok (.iconst (-1), 1) := by decide +kernel
theorem dX10_lasts_17 : decode cX10_lasts 17 = .ok (.ireturn, 1) := by decide +kernel
theorem dX10_lasts_18 : decode cX10_lasts 18 = .ok (.aload_n 0, 1) := by decide +kernel
theorem dX10_lasts_19 : decode cX10_lasts 19 = .ok (.iload_n 2, 1) := by decide +kernel
theorem dX10_lasts_20 : decode cX10_lasts 20 = .ok (.iload_n 1, 1) := by decide +kernel
theorem dX10_lasts_21 : decode cX10_lasts 21 = .ok (.invokevirtual 150, 3) := by decide +kernel
theorem dX10_lasts_24 : decode cX10_lasts 24 = .ok (.istore_n 3, 1) := by decide +kernel
theorem dX10_lasts_25 : decode cX10_lasts 25 = .ok (.aload_n 0, 1) := by decide +kernel
theorem dX10_lasts_26 : decode cX10_lasts 26 = .ok (.getfield 85, 3) := by decide +kernel
theorem dX10_lasts_29 : decode cX10_lasts 29 = .ok (.aload_n 0, 1) := by decide +kernel
theorem dX10_lasts_30 : decode cX10_lasts 30 = .ok (.getfield 7, 3) := by decide +kernel
theorem dX10_lasts_33 : decode cX10_lasts 33 = .ok (.iconst 1, 1) := by decide +kernel
theorem dX10_lasts_34 : decode cX10_lasts 34 = .ok (.iload_n 1, 1) := by decide +kernel
theorem dX10_lasts_35 : decode cX10_lasts 35 = .ok (.iadd, 1) := by decide +kernel
theorem dX10_lasts_36 : decode cX10_lasts 36 = .ok (.iaload, 1) := by decide +kernel
theorem dX10_lasts_37 : decode cX10_lasts 37 = .ok (.isub, 1) := by decide +kernel
theorem dX10_lasts_38 : decode cX10_lasts 38 = .ok (.istore 4, 2) := by decide +kernel
theorem dX10_lasts_40 : decode cX10_lasts 40 = .ok (.iload 4, 2) := by decide +kernel
theorem dX10_lasts_42 : decode cX10_lasts 42 = .ok (.ifCond .gt 7, 3) := by decide +kernel
theorem dX10_lasts_45 : decode cX10_lasts 45 = .ok (.iconst 0, 1) := by decide +kernel
theorem dX10_lasts_46 : decode cX10_lasts 46 = .ok (.goto 20, 3) := by decide +kernel
theorem dX10_lasts_49 : decode cX10_lasts 49 = .ok (.iload_n 3, 1) := by decide +kernel
theorem dX10_lasts_50 : decode cX10_lasts 50 = .ok (.ifCond .ne 8, 3) := by decide +kernel
theorem dX10_lasts_53 : decode cX10_lasts 53 = .ok (.bipush (-4), 2) := by decide +kernel
theorem dX10_lasts_55 : decode cX10_lasts 55 = .ok (.goto 11, 3) := by decide +kernel
theorem dX10_lasts_58 : decode cX10_lasts 58 = .ok (.iload 4, 2) := by decide +kernel
theorem dX10_lasts_60 : decode cX10_lasts 60 = .ok (.iload_n 3, 1) := by decide +kernel
theorem dX10_lasts_61 : decode cX10_lasts 61 = .ok (.iadd, 1) := by decide +kernel
theorem dX10_lasts_62 : decode cX10_lasts 62 = .ok (.iconst 1, 1) := by decide +kernel
theorem dX10_lasts_63 : decode cX10_lasts 63 = .ok (.isub, 1) := by decide +kernel
theorem dX10_lasts_64 : decode cX10_lasts 64 = .ok (.iload_n 3, 1) := by decide +kernel
theorem dX10_lasts_65 : decode cX10_lasts 65 = .ok (.idiv, 1) := by decide +kernel
theorem dX10_lasts_66 : decode cX10_lasts 66 = .ok (.ireturn, 1) := by decide +kernel
theorem dX10_richest_0 : decode cX10_richest 0 = .ok (.iconst 0, 1) := by decide +kernel
theorem dX10_richest_1 : decode cX10_richest 1 = .ok (.istore_n 1, 1) := by decide +kernel
theorem dX10_richest_2 : decode cX10_richest 2 = .ok (.iconst 1, 1) := by decide +kernel
theorem dX10_richest_3 : decode cX10_richest 3 = .ok (.istore_n 2, 1) := by decide +kernel
theorem dX10_richest_4 : decode cX10_richest 4 = .ok (.iload_n 2, 1) := by decide +kernel
theorem dX10_richest_5 : decode cX10_richest 5 = .ok (.aload_n 0, 1) := by decide +kernel
theorem dX10_richest_6 : decode cX10_richest 6 = .ok (.getfield 76, 3) := by decide +kernel
theorem dX10_richest_9 : decode cX10_richest 9 = .ok (.if_icmp .ge 36, 3) := by decide +kernel
theorem dX10_richest_12 : decode cX10_richest 12 = .ok (.aload_n 0, 1) := by decide +kernel
theorem dX10_richest_13 : decode cX10_richest 13 = .ok (.getfield 7, 3) := by decide +kernel
theorem dX10_richest_16 : decode cX10_richest 16 = .ok (.bipush 14, 2) := by decide +kernel
theorem dX10_richest_18 : decode cX10_richest 18 = .ok (.iload_n 2, 1) := by decide +kernel
theorem dX10_richest_19 : decode cX10_richest 19 = .ok (.iadd, 1) := by decide +kernel
theorem dX10_richest_20 : decode cX10_richest 20 = .ok (.iaload, 1) := by decide +kernel
theorem dX10_richest_21 : decode cX10_richest 21 = .ok (.aload_n 0, 1) := by decide +kernel
theorem dX10_richest_22 : decode cX10_richest 22 = .ok (.getfield 7, 3) := by decide +kernel
theorem dX10_richest_25 : decode cX10_richest 25 = .ok (.bipush 14, 2) := by decide +kernel
theorem dX10_richest_27 : decode cX10_richest 27 = .ok (.iload_n 1, 1) := by decide +kernel
theorem dX10_richest_28 : decode cX10_richest 28 = .ok (.iadd, 1) := by decide +kernel
theorem dX10_richest_29 : decode cX10_richest 29 = .ok (.iaload, 1) := by decide +kernel
theorem dX10_richest_30 : decode cX10_richest 30 = .ok (.if_icmp .le 7, 3) := by decide +kernel
theorem dX10_richest_33 : decode cX10_richest 33 = .ok (.iload_n 2, 1) := by decide +kernel
theorem dX10_richest_34 : decode cX10_richest 34 = .ok (.goto 4, 3) := by decide +kernel
theorem dX10_richest_37 : decode cX10_richest 37 = .ok (.iload_n 1, 1) := by decide +kernel
theorem dX10_richest_38 : decode cX10_richest 38 = .ok (.istore_n 1, 1) := by decide +kernel
theorem dX10_richest_39 : decode cX10_richest 39 = .ok (.iinc 2 1, 3) := by decide +kernel
theorem dX10_richest_42 : decode cX10_richest 42 = .ok (.goto (-38), 3) := by decide +kernel
theorem dX10_richest_45 : decode cX10_richest 45 = .ok (.iload_n 1, 1) := by decide +kernel
theorem dX10_richest_46 : decode cX10_richest 46 = .ok (.ireturn, 1) := by decide +kernel
theorem dX10_see_0 : decode cX10_see 0 = .ok (.aload_n 0, 1) := by decide +kernel
theorem dX10_see_1 : decode cX10_see 1 = .ok (.iload_n 1, 1) := by decide +kernel
theorem dX10_see_2 : decode cX10_see 2 = .ok (.invokevirtual 159, 3) := by decide +kernel
theorem dX10_see_5 : decode cX10_see 5 = .ok (.ifCond .eq 15, 3) := by decide +kernel
theorem dX10_see_8 : decode cX10_see 8 = .ok (.iload_n 2, 1) := by decide +kernel
theorem dX10_see_9 : decode cX10_see 9 = .ok (.i2l, 1) := by decide +kernel
theorem dX10_see_10 : decode cX10_see 10 = .ok (.lconst 0, 1) := by decide +kernel
theorem dX10_see_11 : decode cX10_see 11 = .ok (.ldc2_w 227, 3) := by decide +kernel
theorem dX10_see_14 : decode cX10_see 14 = .ok (.invokestatic 69, 3) := by decide +kernel
theorem dX10_see_17 : decode cX10_see 17 = .ok (.ifCond .ne 5, 3) := by decide +kernel
theorem dX10_see_20 : decode cX10_see 20 = .ok (.iconst (-1), 1) := by decide +kernel
theorem dX10_see_21 : decode cX10_see 21 = .ok (.ireturn, 1) := by decide +kernel
theorem dX10_see_22 : decode cX10_see 22 = .ok (.aload_n 0, 1) := by decide +kernel
theorem dX10_see_23 : decode cX10_see 23 = .ok (.getfield 94, 3) := by decide +kernel
theorem dX10_see_26 : decode cX10_see 26 = .ok (.bipush 6, 2) := by decide +kernel
theorem dX10_see_28 : decode cX10_see 28 = .ok (.if_icmp .ne 6, 3) := by decide +kernel
theorem dX10_see_31 : decode cX10_see 31 = .ok (.bipush (-3), 2) := by decide +kernel
theorem dX10_see_33 : decode cX10_see 33 = .ok (.ireturn, 1) := by decide +kernel
theorem dX10_see_34 : decode cX10_see 34 = .ok (.aload_n 0, 1) := by decide +kernel
theorem dX10_see_35 : decode cX10_see 35 = .ok (.getfield 28, 3) := by decide +kernel
theorem dX10_see_38 : decode cX10_see 38 = .ok (.aload_n 0, 1) := by decide +kernel
theorem dX10_see_39 : decode cX10_see 39 = .ok (.getfield 94, 3) := by decide +kernel
theorem dX10_see_42 : decode cX10_see 42 = .ok (.iload_n 1, 1) := by decide +kernel
theorem dX10_see_43 : decode cX10_see 43 = .ok (.iastore, 1) := by decide +kernel
theorem dX10_see_44 : decode cX10_see 44 = .ok (.aload_n 0, 1) := by decide +kernel
theorem dX10_see_45 : decode cX10_see 45 = .ok (.getfield 31, 3) := by decide +kernel
theorem dX10_see_48 : decode cX10_see 48 = .ok (.aload_n 0, 1) := by decide +kernel
theorem dX10_see_49 : decode cX10_see 49 = .ok (.getfield 94, 3) := by decide +kernel
theorem dX10_see_52 : decode cX10_see 52 = .ok (.iload_n 2, 1) := by decide +kernel
theorem dX10_see_53 : decode cX10_see 53 = .ok (.iastore, 1) := by decide +kernel
theorem dX10_see_54 : decode cX10_see 54 = .ok (.aload_n 0, 1) := by decide +kernel
theorem dX10_see_55 : decode cX10_see 55 = .ok (.dup, 1) := by decide +kernel
theorem dX10_see_56 : decode cX10_see 56 = .ok (.getfield 94, 3) := by decide +kernel
theorem dX10_see_59 : decode cX10_see 59 = .ok (.iconst 1, 1) := by decide +kernel
theorem dX10_see_60 : decode cX10_see 60 = .ok (.iadd, 1) := by decide +kernel
theorem dX10_see_61 : decode cX10_see 61 = .ok (.putfield 94, 3) := by decide +kernel
theorem dX10_see_64 : decode cX10_see 64 = .ok (.aload_n 0, 1) := by decide +kernel
theorem dX10_see_65 : decode cX10_see 65 = .ok (.getfield 94, 3) := by decide +kernel
theorem dX10_see_68 : decode cX10_see 68 = .ok (.ireturn, 1) := by decide +kernel
theorem dX10_forget_0 : decode cX10_forget 0 = .ok (.aload_n 0, 1) := by decide +kernel
theorem dX10_forget_1 : decode cX10_forget 1 = .ok (.getfield 94, 3) := by decide +kernel
theorem dX10_forget_4 : decode cX10_forget 4 = .ok (.istore_n 1, 1) := by decide +kernel
theorem dX10_forget_5 : decode cX10_forget 5 = .ok (.aload_n 0, 1) := by decide +kernel
theorem dX10_forget_6 : decode cX10_forget 6 = .ok (.iconst 0, 1) := by decide +kernel
theorem dX10_forget_7 : decode cX10_forget 7 = .ok (.putfield 94, 3) := by decide +kernel
theorem dX10_forget_10 : decode cX10_forget 10 = .ok (.iload_n 1, 1) := by decide +kernel
theorem dX10_forget_11 : decode cX10_forget 11 = .ok (.ireturn, 1) := by decide +kernel
theorem dX10_oftenBy_0 : decode cX10_oftenBy 0 = .ok (.aload_n 0, 1) := by decide +kernel
theorem dX10_oftenBy_1 : decode cX10_oftenBy 1 = .ok (.iload_n 1, 1) := by decide +kernel
theorem dX10_oftenBy_2 : decode cX10_oftenBy 2 = .ok (.iload_n 2, 1) := by decide +kernel
theorem dX10_oftenBy_3 : decode cX10_oftenBy 3 = .ok (.invokevirtual 150, 3) := by decide +kernel
theorem dX10_oftenBy_6 : decode cX10_oftenBy 6 = .ok (.istore 4, 2) := by decide +kernel
theorem dX10_oftenBy_8 : decode cX10_oftenBy 8 = .ok (.iload_n 3, 1) := by decide +kernel
theorem dX10_oftenBy_9 : decode cX10_oftenBy 9 = .ok (.ifCond .ne 5, 3) := by decide +kernel
theorem dX10_oftenBy_12 : decode cX10_oftenBy 12 = .ok (.iconst 0, 1) := by decide +kernel
theorem dX10_oftenBy_13 : decode cX10_oftenBy 13 = .ok (.ireturn, 1) := by decide +kernel
theorem dX10_oftenBy_14 : decode cX10_oftenBy 14 = .ok (.iload 4, 2) := by decide +kernel
theorem dX10_oftenBy_16 : decode cX10_oftenBy 16 = .ok (.ifCond .eq 10, 3) := by decide +kernel
theorem dX10_oftenBy_19 : decode cX10_oftenBy 19 = .ok (.iload_n 3, 1) := by decide +kernel
theorem dX10_oftenBy_20 : decode cX10_oftenBy 20 = .ok (.iload 4, 2) := by decide +kernel
theorem dX10_oftenBy_22 : decode cX10_oftenBy 22 = .ok (.irem, 1) := by decide +kernel
theorem dX10_oftenBy_23 : decode cX10_oftenBy 23 = .ok (.ifCond .eq 8, 3) := by decide +kernel
theorem dX10_oftenBy_26 : decode cX10_oftenBy 26 = .ok (.bipush (-4), 2) := by decide +kernel
theorem dX10_oftenBy_28 : decode cX10_oftenBy 28 = .ok (.goto 7, 3) := by decide +kernel
theorem dX10_oftenBy_31 : decode cX10_oftenBy 31 = .ok (.iload_n 3, 1) := by decide +kernel
theorem dX10_oftenBy_32 : decode cX10_oftenBy 32 = .ok (.iload 4, 2) := by decide +kernel
theorem dX10_oftenBy_34 : decode cX10_oftenBy 34 = .ok (.idiv, 1) := by decide +kernel
theorem dX10_oftenBy_35 : decode cX10_oftenBy 35 = .ok (.ireturn, 1) := by decide +kernel
theorem dX10_whose_0 : decode cX10_whose 0 = .ok (.aload_n 0, 1) := by decide +kernel
theorem dX10_whose_1 : decode cX10_whose 1 = .ok (.iload_n 1, 1) := by decide +kernel
theorem dX10_whose_2 : decode cX10_whose 2 = .ok (.invokevirtual 159, 3) := by decide +kernel
theorem dX10_whose_5 : decode cX10_whose 5 = .ok (.ifCond .ne 5, 3) := by decide +kernel
theorem dX10_whose_8 : decode cX10_whose 8 = .ok (.iconst (-1), 1) := by decide +kernel
theorem dX10_whose_9 : decode cX10_whose 9 = .ok (.ireturn, 1) := by decide +kernel
theorem dX10_whose_10 : decode cX10_whose 10 = .ok (.iconst 0, 1) := by decide +kernel
theorem dX10_whose_11 : decode cX10_whose 11 = .ok (.istore_n 2, 1) := by decide +kernel
theorem dX10_whose_12 : decode cX10_whose 12 = .ok (.iconst 0, 1) := by decide +kernel
theorem dX10_whose_13 : decode cX10_whose 13 = .ok (.istore_n 3, 1) := by decide +kernel
theorem dX10_whose_14 : decode cX10_whose 14 = .ok (.iload_n 3, 1) := by decide +kernel
theorem dX10_whose_15 : decode cX10_whose 15 = .ok (.aload_n 0, 1) := by decide +kernel
theorem dX10_whose_16 : decode cX10_whose 16 = .ok (.getfield 76, 3) := by decide +kernel
theorem dX10_whose_19 : decode cX10_whose 19 = .ok (.if_icmp .ge 86, 3) := by decide +kernel
theorem dX10_whose_22 : decode cX10_whose 22 = .ok (.iconst 1, 1) := by decide +kernel
theorem dX10_whose_23 : decode cX10_whose 23 = .ok (.istore 4, 2) := by decide +kernel
theorem dX10_whose_25 : decode cX10_whose 25 = .ok (.iconst 0, 1) := by decide +kernel
theorem dX10_whose_26 : decode cX10_whose 26 = .ok (.istore 5, 2) := by decide +kernel
theorem dX10_whose_28 : decode cX10_whose 28 = .ok (.iload 5, 2) := by decide +kernel
theorem dX10_whose_30 : decode cX10_whose 30 = .ok (.aload_n 0, 1) := by decide +kernel
theorem dX10_whose_31 : decode cX10_whose 31 = .ok (.getfield 94, 3) := by decide +kernel
theorem dX10_whose_34 : decode cX10_whose 34 = .ok (.if_icmp .ge 50, 3) := by decide +kernel
theorem dX10_whose_37 : decode cX10_whose 37 = .ok (.iload 4, 2) := by decide +kernel
theorem dX10_whose_39 : decode cX10_whose 39 = .ok (.ifCond .eq 36, 3) := by decide +kernel
theorem dX10_whose_42 : decode cX10_whose 42 = .ok (.aload_n 0, 1) := by decide +kernel
theorem dX10_whose_43 : decode cX10_whose 43 = .ok (.getfield 28, 3) := by decide +kernel
theorem dX10_whose_46 : decode cX10_whose 46 = .ok (.iload 5, 2) := by decide +kernel
theorem dX10_whose_48 : decode cX10_whose 48 = .ok (.iaload, 1) := by decide +kernel
theorem dX10_whose_49 : decode cX10_whose 49 = .ok (.iload_n 1, 1) := by decide +kernel
theorem dX10_whose_50 : decode cX10_whose 50 = .ok (.if_icmp .ne 21, 3) := by decide +kernel
theorem dX10_whose_53 : decode cX10_whose 53 = .ok (.aload_n 0, 1) := by decide +kernel
theorem dX10_whose_54 : decode cX10_whose 54 = .ok (.iload_n 3, 1) := by decide +kernel
theorem dX10_whose_55 : decode cX10_whose 55 = .ok (.iload_n 1, 1) := by decide +kernel
theorem dX10_whose_56 : decode cX10_whose 56 = .ok (.aload_n 0, 1) := by decide +kernel
theorem dX10_whose_57 : decode cX10_whose 57 = .ok (.getfield 31, 3) := by decide +kernel
theorem dX10_whose_60 : decode cX10_whose 60 = .ok (.iload 5, 2) := by decide +kernel
theorem dX10_whose_62 : decode cX10_whose 62 = .ok (.iaload, 1) := by decide +kernel
theorem dX10_whose_63 : decode cX10_whose 63 = .ok (.invokevirtual 229, 3) := by decide +kernel
theorem dX10_whose_66 : decode cX10_whose 66 = .ok (.bipush (-4), 2) := by decide +kernel
theorem dX10_whose_68 : decode cX10_whose 68 = .ok (.if_icmp .eq 7, 3) := by decide +kernel
theorem dX10_whose_71 : decode cX10_whose 71 = .ok (.iconst 1, 1) := by decide +kernel
theorem dX10_whose_72 : decode cX10_whose 72 = .ok (.goto 4, 3) := by decide +kernel
theorem dX10_whose_75 : decode cX10_whose 75 = .ok (.iconst 0, 1) := by decide +kernel
theorem dX10_whose_76 : decode cX10_whose 76 = .ok (.istore 4, 2) := by decide +kernel
theorem dX10_whose_78 : decode cX10_whose 78 = .ok (.iinc 5 1, 3) := by decide +kernel
theorem dX10_whose_81 : decode cX10_whose 81 = .ok (.goto (-53), 3) := by decide +kernel
theorem dX10_whose_84 : decode cX10_whose 84 = .ok (.iload_n 2, 1) := by decide +kernel
theorem dX10_whose_85 : decode cX10_whose 85 = .ok (.iload 4, 2) := by decide +kernel
theorem dX10_whose_87 : decode cX10_whose 87 = .ok (.ifCond .eq 9, 3) := by decide +kernel
theorem dX10_whose_90 : decode cX10_whose 90 = .ok (.iconst 1, 1) := by decide +kernel
theorem dX10_whose_91 : decode cX10_whose 91 = .ok (.iload_n 3, 1) := by decide +kernel
theorem dX10_whose_92 : decode cX10_whose 92 = .ok (.ishl, 1) := by decide +kernel
theorem dX10_whose_93 : decode cX10_whose 93 = .ok (.goto 4, 3) := by decide +kernel
theorem dX10_whose_96 : decode cX10_whose 96 = .ok (.iconst 0, 1) := by decide +kernel
theorem dX10_whose_97 : decode cX10_whose 97 = .ok (.ior, 1) := by decide +kernel
theorem dX10_whose_98 : decode cX10_whose 98 = .ok (.istore_n 2, 1) := by decide +kernel
theorem dX10_whose_99 : decode cX10_whose 99 = .ok (.iinc 3 1, 3) := by decide +kernel
theorem dX10_whose_102 : decode cX10_whose 102 = .ok (.goto (-88), 3) := by decide +kernel
theorem dX10_whose_105 : decode cX10_whose 105 = .ok (.iload_n 2, 1) := by decide +kernel
theorem dX10_whose_106 : decode cX10_whose 106 = .ok (.ireturn, 1) := by decide +kernel
theorem dX10_often_0 : decode cX10_often 0 = .ok (.aload_n 0, 1) := by decide +kernel
theorem dX10_often_1 : decode cX10_often 1 = .ok (.iload_n 1, 1) := by decide +kernel
theorem dX10_often_2 : decode cX10_often 2 = .ok (.invokevirtual 167, 3) := by decide +kernel
theorem dX10_often_5 : decode cX10_often 5 = .ok (.ifCond .eq 33, 3) := by decide +kernel
theorem dX10_often_8 : decode cX10_often 8 = .ok (.aload_n 0, 1) := by decide +kernel
theorem dX10_often_9 : decode cX10_often 9 = .ok (.iload_n 2, 1) := by decide +kernel
theorem dX10_often_10 : decode cX10_often 10 = .ok (.invokevirtual 159, 3) := by decide +kernel
theorem dX10_often_13 : decode cX10_often 13 = .ok (.ifCond .eq 25, 3) := by decide +kernel
theorem dX10_often_16 : decode cX10_often 16 = .ok (.iload_n 3, 1) := by decide +kernel
theorem dX10_often_17 : decode cX10_often 17 = .ok (.i2l, 1) := by decide +kernel
theorem dX10_often_18 : decode cX10_often 18 = .ok (.lconst 0, 1) := by decide +kernel
theorem dX10_often_19 : decode cX10_often 19 = .ok (.ldc2_w 227, 3) := by decide +kernel
theorem dX10_often_22 : decode cX10_often 22 = .ok (.invokestatic 69, 3) := by decide +kernel
theorem dX10_often_25 : decode cX10_often 25 = .ok (.ifCond .eq 13, 3) := by decide +kernel
theorem dX10_often_28 : decode cX10_often 28 = .ok (.aload_n 0, 1) := by decide +kernel
theorem dX10_often_29 : decode cX10_often 29 = .ok (.iload_n 1, 1) := by decide +kernel
theorem dX10_often_30 : decode cX10_often 30 = .ok (.iload_n 2, 1) := by decide +kernel
theorem dX10_often_31 : decode cX10_often 31 = .ok (.iload_n 3, 1) := by decide +kernel
theorem dX10_often_32 : decode cX10_often 32 = .ok (.invokevirtual 229, 3) := by decide +kernel
theorem dX10_often_35 : decode cX10_often 35 = .ok (.goto 4, 3) := by decide +kernel
theorem dX10_often_38 : decode cX10_often 38 = .ok (.iconst (-1), 1) := by decide +kernel
theorem dX10_often_39 : decode cX10_often 39 = .ok (.ireturn, 1) := by decide +kernel
theorem dX10_nthAt_0 : decode cX10_nthAt 0 = .ok (.iconst 0, 1) := by decide +kernel
theorem dX10_nthAt_1 : decode cX10_nthAt 1 = .ok (.istore 4, 2) := by decide +kernel
theorem dX10_nthAt_3 : decode cX10_nthAt 3 = .ok (.iconst 0, 1) := by decide +kernel
theorem dX10_nthAt_4 : decode cX10_nthAt 4 = .ok (.istore 5, 2) := by decide +kernel
theorem dX10_nthAt_6 : decode cX10_nthAt 6 = .ok (.iload 5, 2) := by decide +kernel
theorem dX10_nthAt_8 : decode cX10_nthAt 8 = .ok (.aload_n 0, 1) := by decide +kernel
theorem dX10_nthAt_9 : decode cX10_nthAt 9 = .ok (.getfield 73, 3) := by decide +kernel
theorem dX10_nthAt_12 : decode cX10_nthAt 12 = .ok (.if_icmp .ge 41, 3) := by decide +kernel
theorem dX10_nthAt_15 : decode cX10_nthAt 15 = .ok (.aload_n 0, 1) := by decide +kernel
theorem dX10_nthAt_16 : decode cX10_nthAt 16 = .ok (.iload 5, 2) := by decide +kernel
theorem dX10_nthAt_18 : decode cX10_nthAt 18 = .ok (.iload_n 2, 1) := by decide +kernel
theorem dX10_nthAt_19 : decode cX10_nthAt 19 = .ok (.invokevirtual 177, 3) := by decide +kernel
theorem dX10_nthAt_22 : decode cX10_nthAt 22 = .ok (.ifCond .eq 25, 3) := by decide +kernel
theorem dX10_nthAt_25 : decode cX10_nthAt 25 = .ok (.aload_n 0, 1) := by decide +kernel
theorem dX10_nthAt_26 : decode cX10_nthAt 26 = .ok (.iload_n 1, 1) := by decide +kernel
theorem dX10_nthAt_27 : decode cX10_nthAt 27 = .ok (.iload 5, 2) := by decide +kernel
theorem dX10_nthAt_29 : decode cX10_nthAt 29 = .ok (.invokevirtual 163, 3) := by decide +kernel
theorem dX10_nthAt_32 : decode cX10_nthAt 32 = .ok (.ifCond .ne 15, 3) := by decide +kernel
theorem dX10_nthAt_35 : decode cX10_nthAt 35 = .ok (.iload 4, 2) := by decide +kernel
theorem dX10_nthAt_37 : decode cX10_nthAt 37 = .ok (.iload_n 3, 1) := by decide +kernel
theorem dX10_nthAt_38 : decode cX10_nthAt 38 = .ok (.if_icmp .ne 6, 3) := by decide +kernel
theorem dX10_nthAt_41 : decode cX10_nthAt 41 = .ok (.iload 5, 2) := by decide +kernel
theorem dX10_nthAt_43 : decode cX10_nthAt 43 = .ok (.ireturn, 1) := by decide +kernel
theorem dX10_nthAt_44 : decode cX10_nthAt 44 = .ok (.iinc 4 1, 3) := by decide +kernel
theorem dX10_nthAt_47 : decode cX10_nthAt 47 = .ok (.iinc 5 1, 3) := by decide +kernel
theorem dX10_nthAt_50 : decode cX10_nthAt 50 = .ok (.goto (-44), 3) := by decide +kernel
theorem dX10_nthAt_53 : decode cX10_nthAt 53 = .ok (.bipush (-4), 2) := by decide +kernel
theorem dX10_nthAt_55 : decode cX10_nthAt 55 = .ok (.ireturn, 1) := by decide +kernel
theorem dX10_manyAt_0 : decode cX10_manyAt 0 = .ok (.iconst 0, 1) := by decide +kernel
theorem dX10_manyAt_1 : decode cX10_manyAt 1 = .ok (.istore_n 3, 1) := by decide +kernel
theorem dX10_manyAt_2 : decode cX10_manyAt 2 = .ok (.iconst 0, 1) := by decide +kernel
theorem dX10_manyAt_3 : decode cX10_manyAt 3 = .ok (.istore 4, 2) := by decide +kernel
theorem dX10_manyAt_5 : decode cX10_manyAt 5 = .ok (.iload 4, 2) := by decide +kernel
theorem dX10_manyAt_7 : decode cX10_manyAt 7 = .ok (.aload_n 0, 1) := by decide +kernel
theorem dX10_manyAt_8 : decode cX10_manyAt 8 = .ok (.getfield 73, 3) := by decide +kernel
theorem dX10_manyAt_11 : decode cX10_manyAt 11 = .ok (.if_icmp .ge 37, 3) := by decide +kernel
theorem dX10_manyAt_14 : decode cX10_manyAt 14 = .ok (.iload_n 3, 1) := by decide +kernel
theorem dX10_manyAt_15 : decode cX10_manyAt 15 = .ok (.aload_n 0, 1) := by decide +kernel
theorem dX10_manyAt_16 : decode cX10_manyAt 16 = .ok (.iload 4, 2) := by decide +kernel
theorem dX10_manyAt_18 : decode cX10_manyAt 18 = .ok (.iload_n 2, 1) := by decide +kernel
theorem dX10_manyAt_19 : decode cX10_manyAt 19 = .ok (.invokevirtual 177, 3) := by decide +kernel
theorem dX10_manyAt_22 : decode cX10_manyAt 22 = .ok (.ifCond .eq 17, 3) := by decide +kernel
theorem dX10_manyAt_25 : decode cX10_manyAt 25 = .ok (.aload_n 0, 1) := by decide +kernel
theorem dX10_manyAt_26 : decode cX10_manyAt 26 = .ok (.iload_n 1, 1) := by decide +kernel
theorem dX10_manyAt_27 : decode cX10_manyAt 27 = .ok (.iload 4, 2) := by decide +kernel
theorem dX10_manyAt_29 : decode cX10_manyAt 29 = .ok (.invokevirtual 163, 3) := by decide +kernel
theorem dX10_manyAt_32 : decode cX10_manyAt 32 = .ok (.ifCond .ne 7, 3) := by decide +kernel
theorem dX10_manyAt_35 : decode cX10_manyAt 35 = .ok (.iconst 1, 1) := by decide +kernel
theorem dX10_manyAt_36 : decode cX10_manyAt 36 = .ok (.goto 4, 3) := by decide +kernel
theorem dX10_manyAt_39 : decode cX10_manyAt 39 = .ok (.iconst 0, 1) := by decide +kernel
theorem dX10_manyAt_40 : decode cX10_manyAt 40 = .ok (.iadd, 1) := by decide +kernel
theorem dX10_manyAt_41 : decode cX10_manyAt 41 = .ok (.istore_n 3, 1) := by decide +kernel
theorem dX10_manyAt_42 : decode cX10_manyAt 42 = .ok (.iinc 4 1, 3) := by decide +kernel
theorem dX10_manyAt_45 : decode cX10_manyAt 45 = .ok (.goto (-40), 3) := by decide +kernel
theorem dX10_manyAt_48 : decode cX10_manyAt 48 = .ok (.iload_n 3, 1) := by decide +kernel
theorem dX10_manyAt_49 : decode cX10_manyAt 49 = .ok (.ireturn, 1) := by decide +kernel
theorem dX10_drunk_0 : decode cX10_drunk 0 = .ok (.aload_n 0, 1) := by decide +kernel
theorem dX10_drunk_1 : decode cX10_drunk 1 = .ok (.iload_n 1, 1) := by decide +kernel
theorem dX10_drunk_2 : decode cX10_drunk 2 = .ok (.invokevirtual 167, 3) := by decide +kernel
theorem dX10_drunk_5 : decode cX10_drunk 5 = .ok (.ifCond .eq 47, 3) := by decide +kernel
theorem dX10_drunk_8 : decode cX10_drunk 8 = .ok (.aload_n 0, 1) := by decide +kernel
theorem dX10_drunk_9 : decode cX10_drunk 9 = .ok (.iload_n 2, 1) := by decide +kernel
theorem dX10_drunk_10 : decode cX10_drunk 10 = .ok (.invokevirtual 189, 3) := by decide +kernel
theorem dX10_drunk_13 : decode cX10_drunk 13 = .ok (.ifCond .eq 39, 3) := by decide +kernel
theorem dX10_drunk_16 : decode cX10_drunk 16 = .ok (.iload_n 3, 1) := by decide +kernel
theorem dX10_drunk_17 : decode cX10_drunk 17 = .ok (.i2l, 1) := by decide +kernel
theorem dX10_drunk_18 : decode cX10_drunk 18 = .ok (.lconst 0, 1) := by decide +kernel
theorem dX10_drunk_19 : decode cX10_drunk 19 = .ok (.ldc2_w 233, 3) := by decide +kernel
theorem dX10_drunk_22 : decode cX10_drunk 22 = .ok (.invokestatic 69, 3) := by decide +kernel
theorem dX10_drunk_25 : decode cX10_drunk 25 = .ok (.ifCond .eq 27, 3) := by decide +kernel
theorem dX10_drunk_28 : decode cX10_drunk 28 = .ok (.iload 4, 2) := by decide +kernel
theorem dX10_drunk_30 : decode cX10_drunk 30 = .ok (.i2l, 1) := by decide +kernel
theorem dX10_drunk_31 : decode cX10_drunk 31 = .ok (.lconst 0, 1) := by decide +kernel
theorem dX10_drunk_32 : decode cX10_drunk 32 = .ok (.ldc2_w 235, 3) := by decide +kernel
theorem dX10_drunk_35 : decode cX10_drunk 35 = .ok (.invokestatic 69, 3) := by decide +kernel
theorem dX10_drunk_38 : decode cX10_drunk 38 = .ok (.ifCond .eq 14, 3) := by decide +kernel
theorem dX10_drunk_41 : decode cX10_drunk 41 = .ok (.iload 5, 2) := by decide +kernel
theorem dX10_drunk_43 : decode cX10_drunk 43 = .ok (.i2l, 1) := by decide +kernel
theorem dX10_drunk_44 : decode cX10_drunk 44 = .ok (.lconst 0, 1) := by decide +kernel
theorem dX10_drunk_45 : decode cX10_drunk 45 = .ok (.lconst 1, 1) := by decide +kernel
theorem dX10_drunk_46 : decode cX10_drunk 46 = .ok (.invokestatic 69, 3) := by decide +kernel
theorem dX10_drunk_49 : decode cX10_drunk 49 = .ok (.ifCond .ne 5, 3) := by decide +kernel
theorem dX10_drunk_52 : decode cX10_drunk 52 = .ok (.iconst (-1), 1) := by decide +kernel
theorem dX10_drunk_53 : decode cX10_drunk 53 = .ok (.ireturn, 1) := by decide +kernel
theorem dX10_drunk_54 : decode cX10_drunk 54 = .ok (.iconst 0, 1) := by decide +kernel
theorem dX10_drunk_55 : decode cX10_drunk 55 = .ok (.istore 6, 2) := by decide +kernel
theorem dX10_drunk_57 : decode cX10_drunk 57 = .ok (.iconst 1, 1) := by decide +kernel
theorem dX10_drunk_58 : decode cX10_drunk 58 = .ok (.istore 7, 2) := by decide +kernel
theorem dX10_drunk_60 : decode cX10_drunk 60 = .ok (.iconst 0, 1) := by decide +kernel
theorem dX10_drunk_61 : decode cX10_drunk 61 = .ok (.istore 8, 2) := by decide +kernel
theorem dX10_drunk_63 : decode cX10_drunk 63 = .ok (.iload 8, 2) := by decide +kernel
theorem dX10_drunk_65 : decode cX10_drunk 65 = .ok (.iload_n 3, 1) := by decide +kernel
theorem dX10_drunk_66 : decode cX10_drunk 66 = .ok (.if_icmp .ge 16, 3) := by decide +kernel
theorem dX10_drunk_69 : decode cX10_drunk 69 = .ok (.iload 7, 2) := by decide +kernel
theorem dX10_drunk_71 : decode cX10_drunk 71 = .ok (.bipush 10, 2) := by decide +kernel
theorem dX10_drunk_73 : decode cX10_drunk 73 = .ok (.imul, 1) := by decide +kernel
theorem dX10_drunk_74 : decode cX10_drunk 74 = .ok (.istore 7, 2) := by decide +kernel
theorem dX10_drunk_76 : decode cX10_drunk 76 = .ok (.iinc 8 1, 3) := by decide +kernel
theorem dX10_drunk_79 : decode cX10_drunk 79 = .ok (.goto (-16), 3) := by decide +kernel
theorem dX10_drunk_82 : decode cX10_drunk 82 = .ok (.iconst 0, 1) := by decide +kernel
theorem dX10_drunk_83 : decode cX10_drunk 83 = .ok (.istore 8, 2) := by decide +kernel
theorem dX10_drunk_85 : decode cX10_drunk 85 = .ok (.iload 8, 2) := by decide +kernel
theorem dX10_drunk_87 : decode cX10_drunk 87 = .ok (.iconst 1, 1) := by decide +kernel
theorem dX10_drunk_88 : decode cX10_drunk 88 = .ok (.iload_n 3, 1) := by decide +kernel
theorem dX10_drunk_89 : decode cX10_drunk 89 = .ok (.ishl, 1) := by decide +kernel
theorem dX10_drunk_90 : decode cX10_drunk 90 = .ok (.if_icmp .ge 132, 3) := by decide +kernel
theorem dX10_drunk_93 : decode cX10_drunk 93 = .ok (.iconst 1, 1) := by decide +kernel
theorem dX10_drunk_94 : decode cX10_drunk 94 = .ok (.istore 9, 2) := by decide +kernel
theorem dX10_drunk_96 : decode cX10_drunk 96 = .ok (.aload_n 0, 1) := by decide +kernel
theorem dX10_drunk_97 : decode cX10_drunk 97 = .ok (.getfield 7, 3) := by decide +kernel
theorem dX10_drunk_100 : decode cX10_drunk 100 = .ok (.bipush 10, 2) := by decide +kernel
theorem dX10_drunk_102 : decode cX10_drunk 102 = .ok (.iload_n 1, 1) := by decide +kernel
theorem dX10_drunk_103 : decode cX10_drunk 103 = .ok (.iadd, 1) := by decide +kernel
theorem dX10_drunk_104 : decode cX10_drunk 104 = .ok (.iaload, 1) := by decide +kernel
theorem dX10_drunk_105 : decode cX10_drunk 105 = .ok (.istore 10, 2) := by decide +kernel
theorem dX10_drunk_107 : decode cX10_drunk 107 = .ok (.iconst 0, 1) := by decide +kernel
theorem dX10_drunk_108 : decode cX10_drunk 108 = .ok (.istore 11, 2) := by decide +kernel
theorem dX10_drunk_110 : decode cX10_drunk 110 = .ok (.iload 11, 2) := by decide +kernel
theorem dX10_drunk_112 : decode cX10_drunk 112 = .ok (.iload_n 3, 1) := by decide +kernel
theorem dX10_drunk_113 : decode cX10_drunk 113 = .ok (.if_icmp .ge 86, 3) := by decide +kernel
theorem dX10_drunk_116 : decode cX10_drunk 116 = .ok (.iload 9, 2) := by decide +kernel
theorem dX10_drunk_118 : decode cX10_drunk 118 = .ok (.iload 8, 2) := by decide +kernel
theorem dX10_drunk_120 : decode cX10_drunk 120 = .ok (.iload 11, 2) := by decide +kernel
theorem dX10_drunk_122 : decode cX10_drunk 122 = .ok (.invokestatic 198, 3) := by decide +kernel
theorem dX10_drunk_125 : decode cX10_drunk 125 = .ok (.ifCond .eq 8, 3) := by decide +kernel
theorem dX10_drunk_128 : decode cX10_drunk 128 = .ok (.iload 4, 2) := by decide +kernel
theorem dX10_drunk_130 : decode cX10_drunk 130 = .ok (.goto 8, 3) := by decide +kernel
theorem dX10_drunk_133 : decode cX10_drunk 133 = .ok (.bipush 10, 2) := by decide +kernel
theorem dX10_drunk_135 : decode cX10_drunk 135 = .ok (.iload 4, 2) := by decide +kernel
theorem dX10_drunk_137 : decode cX10_drunk 137 = .ok (.isub, 1) := by decide +kernel
theorem dX10_drunk_138 : decode cX10_drunk 138 = .ok (.imul, 1) := by decide +kernel
theorem dX10_drunk_139 : decode cX10_drunk 139 = .ok (.istore 9, 2) := by decide +kernel
theorem dX10_drunk_141 : decode cX10_drunk 141 = .ok (.aload_n 0, 1) := by decide +kernel
theorem dX10_drunk_142 : decode cX10_drunk 142 = .ok (.iconst 0, 1) := by decide +kernel
theorem dX10_drunk_143 : decode cX10_drunk 143 = .ok (.iload 10, 2) := by decide +kernel
theorem dX10_drunk_145 : decode cX10_drunk 145 = .ok (.invokevirtual 237, 3) := by decide +kernel
theorem dX10_drunk_148 : decode cX10_drunk 148 = .ok (.istore 12, 2) := by decide +kernel
theorem dX10_drunk_150 : decode cX10_drunk 150 = .ok (.iload 12, 2) := by decide +kernel
theorem dX10_drunk_152 : decode cX10_drunk 152 = .ok (.ifCond .ne 8, 3) := by decide +kernel
theorem dX10_drunk_155 : decode cX10_drunk 155 = .ok (.iload 10, 2) := by decide +kernel
theorem dX10_drunk_157 : decode cX10_drunk 157 = .ok (.goto 34, 3) := by decide +kernel
theorem dX10_drunk_160 : decode cX10_drunk 160 = .ok (.aload_n 0, 1) := by decide +kernel
theorem dX10_drunk_161 : decode cX10_drunk 161 = .ok (.aload_n 0, 1) := by decide +kernel
theorem dX10_drunk_162 : decode cX10_drunk 162 = .ok (.iconst 0, 1) := by decide +kernel
theorem dX10_drunk_163 : decode cX10_drunk 163 = .ok (.iload 10, 2) := by decide +kernel
theorem dX10_drunk_165 : decode cX10_drunk 165 = .ok (.iload 8, 2) := by decide +kernel
theorem dX10_drunk_167 : decode cX10_drunk 167 = .ok (.iload 11, 2) := by decide +kernel
theorem dX10_drunk_169 : decode cX10_drunk 169 = .ok (.invokestatic 198, 3) := by decide +kernel
theorem dX10_drunk_172 : decode cX10_drunk 172 = .ok (.ifCond .eq 7, 3) := by decide +kernel
theorem dX10_drunk_175 : decode cX10_drunk 175 = .ok (.iconst 0, 1) := by decide +kernel
theorem dX10_drunk_176 : decode cX10_drunk 176 = .ok (.goto 7, 3) := by decide +kernel
theorem dX10_drunk_179 : decode cX10_drunk 179 = .ok (.iload 12, 2) := by decide +kernel
theorem dX10_drunk_181 : decode cX10_drunk 181 = .ok (.iconst 1, 1) := by decide +kernel
theorem dX10_drunk_182 : decode cX10_drunk 182 = .ok (.isub, 1) := by decide +kernel
theorem dX10_drunk_183 : decode cX10_drunk 183 = .ok (.invokevirtual 240, 3) := by decide +kernel
theorem dX10_drunk_186 : decode cX10_drunk 186 = .ok (.iload 10, 2) := by decide +kernel
theorem dX10_drunk_188 : decode cX10_drunk 188 = .ok (.invokevirtual 146, 3) := by decide +kernel
theorem dX10_drunk_191 : decode cX10_drunk 191 = .ok (.istore 10, 2) := by decide +kernel
theorem dX10_drunk_193 : decode cX10_drunk 193 = .ok (.iinc 11 1, 3) := by decide +kernel
theorem dX10_drunk_196 : decode cX10_drunk 196 = .ok (.goto (-86), 3) := by decide +kernel
theorem dX10_drunk_199 : decode cX10_drunk 199 = .ok (.iload 6, 2) := by decide +kernel
theorem dX10_drunk_201 : decode cX10_drunk 201 = .ok (.iload 10, 2) := by decide +kernel
theorem dX10_drunk_203 : decode cX10_drunk 203 = .ok (.iload_n 2, 1) := by decide +kernel
theorem dX10_drunk_204 : decode cX10_drunk 204 = .ok (.if_icmp .ne 8, 3) := by decide +kernel
theorem dX10_drunk_207 : decode cX10_drunk 207 = .ok (.iload 9, 2) := by decide +kernel
theorem dX10_drunk_209 : decode cX10_drunk 209 = .ok (.goto 4, 3) := by decide +kernel
theorem dX10_drunk_212 : decode cX10_drunk 212 = .ok (.iconst 0, 1) := by decide +kernel
theorem dX10_drunk_213 : decode cX10_drunk 213 = .ok (.iadd, 1) := by decide +kernel
theorem dX10_drunk_214 : decode cX10_drunk 214 = .ok (.istore 6, 2) := by decide +kernel
theorem dX10_drunk_216 : decode cX10_drunk 216 = .ok (.iinc 8 1, 3) := by decide +kernel
theorem dX10_drunk_219 : decode cX10_drunk 219 = .ok (.goto (-134), 3) := by decide +kernel
theorem dX10_drunk_222 : decode cX10_drunk 222 = .ok (.iload 6, 2) := by decide +kernel
theorem dX10_drunk_224 : decode cX10_drunk 224 = .ok (.istore 8, 2) := by decide +kernel
theorem dX10_drunk_226 : decode cX10_drunk 226 = .ok (.iload 7, 2) := by decide +kernel
theorem dX10_drunk_228 : decode cX10_drunk 228 = .ok (.istore 9, 2) := by decide +kernel
theorem dX10_drunk_230 : decode cX10_drunk 230 = .ok (.iload 9, 2) := by decide +kernel
theorem dX10_drunk_232 : decode cX10_drunk 232 = .ok (.ifCond .eq 21, 3) := by decide +kernel
theorem dX10_drunk_235 : decode cX10_drunk 235 = .ok (.iload 8, 2) := by decide +kernel
theorem dX10_drunk_237 : decode cX10_drunk 237 = .ok (.iload 9, 2) := by decide +kernel
theorem dX10_drunk_239 : decode cX10_drunk 239 = .ok (.irem, 1) := by decide +kernel
theorem dX10_drunk_240 : decode cX10_drunk 240 = .ok (.istore 10, 2) := by decide +kernel
theorem dX10_drunk_242 : decode cX10_drunk 242 = .ok (.iload 9, 2) := by decide +kernel
theorem dX10_drunk_244 : decode cX10_drunk 244 = .ok (.istore 8, 2) := by decide +kernel
theorem dX10_drunk_246 : decode cX10_drunk 246 = .ok (.iload 10, 2) := by decide +kernel
theorem dX10_drunk_248 : decode cX10_drunk 248 = .ok (.istore 9, 2) := by decide +kernel
theorem dX10_drunk_250 : decode cX10_drunk 250 = .ok (.goto (-20), 3) := by decide +kernel
theorem dX10_drunk_253 : decode cX10_drunk 253 = .ok (.iload 5, 2) := by decide +kernel
theorem dX10_drunk_255 : decode cX10_drunk 255 = .ok (.ifCond .ne 11, 3) := by decide +kernel
theorem dX10_drunk_258 : decode cX10_drunk 258 = .ok (.iload 6, 2) := by decide +kernel
theorem dX10_drunk_260 : decode cX10_drunk 260 = .ok (.iload 8, 2) := by decide +kernel
theorem dX10_drunk_262 : decode cX10_drunk 262 = .ok (.idiv, 1) := by decide +kernel
theorem dX10_drunk_263 : decode cX10_drunk 263 = .ok (.goto 8, 3) := by decide +kernel
theorem dX10_drunk_266 : decode cX10_drunk 266 = .ok (.iload 7, 2) := by decide +kernel
theorem dX10_drunk_268 : decode cX10_drunk 268 = .ok (.iload 8, 2) := by decide +kernel
theorem dX10_drunk_270 : decode cX10_drunk 270 = .ok (.idiv, 1) := by decide +kernel
theorem dX10_drunk_271 : decode cX10_drunk 271 = .ok (.ireturn, 1) := by decide +kernel
theorem dX10_lowestAt_0 : decode cX10_lowestAt 0 = .ok (.iconst 0, 1) := by decide +kernel
theorem dX10_lowestAt_1 : decode cX10_lowestAt 1 = .ok (.istore_n 2, 1) := by decide +kernel
theorem dX10_lowestAt_2 : decode cX10_lowestAt 2 = .ok (.iload_n 2, 1) := by decide +kernel
theorem dX10_lowestAt_3 : decode cX10_lowestAt 3 = .ok (.aload_n 0, 1) := by decide +kernel
theorem dX10_lowestAt_4 : decode cX10_lowestAt 4 = .ok (.getfield 73, 3) := by decide +kernel
theorem dX10_lowestAt_7 : decode cX10_lowestAt 7 = .ok (.if_icmp .ge 20, 3) := by decide +kernel
theorem dX10_lowestAt_10 : decode cX10_lowestAt 10 = .ok (.aload_n 0, 1) := by decide +kernel
theorem dX10_lowestAt_11 : decode cX10_lowestAt 11 = .ok (.iload_n 2, 1) := by decide +kernel
theorem dX10_lowestAt_12 : decode cX10_lowestAt 12 = .ok (.iload_n 1, 1) := by decide +kernel
theorem dX10_lowestAt_13 : decode cX10_lowestAt 13 = .ok (.invokevirtual 177, 3) := by decide +kernel
theorem dX10_lowestAt_16 : decode cX10_lowestAt 16 = .ok (.ifCond .eq 5, 3) := by decide +kernel
theorem dX10_lowestAt_19 : decode cX10_lowestAt 19 = .ok (.iload_n 2, 1) := by decide +kernel
theorem dX10_lowestAt_20 : decode cX10_lowestAt 20 = .ok (.ireturn, 1) := by decide +kernel
theorem dX10_lowestAt_21 : decode cX10_lowestAt 21 = .ok (.iinc 2 1, 3) := by decide +kernel
theorem dX10_lowestAt_24 : decode cX10_lowestAt 24 = .ok (.goto (-22), 3) := by decide +kernel
theorem dX10_lowestAt_27 : decode cX10_lowestAt 27 = .ok (.bipush (-4), 2) := by decide +kernel
theorem dX10_lowestAt_29 : decode cX10_lowestAt 29 = .ok (.ireturn, 1) := by decide +kernel
theorem dX10_creditIn_0 : decode cX10_creditIn 0 = .ok (.iconst 0, 1) := by decide +kernel
theorem dX10_creditIn_1 : decode cX10_creditIn 1 = .ok (.istore_n 2, 1) := by decide +kernel
theorem dX10_creditIn_2 : decode cX10_creditIn 2 = .ok (.iconst 0, 1) := by decide +kernel
theorem dX10_creditIn_3 : decode cX10_creditIn 3 = .ok (.istore_n 3, 1) := by decide +kernel
theorem dX10_creditIn_4 : decode cX10_creditIn 4 = .ok (.iload_n 3, 1) := by decide +kernel
theorem dX10_creditIn_5 : decode cX10_creditIn 5 = .ok (.aload_n 0, 1) := by decide +kernel
theorem dX10_creditIn_6 : decode cX10_creditIn 6 = .ok (.getfield 76, 3) := by decide +kernel
theorem dX10_creditIn_9 : decode cX10_creditIn 9 = .ok (.if_icmp .ge 23, 3) := by decide +kernel
theorem dX10_creditIn_12 : decode cX10_creditIn 12 = .ok (.iload_n 2, 1) := by decide +kernel
theorem dX10_creditIn_13 : decode cX10_creditIn 13 = .ok (.aload_n 0, 1) := by decide +kernel
theorem dX10_creditIn_14 : decode cX10_creditIn 14 = .ok (.getfield 7, 3) := by decide +kernel
theorem dX10_creditIn_17 : decode cX10_creditIn 17 = .ok (.iload_n 1, 1) := by decide +kernel
theorem dX10_creditIn_18 : decode cX10_creditIn 18 = .ok (.bipush 14, 2) := by decide +kernel
theorem dX10_creditIn_20 : decode cX10_creditIn 20 = .ok (.iadd, 1) := by decide +kernel
theorem dX10_creditIn_21 : decode cX10_creditIn 21 = .ok (.iload_n 3, 1) := by decide +kernel
theorem dX10_creditIn_22 : decode cX10_creditIn 22 = .ok (.iadd, 1) := by decide +kernel
theorem dX10_creditIn_23 : decode cX10_creditIn 23 = .ok (.iaload, 1) := by decide +kernel
theorem dX10_creditIn_24 : decode cX10_creditIn 24 = .ok (.iadd, 1) := by decide +kernel
theorem dX10_creditIn_25 : decode cX10_creditIn 25 = .ok (.istore_n 2, 1) := by decide +kernel
theorem dX10_creditIn_26 : decode cX10_creditIn 26 = .ok (.iinc 3 1, 3) := by decide +kernel
theorem dX10_creditIn_29 : decode cX10_creditIn 29 = .ok (.goto (-25), 3) := by decide +kernel
theorem dX10_creditIn_32 : decode cX10_creditIn 32 = .ok (.iload_n 2, 1) := by decide +kernel
theorem dX10_creditIn_33 : decode cX10_creditIn 33 = .ok (.ireturn, 1) := by decide +kernel
theorem dX10_brokenIn_0 : decode cX10_brokenIn 0 = .ok (.iconst 0, 1) := by decide +kernel
theorem dX10_brokenIn_1 : decode cX10_brokenIn 1 = .ok (.istore_n 2, 1) := by decide +kernel
theorem dX10_brokenIn_2 : decode cX10_brokenIn 2 = .ok (.iconst 0, 1) := by decide +kernel
theorem dX10_brokenIn_3 : decode cX10_brokenIn 3 = .ok (.istore_n 3, 1) := by decide +kernel
theorem dX10_brokenIn_4 : decode cX10_brokenIn 4 = .ok (.iload_n 3, 1) := by decide +kernel
theorem dX10_brokenIn_5 : decode cX10_brokenIn 5 = .ok (.aload_n 0, 1) := by decide +kernel
theorem dX10_brokenIn_6 : decode cX10_brokenIn 6 = .ok (.getfield 73, 3) := by decide +kernel
theorem dX10_brokenIn_9 : decode cX10_brokenIn 9 = .ok (.if_icmp .ge 26, 3) := by decide +kernel
theorem dX10_brokenIn_12 : decode cX10_brokenIn 12 = .ok (.iload_n 2, 1) := by decide +kernel
theorem dX10_brokenIn_13 : decode cX10_brokenIn 13 = .ok (.aload_n 0, 1) := by decide +kernel
theorem dX10_brokenIn_14 : decode cX10_brokenIn 14 = .ok (.iload_n 1, 1) := by decide +kernel
theorem dX10_brokenIn_15 : decode cX10_brokenIn 15 = .ok (.iload_n 3, 1) := by decide +kernel
theorem dX10_brokenIn_16 : decode cX10_brokenIn 16 = .ok (.invokevirtual 163, 3) := by decide +kernel
theorem dX10_brokenIn_19 : decode cX10_brokenIn 19 = .ok (.ifCond .eq 7, 3) := by decide +kernel
theorem dX10_brokenIn_22 : decode cX10_brokenIn 22 = .ok (.iconst 1, 1) := by decide +kernel
theorem dX10_brokenIn_23 : decode cX10_brokenIn 23 = .ok (.goto 4, 3) := by decide +kernel
theorem dX10_brokenIn_26 : decode cX10_brokenIn 26 = .ok (.iconst 0, 1) := by decide +kernel
theorem dX10_brokenIn_27 : decode cX10_brokenIn 27 = .ok (.iadd, 1) := by decide +kernel
theorem dX10_brokenIn_28 : decode cX10_brokenIn 28 = .ok (.istore_n 2, 1) := by decide +kernel
theorem dX10_brokenIn_29 : decode cX10_brokenIn 29 = .ok (.iinc 3 1, 3) := by decide +kernel
theorem dX10_brokenIn_32 : decode cX10_brokenIn 32 = .ok (.goto (-28), 3) := by decide +kernel
theorem dX10_brokenIn_35 : decode cX10_brokenIn 35 = .ok (.iload_n 2, 1) := by decide +kernel
theorem dX10_brokenIn_36 : decode cX10_brokenIn 36 = .ok (.ireturn, 1) := by decide +kernel
theorem dX10_year_0 : decode cX10_year 0 = .ok (.iload_n 1, 1) := by decide +kernel
theorem dX10_year_1 : decode cX10_year 1 = .ok (.i2l, 1) := by decide +kernel
theorem dX10_year_2 : decode cX10_year 2 = .ok (.lconst 0, 1) := by decide +kernel
theorem dX10_year_3 : decode cX10_year 3 = .ok (.ldc2_w 243, 3) := by decide +kernel
theorem dX10_year_6 : decode cX10_year 6 = .ok (.invokestatic 69, 3) := by decide +kernel
theorem dX10_year_9 : decode cX10_year 9 = .ok (.ifCond .eq 25, 3) := by decide +kernel
theorem dX10_year_12 : decode cX10_year 12 = .ok (.iload_n 2, 1) := by decide +kernel
theorem dX10_year_13 : decode cX10_year 13 = .ok (.i2l, 1) := by decide +kernel
theorem dX10_year_14 : decode cX10_year 14 = .ok (.lconst 1, 1) := by decide +kernel
theorem dX10_year_15 : decode cX10_year 15 = .ok (.ldc2_w 245, 3) := by decide +kernel
theorem dX10_year_18 : decode cX10_year 18 = .ok (.invokestatic 69, 3) := by decide +kernel
theorem dX10_year_21 : decode cX10_year 21 = .ok (.ifCond .eq 13, 3) := by decide +kernel
theorem dX10_year_24 : decode cX10_year 24 = .ok (.iload_n 3, 1) := by decide +kernel
theorem dX10_year_25 : decode cX10_year 25 = .ok (.i2l, 1) := by decide +kernel
theorem dX10_year_26 : decode cX10_year 26 = .ok (.lconst 0, 1) := by decide +kernel
theorem dX10_year_27 : decode cX10_year 27 = .ok (.lconst 1, 1) := by decide +kernel
theorem dX10_year_28 : decode cX10_year 28 = .ok (.invokestatic 69, 3) := by decide +kernel
theorem dX10_year_31 : decode cX10_year 31 = .ok (.ifCond .ne 5, 3) := by decide +kernel
theorem dX10_year_34 : decode cX10_year 34 = .ok (.iconst (-1), 1) := by decide +kernel
theorem dX10_year_35 : decode cX10_year 35 = .ok (.ireturn, 1) := by decide +kernel
theorem dX10_year_36 : decode cX10_year 36 = .ok (.aload_n 0, 1) := by decide +kernel
theorem dX10_year_37 : decode cX10_year 37 = .ok (.iconst 0, 1) := by decide +kernel
theorem dX10_year_38 : decode cX10_year 38 = .ok (.bipush 58, 2) := by decide +kernel
theorem dX10_year_40 : decode cX10_year 40 = .ok (.invokevirtual 173, 3) := by decide +kernel
theorem dX10_year_43 : decode cX10_year 43 = .ok (.iconst 0, 1) := by decide +kernel
theorem dX10_year_44 : decode cX10_year 44 = .ok (.istore 4, 2) := by decide +kernel
theorem dX10_year_46 : decode cX10_year 46 = .ok (.iload 4, 2) := by decide +kernel
theorem dX10_year_48 : decode cX10_year 48 = .ok (.iload_n 2, 1) := by decide +kernel
theorem dX10_year_49 : decode cX10_year 49 = .ok (.if_icmp .ge 124, 3) := by decide +kernel
theorem dX10_year_52 : decode cX10_year 52 = .ok (.ldc2_w 247, 3) := by decide +kernel
theorem dX10_year_55 : decode cX10_year 55 = .ok (.iload_n 1, 1) := by decide +kernel
theorem dX10_year_56 : decode cX10_year 56 = .ok (.i2l, 1) := by decide +kernel
theorem dX10_year_57 : decode cX10_year 57 = .ok (.lmul, 1) := by decide +kernel
theorem dX10_year_58 : decode cX10_year 58 = .ok (.ldc2_w 249, 3) := by decide +kernel
theorem dX10_year_61 : decode cX10_year 61 = .ok (.iload 4, 2) := by decide +kernel
theorem dX10_year_63 : decode cX10_year 63 = .ok (.i2l, 1) := by decide +kernel
theorem dX10_year_64 : decode cX10_year 64 = .ok (.lmul, 1) := by decide +kernel
theorem dX10_year_65 : decode cX10_year 65 = .ok (.ladd, 1) := by decide +kernel
theorem dX10_year_66 : decode cX10_year 66 = .ok (.lconst 1, 1) := by decide +kernel
theorem dX10_year_67 : decode cX10_year 67 = .ok (.ladd, 1) := by decide +kernel
theorem dX10_year_68 : decode cX10_year 68 = .ok (.lstore 5, 2) := by decide +kernel
theorem dX10_year_70 : decode cX10_year 70 = .ok (.lload 5, 2) := by decide +kernel
theorem dX10_year_72 : decode cX10_year 72 = .ok (.lload 5, 2) := by decide +kernel
theorem dX10_year_74 : decode cX10_year 74 = .ok (.lmul, 1) := by decide +kernel
theorem dX10_year_75 : decode cX10_year 75 = .ok (.ldc2_w 251, 3) := by decide +kernel
theorem dX10_year_78 : decode cX10_year 78 = .ok (.lrem, 1) := by decide +kernel
theorem dX10_year_79 : decode cX10_year 79 = .ok (.l2i, 1) := by decide +kernel
theorem dX10_year_80 : decode cX10_year 80 = .ok (.istore 7, 2) := by decide +kernel
theorem dX10_year_82 : decode cX10_year 82 = .ok (.iload 7, 2) := by decide +kernel
theorem dX10_year_84 : decode cX10_year 84 = .ok (.aload_n 0, 1) := by decide +kernel
theorem dX10_year_85 : decode cX10_year 85 = .ok (.getfield 76, 3) := by decide +kernel
theorem dX10_year_88 : decode cX10_year 88 = .ok (.irem, 1) := by decide +kernel
theorem dX10_year_89 : decode cX10_year 89 = .ok (.istore 8, 2) := by decide +kernel
theorem dX10_year_91 : decode cX10_year 91 = .ok (.aload_n 0, 1) := by decide +kernel
theorem dX10_year_92 : decode cX10_year 92 = .ok (.getfield 7, 3) := by decide +kernel
theorem dX10_year_95 : decode cX10_year 95 = .ok (.bipush 68, 2) := by decide +kernel
theorem dX10_year_97 : decode cX10_year 97 = .ok (.iload 8, 2) := by decide +kernel
theorem dX10_year_99 : decode cX10_year 99 = .ok (.iadd, 1) := by decide +kernel
theorem dX10_year_100 : decode cX10_year 100 = .ok (.iaload, 1) := by decide +kernel
theorem dX10_year_101 : decode cX10_year 101 = .ok (.istore 9, 2) := by decide +kernel
theorem dX10_year_103 : decode cX10_year 103 = .ok (.aload_n 0, 1) := by decide +kernel
theorem dX10_year_104 : decode cX10_year 104 = .ok (.bipush 58, 2) := by decide +kernel
theorem dX10_year_106 : decode cX10_year 106 = .ok (.iload 9, 2) := by decide +kernel
theorem dX10_year_108 : decode cX10_year 108 = .ok (.invokevirtual 237, 3) := by decide +kernel
theorem dX10_year_111 : decode cX10_year 111 = .ok (.istore 10, 2) := by decide +kernel
theorem dX10_year_113 : decode cX10_year 113 = .ok (.iload 10, 2) := by decide +kernel
theorem dX10_year_115 : decode cX10_year 115 = .ok (.ifCond .le 29, 3) := by decide +kernel
theorem dX10_year_118 : decode cX10_year 118 = .ok (.aload_n 0, 1) := by decide +kernel
theorem dX10_year_119 : decode cX10_year 119 = .ok (.bipush 58, 2) := by decide +kernel
theorem dX10_year_121 : decode cX10_year 121 = .ok (.iload 8, 2) := by decide +kernel
theorem dX10_year_123 : decode cX10_year 123 = .ok (.aload_n 0, 1) := by decide +kernel
theorem dX10_year_124 : decode cX10_year 124 = .ok (.bipush 58, 2) := by decide +kernel
theorem dX10_year_126 : decode cX10_year 126 = .ok (.iload 9, 2) := by decide +kernel
theorem dX10_year_128 : decode cX10_year 128 = .ok (.iload 7, 2) := by decide +kernel
theorem dX10_year_130 : decode cX10_year 130 = .ok (.iconst 4, 1) := by decide +kernel
theorem dX10_year_131 : decode cX10_year 131 = .ok (.idiv, 1) := by decide +kernel
theorem dX10_year_132 : decode cX10_year 132 = .ok (.iload 10, 2) := by decide +kernel
theorem dX10_year_134 : decode cX10_year 134 = .ok (.irem, 1) := by decide +kernel
theorem dX10_year_135 : decode cX10_year 135 = .ok (.invokevirtual 240, 3) := by decide +kernel
theorem dX10_year_138 : decode cX10_year 138 = .ok (.invokevirtual 183, 3) := by decide +kernel
theorem dX10_year_141 : decode cX10_year 141 = .ok (.goto 26, 3) := by decide +kernel
theorem dX10_year_144 : decode cX10_year 144 = .ok (.aload_n 0, 1) := by decide +kernel
theorem dX10_year_145 : decode cX10_year 145 = .ok (.iload 9, 2) := by decide +kernel
theorem dX10_year_147 : decode cX10_year 147 = .ok (.invokevirtual 253, 3) := by decide +kernel
theorem dX10_year_150 : decode cX10_year 150 = .ok (.bipush (-4), 2) := by decide +kernel
theorem dX10_year_152 : decode cX10_year 152 = .ok (.if_icmp .eq 15, 3) := by decide +kernel
theorem dX10_year_155 : decode cX10_year 155 = .ok (.aload_n 0, 1) := by decide +kernel
theorem dX10_year_156 : decode cX10_year 156 = .ok (.bipush 58, 2) := by decide +kernel
theorem dX10_year_158 : decode cX10_year 158 = .ok (.aload_n 0, 1) := by decide +kernel
theorem dX10_year_159 : decode cX10_year 159 = .ok (.iload 9, 2) := by decide +kernel
theorem dX10_year_161 : decode cX10_year 161 = .ok (.invokevirtual 253, 3) := by decide +kernel
theorem dX10_year_164 : decode cX10_year 164 = .ok (.invokevirtual 186, 3) := by decide +kernel
theorem dX10_year_167 : decode cX10_year 167 = .ok (.iinc 4 1, 3) := by decide +kernel
theorem dX10_year_170 : decode cX10_year 170 = .ok (.goto (-124), 3) := by decide +kernel
theorem dX10_year_173 : decode cX10_year 173 = .ok (.iload_n 3, 1) := by decide +kernel
theorem dX10_year_174 : decode cX10_year 174 = .ok (.ifCond .ne 12, 3) := by decide +kernel
theorem dX10_year_177 : decode cX10_year 177 = .ok (.aload_n 0, 1) := by decide +kernel
theorem dX10_year_178 : decode cX10_year 178 = .ok (.bipush 58, 2) := by decide +kernel
theorem dX10_year_180 : decode cX10_year 180 = .ok (.invokevirtual 256, 3) := by decide +kernel
theorem dX10_year_183 : decode cX10_year 183 = .ok (.goto 9, 3) := by decide +kernel
theorem dX10_year_186 : decode cX10_year 186 = .ok (.aload_n 0, 1) := by decide +kernel
theorem dX10_year_187 : decode cX10_year 187 = .ok (.bipush 58, 2) := by decide +kernel
theorem dX10_year_189 : decode cX10_year 189 = .ok (.invokevirtual 259, 3) := by decide +kernel
theorem dX10_year_192 : decode cX10_year 192 = .ok (.ireturn, 1) := by decide +kernel
theorem dX10_keep_0 : decode cX10_keep 0 = .ok (.aload_n 0, 1) := by decide +kernel
theorem dX10_keep_1 : decode cX10_keep 1 = .ok (.getfield 91, 3) := by decide +kernel
theorem dX10_keep_4 : decode cX10_keep 4 = .ok (.iconst 2, 1) := by decide +kernel
theorem dX10_keep_5 : decode cX10_keep 5 = .ok (.if_icmp .ne 6, 3) := by decide +kernel
theorem dX10_keep_8 : decode cX10_keep 8 = .ok (.bipush (-3), 2) := by decide +kernel
theorem dX10_keep_10 : decode cX10_keep 10 = .ok (.ireturn, 1) := by decide +kernel
theorem dX10_keep_11 : decode cX10_keep 11 = .ok (.aload_n 0, 1) := by decide +kernel
theorem dX10_keep_12 : decode cX10_keep 12 = .ok (.iconst 0, 1) := by decide +kernel
theorem dX10_keep_13 : decode cX10_keep 13 = .ok (.bipush 116, 2) := by decide +kernel
theorem dX10_keep_15 : decode cX10_keep 15 = .ok (.bipush 58, 2) := by decide +kernel
theorem dX10_keep_17 : decode cX10_keep 17 = .ok (.aload_n 0, 1) := by decide +kernel
theorem dX10_keep_18 : decode cX10_keep 18 = .ok (.getfield 91, 3) := by decide +kernel
theorem dX10_keep_21 : decode cX10_keep 21 = .ok (.imul, 1) := by decide +kernel
theorem dX10_keep_22 : decode cX10_keep 22 = .ok (.iadd, 1) := by decide +kernel
theorem dX10_keep_23 : decode cX10_keep 23 = .ok (.invokevirtual 173, 3) := by decide +kernel
theorem dX10_keep_26 : decode cX10_keep 26 = .ok (.aload_n 0, 1) := by decide +kernel
theorem dX10_keep_27 : decode cX10_keep 27 = .ok (.dup, 1) := by decide +kernel
theorem dX10_keep_28 : decode cX10_keep 28 = .ok (.getfield 91, 3) := by decide +kernel
theorem dX10_keep_31 : decode cX10_keep 31 = .ok (.iconst 1, 1) := by decide +kernel
theorem dX10_keep_32 : decode cX10_keep 32 = .ok (.iadd, 1) := by decide +kernel
theorem dX10_keep_33 : decode cX10_keep 33 = .ok (.putfield 91, 3) := by decide +kernel
theorem dX10_keep_36 : decode cX10_keep 36 = .ok (.aload_n 0, 1) := by decide +kernel
theorem dX10_keep_37 : decode cX10_keep 37 = .ok (.getfield 91, 3) := by decide +kernel
theorem dX10_keep_40 : decode cX10_keep 40 = .ok (.ireturn, 1) := by decide +kernel
theorem dX10_back_0 : decode cX10_back 0 = .ok (.aload_n 0, 1) := by decide +kernel
theorem dX10_back_1 : decode cX10_back 1 = .ok (.getfield 91, 3) := by decide +kernel
theorem dX10_back_4 : decode cX10_back 4 = .ok (.ifCond .ne 6, 3) := by decide +kernel
theorem dX10_back_7 : decode cX10_back 7 = .ok (.bipush (-2), 2) := by decide +kernel
theorem dX10_back_9 : decode cX10_back 9 = .ok (.ireturn, 1) := by decide +kernel
theorem dX10_back_10 : decode cX10_back 10 = .ok (.aload_n 0, 1) := by decide +kernel
theorem dX10_back_11 : decode cX10_back 11 = .ok (.dup, 1) := by decide +kernel
theorem dX10_back_12 : decode cX10_back 12 = .ok (.getfield 91, 3) := by decide +kernel
theorem dX10_back_15 : decode cX10_back 15 = .ok (.iconst 1, 1) := by decide +kernel
theorem dX10_back_16 : decode cX10_back 16 = .ok (.isub, 1) := by decide +kernel
theorem dX10_back_17 : decode cX10_back 17 = .ok (.putfield 91, 3) := by decide +kernel
theorem dX10_back_20 : decode cX10_back 20 = .ok (.aload_n 0, 1) := by decide +kernel
theorem dX10_back_21 : decode cX10_back 21 = .ok (.bipush 116, 2) := by decide +kernel
theorem dX10_back_23 : decode cX10_back 23 = .ok (.bipush 58, 2) := by decide +kernel
theorem dX10_back_25 : decode cX10_back 25 = .ok (.aload_n 0, 1) := by decide +kernel
theorem dX10_back_26 : decode cX10_back 26 = .ok (.getfield 91, 3) := by decide +kernel
theorem dX10_back_29 : decode cX10_back 29 = .ok (.imul, 1) := by decide +kernel
theorem dX10_back_30 : decode cX10_back 30 = .ok (.iadd, 1) := by decide +kernel
theorem dX10_back_31 : decode cX10_back 31 = .ok (.iconst 0, 1) := by decide +kernel
theorem dX10_back_32 : decode cX10_back 32 = .ok (.invokevirtual 173, 3) := by decide +kernel
theorem dX10_back_35 : decode cX10_back 35 = .ok (.aload_n 0, 1) := by decide +kernel
theorem dX10_back_36 : decode cX10_back 36 = .ok (.iconst 0, 1) := by decide +kernel
theorem dX10_back_37 : decode cX10_back 37 = .ok (.putfield 88, 3) := by decide +kernel
theorem dX10_back_40 : decode cX10_back 40 = .ok (.aload_n 0, 1) := by decide +kernel
theorem dX10_back_41 : decode cX10_back 41 = .ok (.getfield 91, 3) := by decide +kernel
theorem dX10_back_44 : decode cX10_back 44 = .ok (.ireturn, 1) := by decide +kernel
theorem dX10_wornOfAll_0 : decode cX10_wornOfAll 0 = .ok (.iconst 0, 1) := by decide +kernel
theorem dX10_wornOfAll_1 : decode cX10_wornOfAll 1 = .ok (.istore_n 1, 1) := by decide +kernel
theorem dX10_wornOfAll_2 : decode cX10_wornOfAll 2 = .ok (.iconst 0, 1) := by decide +kernel
theorem dX10_wornOfAll_3 : decode cX10_wornOfAll 3 = .ok (.istore_n 2, 1) := by decide +kernel
theorem dX10_wornOfAll_4 : decode cX10_wornOfAll 4 = .ok (.iload_n 2, 1) := by decide +kernel
theorem dX10_wornOfAll_5 : decode cX10_wornOfAll 5 = .ok (.aload_n 0, 1) := by decide +kernel
theorem dX10_wornOfAll_6 : decode cX10_wornOfAll 6 = .ok (.getfield 73, 3) := by decide +kernel
theorem dX10_wornOfAll_9 : decode cX10_wornOfAll 9 = .ok (.if_icmp .ge 20, 3) := by decide +kernel
theorem dX10_wornOfAll_12 : decode cX10_wornOfAll 12 = .ok (.iload_n 1, 1) := by decide +kernel
theorem dX10_wornOfAll_13 : decode cX10_wornOfAll 13 = .ok (.aload_n 0, 1) := by decide +kernel
theorem dX10_wornOfAll_14 : decode cX10_wornOfAll 14 = .ok (.getfield 7, 3) := by decide +kernel
theorem dX10_wornOfAll_17 : decode cX10_wornOfAll 17 = .ok (.iconst 1, 1) := by decide +kernel
theorem dX10_wornOfAll_18 : decode cX10_wornOfAll 18 = .ok (.iload_n 2, 1) := by decide +kernel
theorem dX10_wornOfAll_19 : decode cX10_wornOfAll 19 = .ok (.iadd, 1) := by decide +kernel
theorem dX10_wornOfAll_20 : decode cX10_wornOfAll 20 = .ok (.iaload, 1) := by decide +kernel
theorem dX10_wornOfAll_21 : decode cX10_wornOfAll 21 = .ok (.iadd, 1) := by decide +kernel
theorem dX10_wornOfAll_22 : decode cX10_wornOfAll 22 = .ok (.istore_n 1, 1) := by decide +kernel
theorem dX10_wornOfAll_23 : decode cX10_wornOfAll 23 = .ok (.iinc 2 1, 3) := by decide +kernel
theorem dX10_wornOfAll_26 : decode cX10_wornOfAll 26 = .ok (.goto (-22), 3) := by decide +kernel
theorem dX10_wornOfAll_29 : decode cX10_wornOfAll 29 = .ok (.iload_n 1, 1) := by decide +kernel
theorem dX10_wornOfAll_30 : decode cX10_wornOfAll 30 = .ok (.ireturn, 1) := by decide +kernel
theorem dX10_count_0 : decode cX10_count 0 = .ok (.iload_n 1, 1) := by decide +kernel
theorem dX10_count_1 : decode cX10_count 1 = .ok (.tableswitch 118 0 10 #[59, 64, 69, 74, 81, 87, 92, 98, 103, 108, 113], 59) := by decide +kernel
theorem dX10_count_60 : decode cX10_count 60 = .ok (.aload_n 0, 1) := by decide +kernel
theorem dX10_count_61 : decode cX10_count 61 = .ok (.getfield 66, 3) := by decide +kernel
theorem dX10_count_64 : decode cX10_count 64 = .ok (.ireturn, 1) := by decide +kernel
theorem dX10_count_65 : decode cX10_count 65 = .ok (.aload_n 0, 1) := by decide +kernel
theorem dX10_count_66 : decode cX10_count 66 = .ok (.getfield 73, 3) := by decide +kernel
theorem dX10_count_69 : decode cX10_count 69 = .ok (.ireturn, 1) := by decide +kernel
theorem dX10_count_70 : decode cX10_count 70 = .ok (.aload_n 0, 1) := by decide +kernel
theorem dX10_count_71 : decode cX10_count 71 = .ok (.getfield 76, 3) := by decide +kernel
theorem dX10_count_74 : decode cX10_count 74 = .ok (.ireturn, 1) := by decide +kernel
theorem dX10_count_75 : decode cX10_count 75 = .ok (.aload_n 0, 1) := by decide +kernel
theorem dX10_count_76 : decode cX10_count 76 = .ok (.getfield 7, 3) := by decide +kernel
theorem dX10_count_79 : decode cX10_count 79 = .ok (.iconst 0, 1) := by decide +kernel
theorem dX10_count_80 : decode cX10_count 80 = .ok (.iaload, 1) := by decide +kernel
theorem dX10_count_81 : decode cX10_count 81 = .ok (.ireturn, 1) := by decide +kernel
theorem dX10_count_82 : decode cX10_count 82 = .ok (.aload_n 0, 1) := by decide +kernel
theorem dX10_count_83 : decode cX10_count 83 = .ok (.iconst 0, 1) := by decide +kernel
theorem dX10_count_84 : decode cX10_count 84 = .ok (.invokevirtual 259, 3) := by decide +kernel
theorem dX10_count_87 : decode cX10_count 87 = .ok (.ireturn, 1) := by decide +kernel
theorem dX10_count_88 : decode cX10_count 88 = .ok (.aload_n 0, 1) := by decide +kernel
theorem dX10_count_89 : decode cX10_count 89 = .ok (.invokevirtual 262, 3) := by decide +kernel
theorem dX10_count_92 : decode cX10_count 92 = .ok (.ireturn, 1) := by decide +kernel
theorem dX10_count_93 : decode cX10_count 93 = .ok (.aload_n 0, 1) := by decide +kernel
theorem dX10_count_94 : decode cX10_count 94 = .ok (.iconst 0, 1) := by decide +kernel
theorem dX10_count_95 : decode cX10_count 95 = .ok (.invokevirtual 256, 3) := by decide +kernel
theorem dX10_count_98 : decode cX10_count 98 = .ok (.ireturn, 1) := by decide +kernel
theorem dX10_count_99 : decode cX10_count 99 = .ok (.aload_n 0, 1) := by decide +kernel
theorem dX10_count_100 : decode cX10_count 100 = .ok (.getfield 94, 3) := by decide +kernel
theorem dX10_count_103 : decode cX10_count 103 = .ok (.ireturn, 1) := by decide +kernel
theorem dX10_count_104 : decode cX10_count 104 = .ok (.aload_n 0, 1) := by decide +kernel
theorem dX10_count_105 : decode cX10_count 105 = .ok (.getfield 88, 3) := by decide +kernel
theorem dX10_count_108 : decode cX10_count 108 = .ok (.ireturn, 1) := by decide +kernel
theorem dX10_count_109 : decode cX10_count 109 = .ok (.aload_n 0, 1) := by decide +kernel
theorem dX10_count_110 : decode cX10_count 110 = .ok (.getfield 91, 3) := by decide +kernel
theorem dX10_count_113 : decode cX10_count 113 = .ok (.ireturn, 1) := by decide +kernel
theorem dX10_count_114 : decode cX10_count 114 = .ok (.aload_n 0, 1) := by decide +kernel
theorem dX10_count_115 : decode cX10_count 115 = .ok (.getfield 101, 3) := by decide +kernel
theorem dX10_count_118 : decode cX10_count 118 = .ok (.ireturn, 1) := by decide +kernel
theorem dX10_count_119 : decode cX10_count 119 = .ok (.iconst (-1), 1) := by decide +kernel
theorem dX10_count_120 : decode cX10_count 120 = .ok (.ireturn, 1) := by decide +kernel
theorem dJ6_bitCount_0f7a4_0 : decode cJ6_bitCount_0f7a4 0 = .ok (.iload_n 0, 1) := by decide +kernel
theorem dJ6_bitCount_0f7a4_1 : decode cJ6_bitCount_0f7a4 1 = .ok (.iload_n 0, 1) := by decide +kernel
theorem dJ6_bitCount_0f7a4_2 : decode cJ6_bitCount_0f7a4 2 = .ok (.iconst 1, 1) := by decide +kernel
theorem dJ6_bitCount_0f7a4_3 : decode cJ6_bitCount_0f7a4 3 = .ok (.iushr, 1) := by decide +kernel
theorem dJ6_bitCount_0f7a4_4 : decode cJ6_bitCount_0f7a4 4 = .ok (.ldc_w 265, 3) := by decide +kernel
theorem dJ6_bitCount_0f7a4_7 : decode cJ6_bitCount_0f7a4 7 = .ok (.iand, 1) := by decide +kernel
theorem dJ6_bitCount_0f7a4_8 : decode cJ6_bitCount_0f7a4 8 = .ok (.isub, 1) := by decide +kernel
theorem dJ6_bitCount_0f7a4_9 : decode cJ6_bitCount_0f7a4 9 = .ok (.istore_n 0, 1) := by decide +kernel
theorem dJ6_bitCount_0f7a4_10 : decode cJ6_bitCount_0f7a4 10 = .ok (.iload_n 0, 1) := by decide +kernel
theorem dJ6_bitCount_0f7a4_11 : decode cJ6_bitCount_0f7a4 11 = .ok (.ldc_w 266, 3) := by decide +kernel
theorem dJ6_bitCount_0f7a4_14 : decode cJ6_bitCount_0f7a4 14 = .ok (.iand, 1) := by decide +kernel
theorem dJ6_bitCount_0f7a4_15 : decode cJ6_bitCount_0f7a4 15 = .ok (.iload_n 0, 1) := by decide +kernel
theorem dJ6_bitCount_0f7a4_16 : decode cJ6_bitCount_0f7a4 16 = .ok (.iconst 2, 1) := by decide +kernel
theorem dJ6_bitCount_0f7a4_17 : decode cJ6_bitCount_0f7a4 17 = .ok (.iushr, 1) := by decide +kernel
theorem dJ6_bitCount_0f7a4_18 : decode cJ6_bitCount_0f7a4 18 = .ok (.ldc_w 266, 3) := by decide +kernel
theorem dJ6_bitCount_0f7a4_21 : decode cJ6_bitCount_0f7a4 21 = .ok (.iand, 1) := by decide +kernel
theorem dJ6_bitCount_0f7a4_22 : decode cJ6_bitCount_0f7a4 22 = .ok (.iadd, 1) := by decide +kernel
theorem dJ6_bitCount_0f7a4_23 : decode cJ6_bitCount_0f7a4 23 = .ok (.istore_n 0, 1) := by decide +kernel
theorem dJ6_bitCount_0f7a4_24 : decode cJ6_bitCount_0f7a4 24 = .ok (.iload_n 0, 1) := by decide +kernel
theorem dJ6_bitCount_0f7a4_25 : decode cJ6_bitCount_0f7a4 25 = .ok (.iload_n 0, 1) := by decide +kernel
theorem dJ6_bitCount_0f7a4_26 : decode cJ6_bitCount_0f7a4 26 = .ok (.iconst 4, 1) := by decide +kernel
theorem dJ6_bitCount_0f7a4_27 : decode cJ6_bitCount_0f7a4 27 = .ok (.iushr, 1) := by decide +kernel
theorem dJ6_bitCount_0f7a4_28 : decode cJ6_bitCount_0f7a4 28 = .ok (.iadd, 1) := by decide +kernel
theorem dJ6_bitCount_0f7a4_29 : decode cJ6_bitCount_0f7a4 29 = .ok (.ldc_w 267, 3) := by decide +kernel
theorem dJ6_bitCount_0f7a4_32 : decode cJ6_bitCount_0f7a4 32 = .ok (.iand, 1) := by decide +kernel
theorem dJ6_bitCount_0f7a4_33 : decode cJ6_bitCount_0f7a4 33 = .ok (.istore_n 0, 1) := by decide +kernel
theorem dJ6_bitCount_0f7a4_34 : decode cJ6_bitCount_0f7a4 34 = .ok (.iload_n 0, 1) := by decide +kernel
theorem dJ6_bitCount_0f7a4_35 : decode cJ6_bitCount_0f7a4 35 = .ok (.iload_n 0, 1) := by decide +kernel
theorem dJ6_bitCount_0f7a4_36 : decode cJ6_bitCount_0f7a4 36 = .ok (.bipush 8, 2) := by decide +kernel
theorem dJ6_bitCount_0f7a4_38 : decode cJ6_bitCount_0f7a4 38 = .ok (.iushr, 1) := by decide +kernel
theorem dJ6_bitCount_0f7a4_39 : decode cJ6_bitCount_0f7a4 39 = .ok (.iadd, 1) := by decide +kernel
theorem dJ6_bitCount_0f7a4_40 : decode cJ6_bitCount_0f7a4 40 = .ok (.istore_n 0, 1) := by decide +kernel
theorem dJ6_bitCount_0f7a4_41 : decode cJ6_bitCount_0f7a4 41 = .ok (.iload_n 0, 1) := by decide +kernel
theorem dJ6_bitCount_0f7a4_42 : decode cJ6_bitCount_0f7a4 42 = .ok (.iload_n 0, 1) := by decide +kernel
theorem dJ6_bitCount_0f7a4_43 : decode cJ6_bitCount_0f7a4 43 = .ok (.bipush 16, 2) := by decide +kernel
theorem dJ6_bitCount_0f7a4_45 : decode cJ6_bitCount_0f7a4 45 = .ok (.iushr, 1) := by decide +kernel
theorem dJ6_bitCount_0f7a4_46 : decode cJ6_bitCount_0f7a4 46 = .ok (.iadd, 1) := by decide +kernel
theorem dJ6_bitCount_0f7a4_47 : decode cJ6_bitCount_0f7a4 47 = .ok (.istore_n 0, 1) := by decide +kernel
theorem dJ6_bitCount_0f7a4_48 : decode cJ6_bitCount_0f7a4 48 = .ok (.iload_n 0, 1) := by decide +kernel
theorem dJ6_bitCount_0f7a4_49 : decode cJ6_bitCount_0f7a4 49 = .ok (.bipush 63, 2) := by decide +kernel
theorem dJ6_bitCount_0f7a4_51 : decode cJ6_bitCount_0f7a4 51 = .ok (.iand, 1) := by decide +kernel
theorem dJ6_bitCount_0f7a4_52 : decode cJ6_bitCount_0f7a4 52 = .ok (.ireturn, 1) := by decide +kernel
theorem dL_law_0 : decode cL_law 0 = .ok (.new 7, 3) := by decide +kernel
theorem dL_law_3 : decode cL_law 3 = .ok (.dup, 1) := by decide +kernel
theorem dL_law_4 : decode cL_law 4 = .ok (.invokespecial 9, 3) := by decide +kernel
theorem dL_law_7 : decode cL_law 7 = .ok (.astore_n 1, 1) := by decide +kernel
theorem dL_law_8 : decode cL_law 8 = .ok (.new 10, 3) := by decide +kernel
theorem dL_law_11 : decode cL_law 11 = .ok (.dup, 1) := by decide +kernel
theorem dL_law_12 : decode cL_law 12 = .ok (.invokespecial 12, 3) := by decide +kernel
theorem dL_law_15 : decode cL_law 15 = .ok (.astore_n 2, 1) := by decide +kernel
theorem dL_law_16 : decode cL_law 16 = .ok (.iconst 0, 1) := by decide +kernel
theorem dL_law_17 : decode cL_law 17 = .ok (.istore_n 3, 1) := by decide +kernel
theorem dL_law_18 : decode cL_law 18 = .ok (.iload_n 3, 1) := by decide +kernel
theorem dL_law_19 : decode cL_law 19 = .ok (.aload_n 0, 1) := by decide +kernel
theorem dL_law_20 : decode cL_law 20 = .ok (.arraylength, 1) := by decide +kernel
theorem dL_law_21 : decode cL_law 21 = .ok (.bipush 6, 2) := by decide +kernel
theorem dL_law_23 : decode cL_law 23 = .ok (.isub, 1) := by decide +kernel
theorem dL_law_24 : decode cL_law 24 = .ok (.if_icmp .gt 812, 3) := by decide +kernel
theorem dL_law_27 : decode cL_law 27 = .ok (.aload_n 0, 1) := by decide +kernel
theorem dL_law_28 : decode cL_law 28 = .ok (.iload_n 3, 1) := by decide +kernel
theorem dL_law_29 : decode cL_law 29 = .ok (.iaload, 1) := by decide +kernel
theorem dL_law_30 : decode cL_law 30 = .ok (.bipush 31, 2) := by decide +kernel
theorem dL_law_32 : decode cL_law 32 = .ok (.iand, 1) := by decide +kernel
theorem dL_law_33 : decode cL_law 33 = .ok (.tableswitch 797 0 25 #[119, 142, 155, 168, 181, 214, 247, 280, 313, 336, 359, 372, 415, 438, 461, 484, 517, 530, 563, 576, 599, 642, 705, 748, 761, 774], 119) := by decide +kernel
theorem dL_law_152 : decode cL_law 152 = .ok (.aload_n 1, 1) := by decide +kernel
theorem dL_law_153 : decode cL_law 153 = .ok (.aload_n 0, 1) := by decide +kernel
theorem dL_law_154 : decode cL_law 154 = .ok (.iload_n 3, 1) := by decide +kernel
theorem dL_law_155 : decode cL_law 155 = .ok (.iconst 1, 1) := by decide +kernel
theorem dL_law_156 : decode cL_law 156 = .ok (.iadd, 1) := by decide +kernel
theorem dL_law_157 : decode cL_law 157 = .ok (.iaload, 1) := by decide +kernel
theorem dL_law_158 : decode cL_law 158 = .ok (.invokevirtual 13, 3) := by decide +kernel
theorem dL_law_161 : decode cL_law 161 = .ok (.aload_n 2, 1) := by decide +kernel
theorem dL_law_162 : decode cL_law 162 = .ok (.aload_n 0, 1) := by decide +kernel
theorem dL_law_163 : decode cL_law 163 = .ok (.iload_n 3, 1) := by decide +kernel
theorem dL_law_164 : decode cL_law 164 = .ok (.iconst 1, 1) := by decide +kernel
theorem dL_law_165 : decode cL_law 165 = .ok (.iadd, 1) := by decide +kernel
theorem dL_law_166 : decode cL_law 166 = .ok (.iaload, 1) := by decide +kernel
theorem dL_law_167 : decode cL_law 167 = .ok (.invokevirtual 17, 3) := by decide +kernel
theorem dL_law_170 : decode cL_law 170 = .ok (.if_icmp .eq 660, 3) := by decide +kernel
theorem dL_law_173 : decode cL_law 173 = .ok (.iconst 0, 1) := by decide +kernel
theorem dL_law_174 : decode cL_law 174 = .ok (.ireturn, 1) := by decide +kernel
theorem dL_law_175 : decode cL_law 175 = .ok (.aload_n 1, 1) := by decide +kernel
theorem dL_law_176 : decode cL_law 176 = .ok (.invokevirtual 18, 3) := by decide +kernel
theorem dL_law_179 : decode cL_law 179 = .ok (.aload_n 2, 1) := by decide +kernel
theorem dL_law_180 : decode cL_law 180 = .ok (.invokevirtual 22, 3) := by decide +kernel
theorem dL_law_183 : decode cL_law 183 = .ok (.if_icmp .eq 647, 3) := by decide +kernel
theorem dL_law_186 : decode cL_law 186 = .ok (.iconst 0, 1) := by decide +kernel
theorem dL_law_187 : decode cL_law 187 = .ok (.ireturn, 1) := by decide +kernel
theorem dL_law_188 : decode cL_law 188 = .ok (.aload_n 1, 1) := by decide +kernel
theorem dL_law_189 : decode cL_law 189 = .ok (.invokevirtual 23, 3) := by decide +kernel
theorem dL_law_192 : decode cL_law 192 = .ok (.aload_n 2, 1) := by decide +kernel
theorem dL_law_193 : decode cL_law 193 = .ok (.invokevirtual 26, 3) := by decide +kernel
theorem dL_law_196 : decode cL_law 196 = .ok (.if_icmp .eq 634, 3) := by decide +kernel
theorem dL_law_199 : decode cL_law 199 = .ok (.iconst 0, 1) := by decide +kernel
theorem dL_law_200 : decode cL_law 200 = .ok (.ireturn, 1) := by decide +kernel
theorem dL_law_201 : decode cL_law 201 = .ok (.aload_n 1, 1) := by decide +kernel
theorem dL_law_202 : decode cL_law 202 = .ok (.invokevirtual 27, 3) := by decide +kernel
theorem dL_law_205 : decode cL_law 205 = .ok (.aload_n 2, 1) := by decide +kernel
theorem dL_law_206 : decode cL_law 206 = .ok (.invokevirtual 30, 3) := by decide +kernel
theorem dL_law_209 : decode cL_law 209 = .ok (.if_icmp .eq 621, 3) := by decide +kernel
theorem dL_law_212 : decode cL_law 212 = .ok (.iconst 0, 1) := by decide +kernel
theorem dL_law_213 : decode cL_law 213 = .ok (.ireturn, 1) := by decide +kernel
theorem dL_law_214 : decode cL_law 214 = .ok (.aload_n 1, 1) := by decide +kernel
theorem dL_law_215 : decode cL_law 215 = .ok (.aload_n 0, 1) := by decide +kernel
theorem dL_law_216 : decode cL_law 216 = .ok (.iload_n 3, 1) := by decide +kernel
theorem dL_law_217 : decode cL_law 217 = .ok (.iconst 1, 1) := by decide +kernel
theorem dL_law_218 : decode cL_law 218 = .ok (.iadd, 1) := by decide +kernel
theorem dL_law_219 : decode cL_law 219 = .ok (.iaload, 1) := by decide +kernel
theorem dL_law_220 : decode cL_law 220 = .ok (.aload_n 0, 1) := by decide +kernel
theorem dL_law_221 : decode cL_law 221 = .ok (.iload_n 3, 1) := by decide +kernel
theorem dL_law_222 : decode cL_law 222 = .ok (.iconst 2, 1) := by decide +kernel
theorem dL_law_223 : decode cL_law 223 = .ok (.iadd, 1) := by decide +kernel
theorem dL_law_224 : decode cL_law 224 = .ok (.iaload, 1) := by decide +kernel
theorem dL_law_225 : decode cL_law 225 = .ok (.invokevirtual 31, 3) := by decide +kernel
theorem dL_law_228 : decode cL_law 228 = .ok (.aload_n 2, 1) := by decide +kernel
theorem dL_law_229 : decode cL_law 229 = .ok (.aload_n 0, 1) := by decide +kernel
theorem dL_law_230 : decode cL_law 230 = .ok (.iload_n 3, 1) := by decide +kernel
theorem dL_law_231 : decode cL_law 231 = .ok (.iconst 1, 1) := by decide +kernel
theorem dL_law_232 : decode cL_law 232 = .ok (.iadd, 1) := by decide +kernel
theorem dL_law_233 : decode cL_law 233 = .ok (.iaload, 1) := by decide +kernel
theorem dL_law_234 : decode cL_law 234 = .ok (.aload_n 0, 1) := by decide +kernel
theorem dL_law_235 : decode cL_law 235 = .ok (.iload_n 3, 1) := by decide +kernel
theorem dL_law_236 : decode cL_law 236 = .ok (.iconst 2, 1) := by decide +kernel
theorem dL_law_237 : decode cL_law 237 = .ok (.iadd, 1) := by decide +kernel
theorem dL_law_238 : decode cL_law 238 = .ok (.iaload, 1) := by decide +kernel
theorem dL_law_239 : decode cL_law 239 = .ok (.invokevirtual 35, 3) := by decide +kernel
theorem dL_law_242 : decode cL_law 242 = .ok (.if_icmp .eq 588, 3) := by decide +kernel
theorem dL_law_245 : decode cL_law 245 = .ok (.iconst 0, 1) := by decide +kernel
theorem dL_law_246 : decode cL_law 246 = .ok (.ireturn, 1) := by decide +kernel
theorem dL_law_247 : decode cL_law 247 = .ok (.aload_n 1, 1) := by decide +kernel
theorem dL_law_248 : decode cL_law 248 = .ok (.aload_n 0, 1) := by decide +kernel
theorem dL_law_249 : decode cL_law 249 = .ok (.iload_n 3, 1) := by decide +kernel
theorem dL_law_250 : decode cL_law 250 = .ok (.iconst 1, 1) := by decide +kernel
theorem dL_law_251 : decode cL_law 251 = .ok (.iadd, 1) := by decide +kernel
theorem dL_law_252 : decode cL_law 252 = .ok (.iaload, 1) := by decide +kernel
theorem dL_law_253 : decode cL_law 253 = .ok (.aload_n 0, 1) := by decide +kernel
theorem dL_law_254 : decode cL_law 254 = .ok (.iload_n 3, 1) := by decide +kernel
theorem dL_law_255 : decode cL_law 255 = .ok (.iconst 2, 1) := by decide +kernel
theorem dL_law_256 : decode cL_law 256 = .ok (.iadd, 1) := by decide +kernel
theorem dL_law_257 : decode cL_law 257 = .ok (.iaload, 1) := by decide +kernel
theorem dL_law_258 : decode cL_law 258 = .ok (.invokevirtual 36, 3) := by decide +kernel
theorem dL_law_261 : decode cL_law 261 = .ok (.aload_n 2, 1) := by decide +kernel
theorem dL_law_262 : decode cL_law 262 = .ok (.aload_n 0, 1) := by decide +kernel
theorem dL_law_263 : decode cL_law 263 = .ok (.iload_n 3, 1) := by decide +kernel
theorem dL_law_264 : decode cL_law 264 = .ok (.iconst 1, 1) := by decide +kernel
theorem dL_law_265 : decode cL_law 265 = .ok (.iadd, 1) := by decide +kernel
theorem dL_law_266 : decode cL_law 266 = .ok (.iaload, 1) := by decide +kernel
theorem dL_law_267 : decode cL_law 267 = .ok (.aload_n 0, 1) := by decide +kernel
theorem dL_law_268 : decode cL_law 268 = .ok (.iload_n 3, 1) := by decide +kernel
theorem dL_law_269 : decode cL_law 269 = .ok (.iconst 2, 1) := by decide +kernel
theorem dL_law_270 : decode cL_law 270 = .ok (.iadd, 1) := by decide +kernel
theorem dL_law_271 : decode cL_law 271 = .ok (.iaload, 1) := by decide +kernel
theorem dL_law_272 : decode cL_law 272 = .ok (.invokevirtual 39, 3) := by decide +kernel
theorem dL_law_275 : decode cL_law 275 = .ok (.if_icmp .eq 555, 3) := by decide +kernel
theorem dL_law_278 : decode cL_law 278 = .ok (.iconst 0, 1) := by decide +kernel
theorem dL_law_279 : decode cL_law 279 = .ok (.ireturn, 1) := by decide +kernel
theorem dL_law_280 : decode cL_law 280 = .ok (.aload_n 1, 1) := by decide +kernel
theorem dL_law_281 : decode cL_law 281 = .ok (.aload_n 0, 1) := by decide +kernel
theorem dL_law_282 : decode cL_law 282 = .ok (.iload_n 3, 1) := by decide +kernel
theorem dL_law_283 : decode cL_law 283 = .ok (.iconst 1, 1) := by decide +kernel
theorem dL_law_284 : decode cL_law 284 = .ok (.iadd, 1) := by decide +kernel
theorem dL_law_285 : decode cL_law 285 = .ok (.iaload, 1) := by decide +kernel
theorem dL_law_286 : decode cL_law 286 = .ok (.aload_n 0, 1) := by decide +kernel
theorem dL_law_287 : decode cL_law 287 = .ok (.iload_n 3, 1) := by decide +kernel
theorem dL_law_288 : decode cL_law 288 = .ok (.iconst 2, 1) := by decide +kernel
theorem dL_law_289 : decode cL_law 289 = .ok (.iadd, 1) := by decide +kernel
theorem dL_law_290 : decode cL_law 290 = .ok (.iaload, 1) := by decide +kernel
theorem dL_law_291 : decode cL_law 291 = .ok (.invokevirtual 40, 3) := by decide +kernel
theorem dL_law_294 : decode cL_law 294 = .ok (.aload_n 2, 1) := by decide +kernel
theorem dL_law_295 : decode cL_law 295 = .ok (.aload_n 0, 1) := by decide +kernel
theorem dL_law_296 : decode cL_law 296 = .ok (.iload_n 3, 1) := by decide +kernel
theorem dL_law_297 : decode cL_law 297 = .ok (.iconst 1, 1) := by decide +kernel
theorem dL_law_298 : decode cL_law 298 = .ok (.iadd, 1) := by decide +kernel
theorem dL_law_299 : decode cL_law 299 = .ok (.iaload, 1) := by decide +kernel
theorem dL_law_300 : decode cL_law 300 = .ok (.aload_n 0, 1) := by decide +kernel
theorem dL_law_301 : decode cL_law 301 = .ok (.iload_n 3, 1) := by decide +kernel
theorem dL_law_302 : decode cL_law 302 = .ok (.iconst 2, 1) := by decide +kernel
theorem dL_law_303 : decode cL_law 303 = .ok (.iadd, 1) := by decide +kernel
theorem dL_law_304 : decode cL_law 304 = .ok (.iaload, 1) := by decide +kernel
theorem dL_law_305 : decode cL_law 305 = .ok (.invokevirtual 43, 3) := by decide +kernel
theorem dL_law_308 : decode cL_law 308 = .ok (.if_icmp .eq 522, 3) := by decide +kernel
theorem dL_law_311 : decode cL_law 311 = .ok (.iconst 0, 1) := by decide +kernel
theorem dL_law_312 : decode cL_law 312 = .ok (.ireturn, 1) := by decide +kernel
theorem dL_law_313 : decode cL_law 313 = .ok (.aload_n 1, 1) := by decide +kernel
theorem dL_law_314 : decode cL_law 314 = .ok (.aload_n 0, 1) := by decide +kernel
theorem dL_law_315 : decode cL_law 315 = .ok (.iload_n 3, 1) := by decide +kernel
theorem dL_law_316 : decode cL_law 316 = .ok (.iconst 1, 1) := by decide +kernel
theorem dL_law_317 : decode cL_law 317 = .ok (.iadd, 1) := by decide +kernel
theorem dL_law_318 : decode cL_law 318 = .ok (.iaload, 1) := by decide +kernel
theorem dL_law_319 : decode cL_law 319 = .ok (.aload_n 0, 1) := by decide +kernel
theorem dL_law_320 : decode cL_law 320 = .ok (.iload_n 3, 1) := by decide +kernel
theorem dL_law_321 : decode cL_law 321 = .ok (.iconst 2, 1) := by decide +kernel
theorem dL_law_322 : decode cL_law 322 = .ok (.iadd, 1) := by decide +kernel
theorem dL_law_323 : decode cL_law 323 = .ok (.iaload, 1) := by decide +kernel
theorem dL_law_324 : decode cL_law 324 = .ok (.invokevirtual 44, 3) := by decide +kernel
theorem dL_law_327 : decode cL_law 327 = .ok (.aload_n 2, 1) := by decide +kernel
theorem dL_law_328 : decode cL_law 328 = .ok (.aload_n 0, 1) := by decide +kernel
theorem dL_law_329 : decode cL_law 329 = .ok (.iload_n 3, 1) := by decide +kernel
theorem dL_law_330 : decode cL_law 330 = .ok (.iconst 1, 1) := by decide +kernel
theorem dL_law_331 : decode cL_law 331 = .ok (.iadd, 1) := by decide +kernel
theorem dL_law_332 : decode cL_law 332 = .ok (.iaload, 1) := by decide +kernel
theorem dL_law_333 : decode cL_law 333 = .ok (.aload_n 0, 1) := by decide +kernel
theorem dL_law_334 : decode cL_law 334 = .ok (.iload_n 3, 1) := by decide +kernel
theorem dL_law_335 : decode cL_law 335 = .ok (.iconst 2, 1) := by decide +kernel
theorem dL_law_336 : decode cL_law 336 = .ok (.iadd, 1) := by decide +kernel
theorem dL_law_337 : decode cL_law 337 = .ok (.iaload, 1) := by decide +kernel
theorem dL_law_338 : decode cL_law 338 = .ok (.invokevirtual 47, 3) := by decide +kernel
theorem dL_law_341 : decode cL_law 341 = .ok (.if_icmp .eq 489, 3) := by decide +kernel
theorem dL_law_344 : decode cL_law 344 = .ok (.iconst 0, 1) := by decide +kernel
theorem dL_law_345 : decode cL_law 345 = .ok (.ireturn, 1) := by decide +kernel
theorem dL_law_346 : decode cL_law 346 = .ok (.aload_n 1, 1) := by decide +kernel
theorem dL_law_347 : decode cL_law 347 = .ok (.aload_n 0, 1) := by decide +kernel
theorem dL_law_348 : decode cL_law 348 = .ok (.iload_n 3, 1) := by decide +kernel
theorem dL_law_349 : decode cL_law 349 = .ok (.iconst 1, 1) := by decide +kernel
theorem dL_law_350 : decode cL_law 350 = .ok (.iadd, 1) := by decide +kernel
theorem dL_law_351 : decode cL_law 351 = .ok (.iaload, 1) := by decide +kernel
theorem dL_law_352 : decode cL_law 352 = .ok (.invokevirtual 48, 3) := by decide +kernel
theorem dL_law_355 : decode cL_law 355 = .ok (.aload_n 2, 1) := by decide +kernel
theorem dL_law_356 : decode cL_law 356 = .ok (.aload_n 0, 1) := by decide +kernel
theorem dL_law_357 : decode cL_law 357 = .ok (.iload_n 3, 1) := by decide +kernel
theorem dL_law_358 : decode cL_law 358 = .ok (.iconst 1, 1) := by decide +kernel
theorem dL_law_359 : decode cL_law 359 = .ok (.iadd, 1) := by decide +kernel
theorem dL_law_360 : decode cL_law 360 = .ok (.iaload, 1) := by decide +kernel
theorem dL_law_361 : decode cL_law 361 = .ok (.invokevirtual 51, 3) := by decide +kernel
theorem dL_law_364 : decode cL_law 364 = .ok (.if_icmp .eq 466, 3) := by decide +kernel
theorem dL_law_367 : decode cL_law 367 = .ok (.iconst 0, 1) := by decide +kernel
theorem dL_law_368 : decode cL_law 368 = .ok (.ireturn, 1) := by decide +kernel
theorem dL_law_369 : decode cL_law 369 = .ok (.aload_n 1, 1) := by decide +kernel
theorem dL_law_370 : decode cL_law 370 = .ok (.aload_n 0, 1) := by decide +kernel
theorem dL_law_371 : decode cL_law 371 = .ok (.iload_n 3, 1) := by decide +kernel
theorem dL_law_372 : decode cL_law 372 = .ok (.iconst 1, 1) := by decide +kernel
theorem dL_law_373 : decode cL_law 373 = .ok (.iadd, 1) := by decide +kernel
theorem dL_law_374 : decode cL_law 374 = .ok (.iaload, 1) := by decide +kernel
theorem dL_law_375 : decode cL_law 375 = .ok (.invokevirtual 52, 3) := by decide +kernel
theorem dL_law_378 : decode cL_law 378 = .ok (.aload_n 2, 1) := by decide +kernel
theorem dL_law_379 : decode cL_law 379 = .ok (.aload_n 0, 1) := by decide +kernel
theorem dL_law_380 : decode cL_law 380 = .ok (.iload_n 3, 1) := by decide +kernel
theorem dL_law_381 : decode cL_law 381 = .ok (.iconst 1, 1) := by decide +kernel
theorem dL_law_382 : decode cL_law 382 = .ok (.iadd, 1) := by decide +kernel
theorem dL_law_383 : decode cL_law 383 = .ok (.iaload, 1) := by decide +kernel
theorem dL_law_384 : decode cL_law 384 = .ok (.invokevirtual 55, 3) := by decide +kernel
theorem dL_law_387 : decode cL_law 387 = .ok (.if_icmp .eq 443, 3) := by decide +kernel
theorem dL_law_390 : decode cL_law 390 = .ok (.iconst 0, 1) := by decide +kernel
theorem dL_law_391 : decode cL_law 391 = .ok (.ireturn, 1) := by decide +kernel
theorem dL_law_392 : decode cL_law 392 = .ok (.aload_n 1, 1) := by decide +kernel
theorem dL_law_393 : decode cL_law 393 = .ok (.invokevirtual 56, 3) := by decide +kernel
theorem dL_law_396 : decode cL_law 396 = .ok (.aload_n 2, 1) := by decide +kernel
theorem dL_law_397 : decode cL_law 397 = .ok (.invokevirtual 59, 3) := by decide +kernel
theorem dL_law_400 : decode cL_law 400 = .ok (.if_icmp .eq 430, 3) := by decide +kernel
theorem dL_law_403 : decode cL_law 403 = .ok (.iconst 0, 1) := by decide +kernel
theorem dL_law_404 : decode cL_law 404 = .ok (.ireturn, 1) := by decide +kernel
theorem dL_law_405 : decode cL_law 405 = .ok (.aload_n 1, 1) := by decide +kernel
theorem dL_law_406 : decode cL_law 406 = .ok (.aload_n 0, 1) := by decide +kernel
theorem dL_law_407 : decode cL_law 407 = .ok (.iload_n 3, 1) := by decide +kernel
theorem dL_law_408 : decode cL_law 408 = .ok (.iconst 1, 1) := by decide +kernel
theorem dL_law_409 : decode cL_law 409 = .ok (.iadd, 1) := by decide +kernel
theorem dL_law_410 : decode cL_law 410 = .ok (.iaload, 1) := by decide +kernel
theorem dL_law_411 : decode cL_law 411 = .ok (.aload_n 0, 1) := by decide +kernel
theorem dL_law_412 : decode cL_law 412 = .ok (.iload_n 3, 1) := by decide +kernel
theorem dL_law_413 : decode cL_law 413 = .ok (.iconst 2, 1) := by decide +kernel
theorem dL_law_414 : decode cL_law 414 = .ok (.iadd, 1) := by decide +kernel
theorem dL_law_415 : decode cL_law 415 = .ok (.iaload, 1) := by decide +kernel
theorem dL_law_416 : decode cL_law 416 = .ok (.aload_n 0, 1) := by decide +kernel
theorem dL_law_417 : decode cL_law 417 = .ok (.iload_n 3, 1) := by decide +kernel
theorem dL_law_418 : decode cL_law 418 = .ok (.iconst 3, 1) := by decide +kernel
theorem dL_law_419 : decode cL_law 419 = .ok (.iadd, 1) := by decide +kernel
theorem dL_law_420 : decode cL_law 420 = .ok (.iaload, 1) := by decide +kernel
theorem dL_law_421 : decode cL_law 421 = .ok (.invokevirtual 60, 3) := by decide +kernel
theorem dL_law_424 : decode cL_law 424 = .ok (.aload_n 2, 1) := by decide +kernel
theorem dL_law_425 : decode cL_law 425 = .ok (.aload_n 0, 1) := by decide +kernel
theorem dL_law_426 : decode cL_law 426 = .ok (.iload_n 3, 1) := by decide +kernel
theorem dL_law_427 : decode cL_law 427 = .ok (.iconst 1, 1) := by decide +kernel
theorem dL_law_428 : decode cL_law 428 = .ok (.iadd, 1) := by decide +kernel
theorem dL_law_429 : decode cL_law 429 = .ok (.iaload, 1) := by decide +kernel
theorem dL_law_430 : decode cL_law 430 = .ok (.aload_n 0, 1) := by decide +kernel
theorem dL_law_431 : decode cL_law 431 = .ok (.iload_n 3, 1) := by decide +kernel
theorem dL_law_432 : decode cL_law 432 = .ok (.iconst 2, 1) := by decide +kernel
theorem dL_law_433 : decode cL_law 433 = .ok (.iadd, 1) := by decide +kernel
theorem dL_law_434 : decode cL_law 434 = .ok (.iaload, 1) := by decide +kernel
theorem dL_law_435 : decode cL_law 435 = .ok (.aload_n 0, 1) := by decide +kernel
theorem dL_law_436 : decode cL_law 436 = .ok (.iload_n 3, 1) := by decide +kernel
theorem dL_law_437 : decode cL_law 437 = .ok (.iconst 3, 1) := by decide +kernel
theorem dL_law_438 : decode cL_law 438 = .ok (.iadd, 1) := by decide +kernel
theorem dL_law_439 : decode cL_law 439 = .ok (.iaload, 1) := by decide +kernel
theorem dL_law_440 : decode cL_law 440 = .ok (.invokevirtual 64, 3) := by decide +kernel
theorem dL_law_443 : decode cL_law 443 = .ok (.if_icmp .eq 387, 3) := by decide +kernel
theorem dL_law_446 : decode cL_law 446 = .ok (.iconst 0, 1) := by decide +kernel
theorem dL_law_447 : decode cL_law 447 = .ok (.ireturn, 1) := by decide +kernel
theorem dL_law_448 : decode cL_law 448 = .ok (.aload_n 1, 1) := by decide +kernel
theorem dL_law_449 : decode cL_law 449 = .ok (.aload_n 0, 1) := by decide +kernel
theorem dL_law_450 : decode cL_law 450 = .ok (.iload_n 3, 1) := by decide +kernel
theorem dL_law_451 : decode cL_law 451 = .ok (.iconst 1, 1) := by decide +kernel
theorem dL_law_452 : decode cL_law 452 = .ok (.iadd, 1) := by decide +kernel
theorem dL_law_453 : decode cL_law 453 = .ok (.iaload, 1) := by decide +kernel
theorem dL_law_454 : decode cL_law 454 = .ok (.invokevirtual 65, 3) := by decide +kernel
theorem dL_law_457 : decode cL_law 457 = .ok (.aload_n 2, 1) := by decide +kernel
theorem dL_law_458 : decode cL_law 458 = .ok (.aload_n 0, 1) := by decide +kernel
theorem dL_law_459 : decode cL_law 459 = .ok (.iload_n 3, 1) := by decide +kernel
theorem dL_law_460 : decode cL_law 460 = .ok (.iconst 1, 1) := by decide +kernel
theorem dL_law_461 : decode cL_law 461 = .ok (.iadd, 1) := by decide +kernel
theorem dL_law_462 : decode cL_law 462 = .ok (.iaload, 1) := by decide +kernel
theorem dL_law_463 : decode cL_law 463 = .ok (.invokevirtual 68, 3) := by decide +kernel
theorem dL_law_466 : decode cL_law 466 = .ok (.if_icmp .eq 364, 3) := by decide +kernel
theorem dL_law_469 : decode cL_law 469 = .ok (.iconst 0, 1) := by decide +kernel
theorem dL_law_470 : decode cL_law 470 = .ok (.ireturn, 1) := by decide +kernel
theorem dL_law_471 : decode cL_law 471 = .ok (.aload_n 1, 1) := by decide +kernel
theorem dL_law_472 : decode cL_law 472 = .ok (.aload_n 0, 1) := by decide +kernel
theorem dL_law_473 : decode cL_law 473 = .ok (.iload_n 3, 1) := by decide +kernel
theorem dL_law_474 : decode cL_law 474 = .ok (.iconst 1, 1) := by decide +kernel
theorem dL_law_475 : decode cL_law 475 = .ok (.iadd, 1) := by decide +kernel
theorem dL_law_476 : decode cL_law 476 = .ok (.iaload, 1) := by decide +kernel
theorem dL_law_477 : decode cL_law 477 = .ok (.invokevirtual 69, 3) := by decide +kernel
theorem dL_law_480 : decode cL_law 480 = .ok (.aload_n 2, 1) := by decide +kernel
theorem dL_law_481 : decode cL_law 481 = .ok (.aload_n 0, 1) := by decide +kernel
theorem dL_law_482 : decode cL_law 482 = .ok (.iload_n 3, 1) := by decide +kernel
theorem dL_law_483 : decode cL_law 483 = .ok (.iconst 1, 1) := by decide +kernel
theorem dL_law_484 : decode cL_law 484 = .ok (.iadd, 1) := by decide +kernel
theorem dL_law_485 : decode cL_law 485 = .ok (.iaload, 1) := by decide +kernel
theorem dL_law_486 : decode cL_law 486 = .ok (.invokevirtual 72, 3) := by decide +kernel
theorem dL_law_489 : decode cL_law 489 = .ok (.if_icmp .eq 341, 3) := by decide +kernel
theorem dL_law_492 : decode cL_law 492 = .ok (.iconst 0, 1) := by decide +kernel
theorem dL_law_493 : decode cL_law 493 = .ok (.ireturn, 1) := by decide +kernel
theorem dL_law_494 : decode cL_law 494 = .ok (.aload_n 1, 1) := by decide +kernel
theorem dL_law_495 : decode cL_law 495 = .ok (.aload_n 0, 1) := by decide +kernel
theorem dL_law_496 : decode cL_law 496 = .ok (.iload_n 3, 1) := by decide +kernel
theorem dL_law_497 : decode cL_law 497 = .ok (.iconst 1, 1) := by decide +kernel
theorem dL_law_498 : decode cL_law 498 = .ok (.iadd, 1) := by decide +kernel
theorem dL_law_499 : decode cL_law 499 = .ok (.iaload, 1) := by decide +kernel
theorem dL_law_500 : decode cL_law 500 = .ok (.invokevirtual 73, 3) := by decide +kernel
theorem dL_law_503 : decode cL_law 503 = .ok (.aload_n 2, 1) := by decide +kernel
theorem dL_law_504 : decode cL_law 504 = .ok (.aload_n 0, 1) := by decide +kernel
theorem dL_law_505 : decode cL_law 505 = .ok (.iload_n 3, 1) := by decide +kernel
theorem dL_law_506 : decode cL_law 506 = .ok (.iconst 1, 1) := by decide +kernel
theorem dL_law_507 : decode cL_law 507 = .ok (.iadd, 1) := by decide +kernel
theorem dL_law_508 : decode cL_law 508 = .ok (.iaload, 1) := by decide +kernel
theorem dL_law_509 : decode cL_law 509 = .ok (.invokevirtual 76, 3) := by decide +kernel
theorem dL_law_512 : decode cL_law 512 = .ok (.if_icmp .eq 318, 3) := by decide +kernel
theorem dL_law_515 : decode cL_law 515 = .ok (.iconst 0, 1) := by decide +kernel
theorem dL_law_516 : decode cL_law 516 = .ok (.ireturn, 1) := by decide +kernel
theorem dL_law_517 : decode cL_law 517 = .ok (.aload_n 1, 1) := by decide +kernel
theorem dL_law_518 : decode cL_law 518 = .ok (.aload_n 0, 1) := by decide +kernel
theorem dL_law_519 : decode cL_law 519 = .ok (.iload_n 3, 1) := by decide +kernel
theorem dL_law_520 : decode cL_law 520 = .ok (.iconst 1, 1) := by decide +kernel
theorem dL_law_521 : decode cL_law 521 = .ok (.iadd, 1) := by decide +kernel
theorem dL_law_522 : decode cL_law 522 = .ok (.iaload, 1) := by decide +kernel
theorem dL_law_523 : decode cL_law 523 = .ok (.aload_n 0, 1) := by decide +kernel
theorem dL_law_524 : decode cL_law 524 = .ok (.iload_n 3, 1) := by decide +kernel
theorem dL_law_525 : decode cL_law 525 = .ok (.iconst 2, 1) := by decide +kernel
theorem dL_law_526 : decode cL_law 526 = .ok (.iadd, 1) := by decide +kernel
theorem dL_law_527 : decode cL_law 527 = .ok (.iaload, 1) := by decide +kernel
theorem dL_law_528 : decode cL_law 528 = .ok (.invokevirtual 77, 3) := by decide +kernel
theorem dL_law_531 : decode cL_law 531 = .ok (.aload_n 2, 1) := by decide +kernel
theorem dL_law_532 : decode cL_law 532 = .ok (.aload_n 0, 1) := by decide +kernel
theorem dL_law_533 : decode cL_law 533 = .ok (.iload_n 3, 1) := by decide +kernel
theorem dL_law_534 : decode cL_law 534 = .ok (.iconst 1, 1) := by decide +kernel
theorem dL_law_535 : decode cL_law 535 = .ok (.iadd, 1) := by decide +kernel
theorem dL_law_536 : decode cL_law 536 = .ok (.iaload, 1) := by decide +kernel
theorem dL_law_537 : decode cL_law 537 = .ok (.aload_n 0, 1) := by decide +kernel
theorem dL_law_538 : decode cL_law 538 = .ok (.iload_n 3, 1) := by decide +kernel
theorem dL_law_539 : decode cL_law 539 = .ok (.iconst 2, 1) := by decide +kernel
theorem dL_law_540 : decode cL_law 540 = .ok (.iadd, 1) := by decide +kernel
theorem dL_law_541 : decode cL_law 541 = .ok (.iaload, 1) := by decide +kernel
theorem dL_law_542 : decode cL_law 542 = .ok (.invokevirtual 80, 3) := by decide +kernel
theorem dL_law_545 : decode cL_law 545 = .ok (.if_icmp .eq 285, 3) := by decide +kernel
theorem dL_law_548 : decode cL_law 548 = .ok (.iconst 0, 1) := by decide +kernel
theorem dL_law_549 : decode cL_law 549 = .ok (.ireturn, 1) := by decide +kernel
theorem dL_law_550 : decode cL_law 550 = .ok (.aload_n 1, 1) := by decide +kernel
theorem dL_law_551 : decode cL_law 551 = .ok (.invokevirtual 81, 3) := by decide +kernel
theorem dL_law_554 : decode cL_law 554 = .ok (.aload_n 2, 1) := by decide +kernel
theorem dL_law_555 : decode cL_law 555 = .ok (.invokevirtual 84, 3) := by decide +kernel
theorem dL_law_558 : decode cL_law 558 = .ok (.if_icmp .eq 272, 3) := by decide +kernel
theorem dL_law_561 : decode cL_law 561 = .ok (.iconst 0, 1) := by decide +kernel
theorem dL_law_562 : decode cL_law 562 = .ok (.ireturn, 1) := by decide +kernel
theorem dL_law_563 : decode cL_law 563 = .ok (.aload_n 1, 1) := by decide +kernel
theorem dL_law_564 : decode cL_law 564 = .ok (.aload_n 0, 1) := by decide +kernel
theorem dL_law_565 : decode cL_law 565 = .ok (.iload_n 3, 1) := by decide +kernel
theorem dL_law_566 : decode cL_law 566 = .ok (.iconst 1, 1) := by decide +kernel
theorem dL_law_567 : decode cL_law 567 = .ok (.iadd, 1) := by decide +kernel
theorem dL_law_568 : decode cL_law 568 = .ok (.iaload, 1) := by decide +kernel
theorem dL_law_569 : decode cL_law 569 = .ok (.aload_n 0, 1) := by decide +kernel
theorem dL_law_570 : decode cL_law 570 = .ok (.iload_n 3, 1) := by decide +kernel
theorem dL_law_571 : decode cL_law 571 = .ok (.iconst 2, 1) := by decide +kernel
theorem dL_law_572 : decode cL_law 572 = .ok (.iadd, 1) := by decide +kernel
theorem dL_law_573 : decode cL_law 573 = .ok (.iaload, 1) := by decide +kernel
theorem dL_law_574 : decode cL_law 574 = .ok (.invokevirtual 85, 3) := by decide +kernel
theorem dL_law_577 : decode cL_law 577 = .ok (.aload_n 2, 1) := by decide +kernel
theorem dL_law_578 : decode cL_law 578 = .ok (.aload_n 0, 1) := by decide +kernel
theorem dL_law_579 : decode cL_law 579 = .ok (.iload_n 3, 1) := by decide +kernel
theorem dL_law_580 : decode cL_law 580 = .ok (.iconst 1, 1) := by decide +kernel
theorem dL_law_581 : decode cL_law 581 = .ok (.iadd, 1) := by decide +kernel
theorem dL_law_582 : decode cL_law 582 = .ok (.iaload, 1) := by decide +kernel
theorem dL_law_583 : decode cL_law 583 = .ok (.aload_n 0, 1) := by decide +kernel
theorem dL_law_584 : decode cL_law 584 = .ok (.iload_n 3, 1) := by decide +kernel
theorem dL_law_585 : decode cL_law 585 = .ok (.iconst 2, 1) := by decide +kernel
theorem dL_law_586 : decode cL_law 586 = .ok (.iadd, 1) := by decide +kernel
theorem dL_law_587 : decode cL_law 587 = .ok (.iaload, 1) := by decide +kernel
theorem dL_law_588 : decode cL_law 588 = .ok (.invokevirtual 88, 3) := by decide +kernel
theorem dL_law_591 : decode cL_law 591 = .ok (.if_icmp .eq 239, 3) := by decide +kernel
theorem dL_law_594 : decode cL_law 594 = .ok (.iconst 0, 1) := by decide +kernel
theorem dL_law_595 : decode cL_law 595 = .ok (.ireturn, 1) := by decide +kernel
theorem dL_law_596 : decode cL_law 596 = .ok (.aload_n 1, 1) := by decide +kernel
theorem dL_law_597 : decode cL_law 597 = .ok (.invokevirtual 89, 3) := by decide +kernel
theorem dL_law_600 : decode cL_law 600 = .ok (.aload_n 2, 1) := by decide +kernel
theorem dL_law_601 : decode cL_law 601 = .ok (.invokevirtual 92, 3) := by decide +kernel
theorem dL_law_604 : decode cL_law 604 = .ok (.if_icmp .eq 226, 3) := by decide +kernel
theorem dL_law_607 : decode cL_law 607 = .ok (.iconst 0, 1) := by decide +kernel
theorem dL_law_608 : decode cL_law 608 = .ok (.ireturn, 1) := by decide +kernel
theorem dL_law_609 : decode cL_law 609 = .ok (.aload_n 1, 1) := by decide +kernel
theorem dL_law_610 : decode cL_law 610 = .ok (.aload_n 0, 1) := by decide +kernel
theorem dL_law_611 : decode cL_law 611 = .ok (.iload_n 3, 1) := by decide +kernel
theorem dL_law_612 : decode cL_law 612 = .ok (.iconst 1, 1) := by decide +kernel
theorem dL_law_613 : decode cL_law 613 = .ok (.iadd, 1) := by decide +kernel
theorem dL_law_614 : decode cL_law 614 = .ok (.iaload, 1) := by decide +kernel
theorem dL_law_615 : decode cL_law 615 = .ok (.invokevirtual 93, 3) := by decide +kernel
theorem dL_law_618 : decode cL_law 618 = .ok (.aload_n 2, 1) := by decide +kernel
theorem dL_law_619 : decode cL_law 619 = .ok (.aload_n 0, 1) := by decide +kernel
theorem dL_law_620 : decode cL_law 620 = .ok (.iload_n 3, 1) := by decide +kernel
theorem dL_law_621 : decode cL_law 621 = .ok (.iconst 1, 1) := by decide +kernel
theorem dL_law_622 : decode cL_law 622 = .ok (.iadd, 1) := by decide +kernel
theorem dL_law_623 : decode cL_law 623 = .ok (.iaload, 1) := by decide +kernel
theorem dL_law_624 : decode cL_law 624 = .ok (.invokevirtual 96, 3) := by decide +kernel
theorem dL_law_627 : decode cL_law 627 = .ok (.if_icmp .eq 203, 3) := by decide +kernel
theorem dL_law_630 : decode cL_law 630 = .ok (.iconst 0, 1) := by decide +kernel
theorem dL_law_631 : decode cL_law 631 = .ok (.ireturn, 1) := by decide +kernel
theorem dL_law_632 : decode cL_law 632 = .ok (.aload_n 1, 1) := by decide +kernel
theorem dL_law_633 : decode cL_law 633 = .ok (.aload_n 0, 1) := by decide +kernel
theorem dL_law_634 : decode cL_law 634 = .ok (.iload_n 3, 1) := by decide +kernel
theorem dL_law_635 : decode cL_law 635 = .ok (.iconst 1, 1) := by decide +kernel
theorem dL_law_636 : decode cL_law 636 = .ok (.iadd, 1) := by decide +kernel
theorem dL_law_637 : decode cL_law 637 = .ok (.iaload, 1) := by decide +kernel
theorem dL_law_638 : decode cL_law 638 = .ok (.aload_n 0, 1) := by decide +kernel
theorem dL_law_639 : decode cL_law 639 = .ok (.iload_n 3, 1) := by decide +kernel
theorem dL_law_640 : decode cL_law 640 = .ok (.iconst 2, 1) := by decide +kernel
theorem dL_law_641 : decode cL_law 641 = .ok (.iadd, 1) := by decide +kernel
theorem dL_law_642 : decode cL_law 642 = .ok (.iaload, 1) := by decide +kernel
theorem dL_law_643 : decode cL_law 643 = .ok (.aload_n 0, 1) := by decide +kernel
theorem dL_law_644 : decode cL_law 644 = .ok (.iload_n 3, 1) := by decide +kernel
theorem dL_law_645 : decode cL_law 645 = .ok (.iconst 3, 1) := by decide +kernel
theorem dL_law_646 : decode cL_law 646 = .ok (.iadd, 1) := by decide +kernel
theorem dL_law_647 : decode cL_law 647 = .ok (.iaload, 1) := by decide +kernel
theorem dL_law_648 : decode cL_law 648 = .ok (.invokevirtual 97, 3) := by decide +kernel
theorem dL_law_651 : decode cL_law 651 = .ok (.aload_n 2, 1) := by decide +kernel
theorem dL_law_652 : decode cL_law 652 = .ok (.aload_n 0, 1) := by decide +kernel
theorem dL_law_653 : decode cL_law 653 = .ok (.iload_n 3, 1) := by decide +kernel
theorem dL_law_654 : decode cL_law 654 = .ok (.iconst 1, 1) := by decide +kernel
theorem dL_law_655 : decode cL_law 655 = .ok (.iadd, 1) := by decide +kernel
theorem dL_law_656 : decode cL_law 656 = .ok (.iaload, 1) := by decide +kernel
theorem dL_law_657 : decode cL_law 657 = .ok (.aload_n 0, 1) := by decide +kernel
theorem dL_law_658 : decode cL_law 658 = .ok (.iload_n 3, 1) := by decide +kernel
theorem dL_law_659 : decode cL_law 659 = .ok (.iconst 2, 1) := by decide +kernel
theorem dL_law_660 : decode cL_law 660 = .ok (.iadd, 1) := by decide +kernel
theorem dL_law_661 : decode cL_law 661 = .ok (.iaload, 1) := by decide +kernel
theorem dL_law_662 : decode cL_law 662 = .ok (.aload_n 0, 1) := by decide +kernel
theorem dL_law_663 : decode cL_law 663 = .ok (.iload_n 3, 1) := by decide +kernel
theorem dL_law_664 : decode cL_law 664 = .ok (.iconst 3, 1) := by decide +kernel
theorem dL_law_665 : decode cL_law 665 = .ok (.iadd, 1) := by decide +kernel
theorem dL_law_666 : decode cL_law 666 = .ok (.iaload, 1) := by decide +kernel
theorem dL_law_667 : decode cL_law 667 = .ok (.invokevirtual 100, 3) := by decide +kernel
theorem dL_law_670 : decode cL_law 670 = .ok (.if_icmp .eq 160, 3) := by decide +kernel
theorem dL_law_673 : decode cL_law 673 = .ok (.iconst 0, 1) := by decide +kernel
theorem dL_law_674 : decode cL_law 674 = .ok (.ireturn, 1) := by decide +kernel
theorem dL_law_675 : decode cL_law 675 = .ok (.aload_n 1, 1) := by decide +kernel
theorem dL_law_676 : decode cL_law 676 = .ok (.aload_n 0, 1) := by decide +kernel
theorem dL_law_677 : decode cL_law 677 = .ok (.iload_n 3, 1) := by decide +kernel
theorem dL_law_678 : decode cL_law 678 = .ok (.iconst 1, 1) := by decide +kernel
theorem dL_law_679 : decode cL_law 679 = .ok (.iadd, 1) := by decide +kernel
theorem dL_law_680 : decode cL_law 680 = .ok (.iaload, 1) := by decide +kernel
theorem dL_law_681 : decode cL_law 681 = .ok (.aload_n 0, 1) := by decide +kernel
theorem dL_law_682 : decode cL_law 682 = .ok (.iload_n 3, 1) := by decide +kernel
theorem dL_law_683 : decode cL_law 683 = .ok (.iconst 2, 1) := by decide +kernel
theorem dL_law_684 : decode cL_law 684 = .ok (.iadd, 1) := by decide +kernel
theorem dL_law_685 : decode cL_law 685 = .ok (.iaload, 1) := by decide +kernel
theorem dL_law_686 : decode cL_law 686 = .ok (.aload_n 0, 1) := by decide +kernel
theorem dL_law_687 : decode cL_law 687 = .ok (.iload_n 3, 1) := by decide +kernel
theorem dL_law_688 : decode cL_law 688 = .ok (.iconst 3, 1) := by decide +kernel
theorem dL_law_689 : decode cL_law 689 = .ok (.iadd, 1) := by decide +kernel
theorem dL_law_690 : decode cL_law 690 = .ok (.iaload, 1) := by decide +kernel
theorem dL_law_691 : decode cL_law 691 = .ok (.aload_n 0, 1) := by decide +kernel
theorem dL_law_692 : decode cL_law 692 = .ok (.iload_n 3, 1) := by decide +kernel
theorem dL_law_693 : decode cL_law 693 = .ok (.iconst 4, 1) := by decide +kernel
theorem dL_law_694 : decode cL_law 694 = .ok (.iadd, 1) := by decide +kernel
theorem dL_law_695 : decode cL_law 695 = .ok (.iaload, 1) := by decide +kernel
theorem dL_law_696 : decode cL_law 696 = .ok (.aload_n 0, 1) := by decide +kernel
theorem dL_law_697 : decode cL_law 697 = .ok (.iload_n 3, 1) := by decide +kernel
theorem dL_law_698 : decode cL_law 698 = .ok (.iconst 5, 1) := by decide +kernel
theorem dL_law_699 : decode cL_law 699 = .ok (.iadd, 1) := by decide +kernel
theorem dL_law_700 : decode cL_law 700 = .ok (.iaload, 1) := by decide +kernel
theorem dL_law_701 : decode cL_law 701 = .ok (.invokevirtual 101, 3) := by decide +kernel
theorem dL_law_704 : decode cL_law 704 = .ok (.aload_n 2, 1) := by decide +kernel
theorem dL_law_705 : decode cL_law 705 = .ok (.aload_n 0, 1) := by decide +kernel
theorem dL_law_706 : decode cL_law 706 = .ok (.iload_n 3, 1) := by decide +kernel
theorem dL_law_707 : decode cL_law 707 = .ok (.iconst 1, 1) := by decide +kernel
theorem dL_law_708 : decode cL_law 708 = .ok (.iadd, 1) := by decide +kernel
theorem dL_law_709 : decode cL_law 709 = .ok (.iaload, 1) := by decide +kernel
theorem dL_law_710 : decode cL_law 710 = .ok (.aload_n 0, 1) := by decide +kernel
theorem dL_law_711 : decode cL_law 711 = .ok (.iload_n 3, 1) := by decide +kernel
theorem dL_law_712 : decode cL_law 712 = .ok (.iconst 2, 1) := by decide +kernel
theorem dL_law_713 : decode cL_law 713 = .ok (.iadd, 1) := by decide +kernel
theorem dL_law_714 : decode cL_law 714 = .ok (.iaload, 1) := by decide +kernel
theorem dL_law_715 : decode cL_law 715 = .ok (.aload_n 0, 1) := by decide +kernel
theorem dL_law_716 : decode cL_law 716 = .ok (.iload_n 3, 1) := by decide +kernel
theorem dL_law_717 : decode cL_law 717 = .ok (.iconst 3, 1) := by decide +kernel
theorem dL_law_718 : decode cL_law 718 = .ok (.iadd, 1) := by decide +kernel
theorem dL_law_719 : decode cL_law 719 = .ok (.iaload, 1) := by decide +kernel
theorem dL_law_720 : decode cL_law 720 = .ok (.aload_n 0, 1) := by decide +kernel
theorem dL_law_721 : decode cL_law 721 = .ok (.iload_n 3, 1) := by decide +kernel
theorem dL_law_722 : decode cL_law 722 = .ok (.iconst 4, 1) := by decide +kernel
theorem dL_law_723 : decode cL_law 723 = .ok (.iadd, 1) := by decide +kernel
theorem dL_law_724 : decode cL_law 724 = .ok (.iaload, 1) := by decide +kernel
theorem dL_law_725 : decode cL_law 725 = .ok (.aload_n 0, 1) := by decide +kernel
theorem dL_law_726 : decode cL_law 726 = .ok (.iload_n 3, 1) := by decide +kernel
theorem dL_law_727 : decode cL_law 727 = .ok (.iconst 5, 1) := by decide +kernel
theorem dL_law_728 : decode cL_law 728 = .ok (.iadd, 1) := by decide +kernel
theorem dL_law_729 : decode cL_law 729 = .ok (.iaload, 1) := by decide +kernel
theorem dL_law_730 : decode cL_law 730 = .ok (.invokevirtual 105, 3) := by decide +kernel
theorem dL_law_733 : decode cL_law 733 = .ok (.if_icmp .eq 97, 3) := by decide +kernel
theorem dL_law_736 : decode cL_law 736 = .ok (.iconst 0, 1) := by decide +kernel
theorem dL_law_737 : decode cL_law 737 = .ok (.ireturn, 1) := by decide +kernel
theorem dL_law_738 : decode cL_law 738 = .ok (.aload_n 1, 1) := by decide +kernel
theorem dL_law_739 : decode cL_law 739 = .ok (.aload_n 0, 1) := by decide +kernel
theorem dL_law_740 : decode cL_law 740 = .ok (.iload_n 3, 1) := by decide +kernel
theorem dL_law_741 : decode cL_law 741 = .ok (.iconst 1, 1) := by decide +kernel
theorem dL_law_742 : decode cL_law 742 = .ok (.iadd, 1) := by decide +kernel
theorem dL_law_743 : decode cL_law 743 = .ok (.iaload, 1) := by decide +kernel
theorem dL_law_744 : decode cL_law 744 = .ok (.aload_n 0, 1) := by decide +kernel
theorem dL_law_745 : decode cL_law 745 = .ok (.iload_n 3, 1) := by decide +kernel
theorem dL_law_746 : decode cL_law 746 = .ok (.iconst 2, 1) := by decide +kernel
theorem dL_law_747 : decode cL_law 747 = .ok (.iadd, 1) := by decide +kernel
theorem dL_law_748 : decode cL_law 748 = .ok (.iaload, 1) := by decide +kernel
theorem dL_law_749 : decode cL_law 749 = .ok (.aload_n 0, 1) := by decide +kernel
theorem dL_law_750 : decode cL_law 750 = .ok (.iload_n 3, 1) := by decide +kernel
theorem dL_law_751 : decode cL_law 751 = .ok (.iconst 3, 1) := by decide +kernel
theorem dL_law_752 : decode cL_law 752 = .ok (.iadd, 1) := by decide +kernel
theorem dL_law_753 : decode cL_law 753 = .ok (.iaload, 1) := by decide +kernel
theorem dL_law_754 : decode cL_law 754 = .ok (.invokevirtual 106, 3) := by decide +kernel
theorem dL_law_757 : decode cL_law 757 = .ok (.aload_n 2, 1) := by decide +kernel
theorem dL_law_758 : decode cL_law 758 = .ok (.aload_n 0, 1) := by decide +kernel
theorem dL_law_759 : decode cL_law 759 = .ok (.iload_n 3, 1) := by decide +kernel
theorem dL_law_760 : decode cL_law 760 = .ok (.iconst 1, 1) := by decide +kernel
theorem dL_law_761 : decode cL_law 761 = .ok (.iadd, 1) := by decide +kernel
theorem dL_law_762 : decode cL_law 762 = .ok (.iaload, 1) := by decide +kernel
theorem dL_law_763 : decode cL_law 763 = .ok (.aload_n 0, 1) := by decide +kernel
theorem dL_law_764 : decode cL_law 764 = .ok (.iload_n 3, 1) := by decide +kernel
theorem dL_law_765 : decode cL_law 765 = .ok (.iconst 2, 1) := by decide +kernel
theorem dL_law_766 : decode cL_law 766 = .ok (.iadd, 1) := by decide +kernel
theorem dL_law_767 : decode cL_law 767 = .ok (.iaload, 1) := by decide +kernel
theorem dL_law_768 : decode cL_law 768 = .ok (.aload_n 0, 1) := by decide +kernel
theorem dL_law_769 : decode cL_law 769 = .ok (.iload_n 3, 1) := by decide +kernel
theorem dL_law_770 : decode cL_law 770 = .ok (.iconst 3, 1) := by decide +kernel
theorem dL_law_771 : decode cL_law 771 = .ok (.iadd, 1) := by decide +kernel
theorem dL_law_772 : decode cL_law 772 = .ok (.iaload, 1) := by decide +kernel
theorem dL_law_773 : decode cL_law 773 = .ok (.invokevirtual 109, 3) := by decide +kernel
theorem dL_law_776 : decode cL_law 776 = .ok (.if_icmp .eq 54, 3) := by decide +kernel
theorem dL_law_779 : decode cL_law 779 = .ok (.iconst 0, 1) := by decide +kernel
theorem dL_law_780 : decode cL_law 780 = .ok (.ireturn, 1) := by decide +kernel
theorem dL_law_781 : decode cL_law 781 = .ok (.aload_n 1, 1) := by decide +kernel
theorem dL_law_782 : decode cL_law 782 = .ok (.invokevirtual 110, 3) := by decide +kernel
theorem dL_law_785 : decode cL_law 785 = .ok (.aload_n 2, 1) := by decide +kernel
theorem dL_law_786 : decode cL_law 786 = .ok (.invokevirtual 113, 3) := by decide +kernel
theorem dL_law_789 : decode cL_law 789 = .ok (.if_icmp .eq 41, 3) := by decide +kernel
theorem dL_law_792 : decode cL_law 792 = .ok (.iconst 0, 1) := by decide +kernel
theorem dL_law_793 : decode cL_law 793 = .ok (.ireturn, 1) := by decide +kernel
theorem dL_law_794 : decode cL_law 794 = .ok (.aload_n 1, 1) := by decide +kernel
theorem dL_law_795 : decode cL_law 795 = .ok (.invokevirtual 114, 3) := by decide +kernel
theorem dL_law_798 : decode cL_law 798 = .ok (.aload_n 2, 1) := by decide +kernel
theorem dL_law_799 : decode cL_law 799 = .ok (.invokevirtual 117, 3) := by decide +kernel
theorem dL_law_802 : decode cL_law 802 = .ok (.if_icmp .eq 28, 3) := by decide +kernel
theorem dL_law_805 : decode cL_law 805 = .ok (.iconst 0, 1) := by decide +kernel
theorem dL_law_806 : decode cL_law 806 = .ok (.ireturn, 1) := by decide +kernel
theorem dL_law_807 : decode cL_law 807 = .ok (.aload_n 1, 1) := by decide +kernel
theorem dL_law_808 : decode cL_law 808 = .ok (.aload_n 0, 1) := by decide +kernel
theorem dL_law_809 : decode cL_law 809 = .ok (.iload_n 3, 1) := by decide +kernel
theorem dL_law_810 : decode cL_law 810 = .ok (.iconst 1, 1) := by decide +kernel
theorem dL_law_811 : decode cL_law 811 = .ok (.iadd, 1) := by decide +kernel
theorem dL_law_812 : decode cL_law 812 = .ok (.iaload, 1) := by decide +kernel
theorem dL_law_813 : decode cL_law 813 = .ok (.invokevirtual 118, 3) := by decide +kernel
theorem dL_law_816 : decode cL_law 816 = .ok (.aload_n 2, 1) := by decide +kernel
theorem dL_law_817 : decode cL_law 817 = .ok (.aload_n 0, 1) := by decide +kernel
theorem dL_law_818 : decode cL_law 818 = .ok (.iload_n 3, 1) := by decide +kernel
theorem dL_law_819 : decode cL_law 819 = .ok (.iconst 1, 1) := by decide +kernel
theorem dL_law_820 : decode cL_law 820 = .ok (.iadd, 1) := by decide +kernel
theorem dL_law_821 : decode cL_law 821 = .ok (.iaload, 1) := by decide +kernel
theorem dL_law_822 : decode cL_law 822 = .ok (.invokevirtual 121, 3) := by decide +kernel
theorem dL_law_825 : decode cL_law 825 = .ok (.if_icmp .eq 5, 3) := by decide +kernel
theorem dL_law_828 : decode cL_law 828 = .ok (.iconst 0, 1) := by decide +kernel
theorem dL_law_829 : decode cL_law 829 = .ok (.ireturn, 1) := by decide +kernel
theorem dL_law_830 : decode cL_law 830 = .ok (.iinc 3 6, 3) := by decide +kernel
theorem dL_law_833 : decode cL_law 833 = .ok (.goto (-815), 3) := by decide +kernel
theorem dL_law_836 : decode cL_law 836 = .ok (.iconst 1, 1) := by decide +kernel
theorem dL_law_837 : decode cL_law 837 = .ok (.ireturn, 1) := by decide +kernel
end
section
theorem x_try : True := trivial
end
section
/-! THE ABSTRACT MACHINE: a heap of cells by number, locals, a stack; xG says that the real machine goes on well from there -/
/-- all words, those that every later state keeps -/
def xBW : List Cond := lw_tbl.filter goodWord
theorem xBW_good : ∀ w ∈ xBW, goodWord w = true := fun w h => (List.mem_filter.mp h).2
theorem xBW_tbl : ∀ w ∈ xBW, w ∈ lw_tbl := fun w h => (List.mem_filter.mp h).1
/-- a value, its cell number moved by the base; retAddr stands for a cell outside -/
def xv (b : Nat) : Value → Value
  | .ref a => .ref (b + a)
  | .retAddr a => .ref a
  | v => v
abbrev XC : Type := (Nat × List Value) ⊕ (Nat × List Int32) ⊕ (List (Option Nat))
abbrev XH : Type := List XC
abbrev XE : Type := List (Option Value)
abbrev xCl : List vw_C := [(RX0, TX0, 2), (RX1, TX1, 4), (RX2, TX2, 1), (RX3, TX3, 1), (RX4, TX4, 10), (RX5, TX5, 3), (RX6, TX6, 7), (RX7, TX7, 2), (RX8, TX8, 6), (RX9, TX9, 11), (RX10, TX10, 28)]
abbrev xTy (cI : Nat → ClassId) : List (ClassId × FieldType) := [(cI 0, .int), (cI 1, .char), (cI 2, .object RX6)]
def xE (b : Nat) (cI : Nat → ClassId) : XC → va_E
  | .inl (c, fs) => .inr (c, fs.map (xv b))
  | .inr (.inl (t, xs)) => .inl (cI t, xs.length, .inl (fun j => xs.getD j 0))
  | .inr (.inr rs) => .inl (cI 2, rs.length, .inr (.inr (.inr (.inr (fun j => (rs.getD j none).map (fun a => b + a))))))
def xAg (b : Nat) (D : va_G) (cI : Nat → ClassId) (h : XH) (H : Heap) : Prop := H.size = b + h.length ∧ ∀ (a : Nat) (c : XC), h[a]? = some c → va_at D xCl (b + a, xE b cI c) H
def xSz : XC → Nat
  | .inl (_, fs) => fs.length
  | .inr (.inl (_, xs)) => xs.length
  | .inr (.inr rs) => rs.length
def xsl (h : XH) : Nat := (h.map xSz).sum
def xRel (b n : Nat) (env : XE) (ls : Array Slot) : Prop := env.length = n ∧ ls.size = n ∧ lv_wf ls ∧ ∀ (i : Nat) (v : Value), env[i]? = some (some v) → ls[i]? = some (.val (xv b v))
/-- the cell in which the tables' field k of class ci is -/
theorem xCl_ok : ∀ (ci : Nat) (r : vw_C), xCl[ci]? = some r → (∀ w ∈ u_ws r.1 r.2.1 r.2.2, w ∈ xBW) ∧ (∃ ty0 : Nat → FieldType, ∀ k, k < r.2.2 → parseFieldDescriptor (r.2.1 k).2.2.1 = some (ty0 k)) ∧ (∀ a, a < r.2.2 → ∀ b, b < r.2.2 → a ≠ b → (r.2.1 a).2.1 ≠ (r.2.1 b).2.1) := by
  intro ci r h
  match ci, h with
  | 0, h => cases h; exact ⟨by decide +kernel, ⟨_, tyX0_ok⟩, nmX0⟩
  | 1, h => cases h; exact ⟨by decide +kernel, ⟨_, tyX1_ok⟩, nmX1⟩
  | 2, h => cases h; exact ⟨by decide +kernel, ⟨_, tyX2_ok⟩, nmX2⟩
  | 3, h => cases h; exact ⟨by decide +kernel, ⟨_, tyX3_ok⟩, nmX3⟩
  | 4, h => cases h; exact ⟨by decide +kernel, ⟨_, tyX4_ok⟩, nmX4⟩
  | 5, h => cases h; exact ⟨by decide +kernel, ⟨_, tyX5_ok⟩, nmX5⟩
  | 6, h => cases h; exact ⟨by decide +kernel, ⟨_, tyX6_ok⟩, nmX6⟩
  | 7, h => cases h; exact ⟨by decide +kernel, ⟨_, tyX7_ok⟩, nmX7⟩
  | 8, h => cases h; exact ⟨by decide +kernel, ⟨_, tyX8_ok⟩, nmX8⟩
  | 9, h => cases h; exact ⟨by decide +kernel, ⟨_, tyX9_ok⟩, nmX9⟩
  | 10, h => cases h; exact ⟨by decide +kernel, ⟨_, tyX10_ok⟩, nmX10⟩
  | k + 11, h => simp [xCl] at h
/-! what else every state keeps: the links to nest mates' constructors, the class of rows of states, the one String constant and what its length and its letters rest on -/
def xNest : List Cond := lw_tbl.filter (fun w => match w with | .methodLinkNest _ _ _ _ => true | _ => false)
def xTx : String := "f6;s0,0,1;s1,1,2;s0,2,3;s2,3,0;s1,1,4;s3,4,5;s0,5,2;w0,0,3;w1,2,4;w2,4,2;w3,5,5;l30;"
def xByt : List Int32 := [102, 54, 59, 115, 48, 44, 48, 44, 49, 59, 115, 49, 44, 49, 44, 50, 59, 115, 48, 44, 50, 44, 51, 59, 115, 50, 44, 51, 44, 48, 59, 115, 49, 44, 49, 44, 52, 59, 115, 51, 44, 52, 44, 53, 59, 115, 48, 44, 53, 44, 50, 59, 119, 48, 44, 48, 44, 51, 59, 119, 49, 44, 50, 44, 52, 59, 119, 50, 44, 52, 44, 50, 59, 119, 51, 44, 53, 44, 53, 59, 108, 51, 48, 59]
theorem xByt_len : xByt.length = 84 := by decide +kernel
def xStr (b : Nat) (U : State) (H : Heap) : Prop := ∃ sa sv fa : Nat, vk_R RX9 274 xTx sa U ∧ vk_S 1 [84] [xByt] (fun _ => sa) (fun _ => sv) (fun q => b ≤ q) U H ∧ va_Z "java/lang/String" "COMPACT_STRINGS" "Z" (.int 1) (fun q => b ≤ q) U H ∧ va_Z "jdk/internal/util/Preconditions" "SIOOBE_FORMATTER" "Ljava/util/function/BiFunction;" (.ref fa) (fun q => b ≤ q) U H
def xEx (b : Nat) (U : State) (H : Heap) : Prop := (∀ w ∈ xNest, va_Nw w U) ∧ va_AO RX6 U ∧ xStr b U H
theorem xNest_of {w : Cond} (h : w ∈ xNest) : ∃ (a : String) (i : Nat) (x : MethodName) (q : String), w = .methodLinkNest a i x q := by
  have h2 := (List.mem_filter.mp h).2
  cases w <;> first | exact ⟨_, _, _, _, rfl⟩ | (simp at h2)
theorem xEx.same {b : Nat} {u U : State} {H : Heap} (hv : U.vm = u.vm) (h : xEx b u H) : xEx b U H := by
  have ha : u.vm.Alike U.vm := by rw [hv]; exact Vm.Alike.refl u.vm
  obtain ⟨h1, h2, sa, sv, fa, h3, h4, h5, h6⟩ := h
  refine ⟨fun w hw => ?_, h2.moved ha, sa, sv, fa, h3.same hv, h4.moved ha, h5.moved ha, h6.moved ha⟩
  obtain ⟨a, i, x, q, rfl⟩ := xNest_of hw
  exact va_Nw.same rfl hv.symm (h1 _ hw)
theorem xEx.warm {b : Nat} {s U : State} {H : Heap} (hW : s.WarmedH U.vm) (h : xEx b s H) : xEx b U H := by
  obtain ⟨h1, h2, sa, sv, fa, h3, h4, h5, h6⟩ := h
  refine ⟨fun w hw => ?_, h2.moved hW.alike, sa, sv, fa, h3.warm hW, h4.moved hW.alike, h5.moved hW.alike, h6.moved hW.alike⟩
  obtain ⟨a, i, x, q, rfl⟩ := xNest_of hw
  exact va_Nw.warmM hW (h1 _ hw)
theorem xEx.kept {b : Nat} {U : State} {H H1 : Heap} (h : xEx b U H) (hq : ∀ q : Nat, q < b → H1[q]? = H[q]?) : xEx b U H1 := by
  obtain ⟨h1, h2, sa, sv, fa, h3, h4, h5, h6⟩ := h
  exact ⟨h1, h2, sa, sv, fa, h3, h4.kept (fun a _ z => hq a (Nat.not_le.mp z)), h5.kept (fun a _ z => hq a (Nat.not_le.mp z)), h6.kept (fun a _ z => hq a (Nat.not_le.mp z))⟩
end
section
/-! THE RULES: what holds at the next place holds at this one -/
abbrev XK : Type := Bool × Program × Launch × Env × Room × State × MethodId × Array Value × List Frame × Method × Code × Nat × va_G × (Nat → ClassId) × Nat × Nat × Option Value × XH × (State → Prop)
def xG (K : XK) (pc : Nat) (env : XE) (st : List Value) (h : XH) : Prop := match K with
  | (fl, p, l, e, R, s, m, args, below, meth, c, b, D, cI, n0, s0, _, hF, Q) => (h.length ≤ hF.length ∧ xsl h ≤ xsl hF) ∧ (fl = true → ∀ (H : Heap) (locs : List Loc) (ls : Array Slot), xRel b c.maxLocals env ls → xAg b D cI h H → (∀ q : Nat, q < b → H[q]? = s.heap[q]?) → (∀ q ∈ locs, b ≤ q.base) → (n0 ≤ h.length ∧ s0 ≤ xsl h) → W p l e R s m args below meth c H locs (h.length - n0) (xsl h - s0) Q (F0 m pc ls (st.map (xv b))))
/-- the fixed facts of a method's walk: its class, its bytes, whether it is a constructor, whether it answers a boolean, its room -/
def xOK (K : XK) (own : String) (cc : ByteArray) (ini bz : Bool) (fr lo : Nat) : Prop := match K with
  | (fl, p, l, e, R, s, m, args, below, meth, c, b, D, cI, n0, s0, rv0, hF, Q) => (fl = true → p.tables.exec = Jvm.exec ∧ c.code = cc ∧ s.vm.findClass own = some m.cls ∧ (∀ w ∈ xBW, w.before args s = true) ∧ va_K D xCl (xTy cI) s ∧ (ini = true → meth.name = "<init>") ∧ b ≤ s.heap.size ∧ hF.length - n0 ≤ R.cells ∧ xsl hF - s0 ≤ R.slots ∧ fr ≤ R.frames ∧ lo ≤ R.locals ∧ xEx b s s.heap) ∧
    (∀ (pc : Nat) (env : XE) (v : Int32), decode cc pc = .ok (.ireturn, 1) → rv0 = some (.int v) → (bz = true → v = 0 ∨ v = 1) → xG K pc env [.int v] hF) ∧ (∀ (pc : Nat) (env : XE), decode cc pc = .ok (.return_, 1) → rv0 = none → xG K pc env [] hF)
def xRv (K : XK) : Option Value := K.2.2.2.2.2.2.2.2.2.2.2.2.2.2.2.2.1
def xHF (K : XK) : XH := K.2.2.2.2.2.2.2.2.2.2.2.2.2.2.2.2.2.1
theorem xv_cat (b : Nat) (v : Value) : (xv b v).category = v.category := by cases v <;> rfl
section XR
variable {K : XK} {own : String} {cc : ByteArray} {ini bz : Bool} {fr lo pc : Nat} {env : XE} {st : List Value} {h : XH}
theorem g_iadd {x y : Int32} (C : xOK K own cc ini bz fr lo) (hd : decode cc pc = .ok (.iadd, 1)) (k : xG K (pc + 1) env (.int (x + y) :: st) h) : xG K pc env (.int y :: .int x :: st) h := by
  obtain ⟨fl, p, l, e, R, s, m, args, below, meth, c, b, D, cI, n0, s0, rv0, hF, Q⟩ := K
  refine And.intro k.1 (fun hf H locs ls h1 h2 h3 h4 h5 => ?_)
  obtain ⟨hx, hb, hown, hts, hK, hini, hbs, hrc, hrs, hfr, hlo⟩ := C.1 hf
  exact lv_iadd hx hb hd (k.2 hf H locs ls h1 h2 h3 h4 h5)
theorem g_isub {x y : Int32} (C : xOK K own cc ini bz fr lo) (hd : decode cc pc = .ok (.isub, 1)) (k : xG K (pc + 1) env (.int (x - y) :: st) h) : xG K pc env (.int y :: .int x :: st) h := by
  obtain ⟨fl, p, l, e, R, s, m, args, below, meth, c, b, D, cI, n0, s0, rv0, hF, Q⟩ := K
  refine And.intro k.1 (fun hf H locs ls h1 h2 h3 h4 h5 => ?_)
  obtain ⟨hx, hb, hown, hts, hK, hini, hbs, hrc, hrs, hfr, hlo⟩ := C.1 hf
  exact lv_isub hx hb hd (k.2 hf H locs ls h1 h2 h3 h4 h5)
theorem g_imul {x y : Int32} (C : xOK K own cc ini bz fr lo) (hd : decode cc pc = .ok (.imul, 1)) (k : xG K (pc + 1) env (.int (x * y) :: st) h) : xG K pc env (.int y :: .int x :: st) h := by
  obtain ⟨fl, p, l, e, R, s, m, args, below, meth, c, b, D, cI, n0, s0, rv0, hF, Q⟩ := K
  refine And.intro k.1 (fun hf H locs ls h1 h2 h3 h4 h5 => ?_)
  obtain ⟨hx, hb, hown, hts, hK, hini, hbs, hrc, hrs, hfr, hlo⟩ := C.1 hf
  exact lv_imul hx hb hd (k.2 hf H locs ls h1 h2 h3 h4 h5)
theorem g_iand {x y : Int32} (C : xOK K own cc ini bz fr lo) (hd : decode cc pc = .ok (.iand, 1)) (k : xG K (pc + 1) env (.int (x &&& y) :: st) h) : xG K pc env (.int y :: .int x :: st) h := by
  obtain ⟨fl, p, l, e, R, s, m, args, below, meth, c, b, D, cI, n0, s0, rv0, hF, Q⟩ := K
  refine And.intro k.1 (fun hf H locs ls h1 h2 h3 h4 h5 => ?_)
  obtain ⟨hx, hb, hown, hts, hK, hini, hbs, hrc, hrs, hfr, hlo⟩ := C.1 hf
  exact lv_iand hx hb hd (k.2 hf H locs ls h1 h2 h3 h4 h5)
theorem g_ior {x y : Int32} (C : xOK K own cc ini bz fr lo) (hd : decode cc pc = .ok (.ior, 1)) (k : xG K (pc + 1) env (.int (x ||| y) :: st) h) : xG K pc env (.int y :: .int x :: st) h := by
  obtain ⟨fl, p, l, e, R, s, m, args, below, meth, c, b, D, cI, n0, s0, rv0, hF, Q⟩ := K
  refine And.intro k.1 (fun hf H locs ls h1 h2 h3 h4 h5 => ?_)
  obtain ⟨hx, hb, hown, hts, hK, hini, hbs, hrc, hrs, hfr, hlo⟩ := C.1 hf
  exact lv_ior hx hb hd (k.2 hf H locs ls h1 h2 h3 h4 h5)
theorem g_ixor {x y : Int32} (C : xOK K own cc ini bz fr lo) (hd : decode cc pc = .ok (.ixor, 1)) (k : xG K (pc + 1) env (.int (x ^^^ y) :: st) h) : xG K pc env (.int y :: .int x :: st) h := by
  obtain ⟨fl, p, l, e, R, s, m, args, below, meth, c, b, D, cI, n0, s0, rv0, hF, Q⟩ := K
  refine And.intro k.1 (fun hf H locs ls h1 h2 h3 h4 h5 => ?_)
  obtain ⟨hx, hb, hown, hts, hK, hini, hbs, hrc, hrs, hfr, hlo⟩ := C.1 hf
  exact lv_ixor hx hb hd (k.2 hf H locs ls h1 h2 h3 h4 h5)
theorem g_ishl {x y : Int32} (C : xOK K own cc ini bz fr lo) (hd : decode cc pc = .ok (.ishl, 1)) (k : xG K (pc + 1) env (.int (x <<< (y &&& 31)) :: st) h) : xG K pc env (.int y :: .int x :: st) h := by
  obtain ⟨fl, p, l, e, R, s, m, args, below, meth, c, b, D, cI, n0, s0, rv0, hF, Q⟩ := K
  refine And.intro k.1 (fun hf H locs ls h1 h2 h3 h4 h5 => ?_)
  obtain ⟨hx, hb, hown, hts, hK, hini, hbs, hrc, hrs, hfr, hlo⟩ := C.1 hf
  exact lv_ishl hx hb hd (k.2 hf H locs ls h1 h2 h3 h4 h5)
theorem g_ishr {x y : Int32} (C : xOK K own cc ini bz fr lo) (hd : decode cc pc = .ok (.ishr, 1)) (k : xG K (pc + 1) env (.int (x >>> (y &&& 31)) :: st) h) : xG K pc env (.int y :: .int x :: st) h := by
  obtain ⟨fl, p, l, e, R, s, m, args, below, meth, c, b, D, cI, n0, s0, rv0, hF, Q⟩ := K
  refine And.intro k.1 (fun hf H locs ls h1 h2 h3 h4 h5 => ?_)
  obtain ⟨hx, hb, hown, hts, hK, hini, hbs, hrc, hrs, hfr, hlo⟩ := C.1 hf
  exact lv_ishr hx hb hd (k.2 hf H locs ls h1 h2 h3 h4 h5)
theorem g_iushr {x y : Int32} (C : xOK K own cc ini bz fr lo) (hd : decode cc pc = .ok (.iushr, 1)) (k : xG K (pc + 1) env (.int ((x.toUInt32 >>> (y.toUInt32 &&& Int32.toUInt32 31)).toInt32) :: st) h) : xG K pc env (.int y :: .int x :: st) h := by
  obtain ⟨fl, p, l, e, R, s, m, args, below, meth, c, b, D, cI, n0, s0, rv0, hF, Q⟩ := K
  refine And.intro k.1 (fun hf H locs ls h1 h2 h3 h4 h5 => ?_)
  obtain ⟨hx, hb, hown, hts, hK, hini, hbs, hrc, hrs, hfr, hlo⟩ := C.1 hf
  exact lv_iushr hx hb hd rfl (k.2 hf H locs ls h1 h2 h3 h4 h5)
theorem g_idiv {x y : Int32} (C : xOK K own cc ini bz fr lo) (hd : decode cc pc = .ok (.idiv, 1)) (hne : ¬ y = 0) (k : xG K (pc + 1) env (.int (x / y) :: st) h) : xG K pc env (.int y :: .int x :: st) h := by
  obtain ⟨fl, p, l, e, R, s, m, args, below, meth, c, b, D, cI, n0, s0, rv0, hF, Q⟩ := K
  refine And.intro k.1 (fun hf H locs ls h1 h2 h3 h4 h5 => ?_)
  obtain ⟨hx, hb, hown, hts, hK, hini, hbs, hrc, hrs, hfr, hlo⟩ := C.1 hf
  exact lv_idiv hx hb hd hne (k.2 hf H locs ls h1 h2 h3 h4 h5)
theorem g_irem {x y : Int32} (C : xOK K own cc ini bz fr lo) (hd : decode cc pc = .ok (.irem, 1)) (hne : ¬ y = 0) (k : xG K (pc + 1) env (.int (x - x / y * y) :: st) h) : xG K pc env (.int y :: .int x :: st) h := by
  obtain ⟨fl, p, l, e, R, s, m, args, below, meth, c, b, D, cI, n0, s0, rv0, hF, Q⟩ := K
  refine And.intro k.1 (fun hf H locs ls h1 h2 h3 h4 h5 => ?_)
  obtain ⟨hx, hb, hown, hts, hK, hini, hbs, hrc, hrs, hfr, hlo⟩ := C.1 hf
  exact lv_irem hx hb hd hne (k.2 hf H locs ls h1 h2 h3 h4 h5)
theorem g_ineg {x : Int32} (C : xOK K own cc ini bz fr lo) (hd : decode cc pc = .ok (.ineg, 1)) (k : xG K (pc + 1) env (.int (-x) :: st) h) : xG K pc env (.int x :: st) h := by
  obtain ⟨fl, p, l, e, R, s, m, args, below, meth, c, b, D, cI, n0, s0, rv0, hF, Q⟩ := K
  refine And.intro k.1 (fun hf H locs ls h1 h2 h3 h4 h5 => ?_)
  obtain ⟨hx, hb, hown, hts, hK, hini, hbs, hrc, hrs, hfr, hlo⟩ := C.1 hf
  exact lv_ineg hx hb hd (k.2 hf H locs ls h1 h2 h3 h4 h5)
theorem g_ladd {x y : Int64} (C : xOK K own cc ini bz fr lo) (hd : decode cc pc = .ok (.ladd, 1)) (k : xG K (pc + 1) env (.long (x + y) :: st) h) : xG K pc env (.long y :: .long x :: st) h := by
  obtain ⟨fl, p, l, e, R, s, m, args, below, meth, c, b, D, cI, n0, s0, rv0, hF, Q⟩ := K
  refine And.intro k.1 (fun hf H locs ls h1 h2 h3 h4 h5 => ?_)
  obtain ⟨hx, hb, hown, hts, hK, hini, hbs, hrc, hrs, hfr, hlo⟩ := C.1 hf
  exact lv_ladd hx hb hd (k.2 hf H locs ls h1 h2 h3 h4 h5)
theorem g_lmul {x y : Int64} (C : xOK K own cc ini bz fr lo) (hd : decode cc pc = .ok (.lmul, 1)) (k : xG K (pc + 1) env (.long (x * y) :: st) h) : xG K pc env (.long y :: .long x :: st) h := by
  obtain ⟨fl, p, l, e, R, s, m, args, below, meth, c, b, D, cI, n0, s0, rv0, hF, Q⟩ := K
  refine And.intro k.1 (fun hf H locs ls h1 h2 h3 h4 h5 => ?_)
  obtain ⟨hx, hb, hown, hts, hK, hini, hbs, hrc, hrs, hfr, hlo⟩ := C.1 hf
  exact lv_lmul hx hb hd (k.2 hf H locs ls h1 h2 h3 h4 h5)
theorem g_lrem {x y : Int64} (C : xOK K own cc ini bz fr lo) (hd : decode cc pc = .ok (.lrem, 1)) (hne : ¬ y = 0) (k : xG K (pc + 1) env (.long (x - x / y * y) :: st) h) : xG K pc env (.long y :: .long x :: st) h := by
  obtain ⟨fl, p, l, e, R, s, m, args, below, meth, c, b, D, cI, n0, s0, rv0, hF, Q⟩ := K
  refine And.intro k.1 (fun hf H locs ls h1 h2 h3 h4 h5 => ?_)
  obtain ⟨hx, hb, hown, hts, hK, hini, hbs, hrc, hrs, hfr, hlo⟩ := C.1 hf
  exact lv_lrem hx hb hd hne (k.2 hf H locs ls h1 h2 h3 h4 h5)
theorem g_lcmp {x y : Int64} (C : xOK K own cc ini bz fr lo) (hd : decode cc pc = .ok (.lcmp, 1)) (k : xG K (pc + 1) env (.int (lg_cmp x y) :: st) h) : xG K pc env (.long y :: .long x :: st) h := by
  obtain ⟨fl, p, l, e, R, s, m, args, below, meth, c, b, D, cI, n0, s0, rv0, hF, Q⟩ := K
  refine And.intro k.1 (fun hf H locs ls h1 h2 h3 h4 h5 => ?_)
  obtain ⟨hx, hb, hown, hts, hK, hini, hbs, hrc, hrs, hfr, hlo⟩ := C.1 hf
  exact W.lcmp hx hb hd (k.2 hf H locs ls h1 h2 h3 h4 h5)
theorem g_i2l {x : Int32} (C : xOK K own cc ini bz fr lo) (hd : decode cc pc = .ok (.i2l, 1)) (k : xG K (pc + 1) env (.long x.toInt64 :: st) h) : xG K pc env (.int x :: st) h := by
  obtain ⟨fl, p, l, e, R, s, m, args, below, meth, c, b, D, cI, n0, s0, rv0, hF, Q⟩ := K
  refine And.intro k.1 (fun hf H locs ls h1 h2 h3 h4 h5 => ?_)
  obtain ⟨hx, hb, hown, hts, hK, hini, hbs, hrc, hrs, hfr, hlo⟩ := C.1 hf
  exact lv_i2l hx hb hd rfl (k.2 hf H locs ls h1 h2 h3 h4 h5)
theorem g_l2i {x : Int64} (C : xOK K own cc ini bz fr lo) (hd : decode cc pc = .ok (.l2i, 1)) (k : xG K (pc + 1) env (.int x.toInt32 :: st) h) : xG K pc env (.long x :: st) h := by
  obtain ⟨fl, p, l, e, R, s, m, args, below, meth, c, b, D, cI, n0, s0, rv0, hF, Q⟩ := K
  refine And.intro k.1 (fun hf H locs ls h1 h2 h3 h4 h5 => ?_)
  obtain ⟨hx, hb, hown, hts, hK, hini, hbs, hrc, hrs, hfr, hlo⟩ := C.1 hf
  exact lv_l2i hx hb hd rfl (k.2 hf H locs ls h1 h2 h3 h4 h5)
theorem g_i2c {x : Int32} (C : xOK K own cc ini bz fr lo) (hd : decode cc pc = .ok (.i2c, 1)) (k : xG K (pc + 1) env (.int (x.toUInt32 % 65536).toInt32 :: st) h) : xG K pc env (.int x :: st) h := by
  obtain ⟨fl, p, l, e, R, s, m, args, below, meth, c, b, D, cI, n0, s0, rv0, hF, Q⟩ := K
  refine And.intro k.1 (fun hf H locs ls h1 h2 h3 h4 h5 => ?_)
  obtain ⟨hx, hb, hown, hts, hK, hini, hbs, hrc, hrs, hfr, hlo⟩ := C.1 hf
  exact lv_i2c hx hb hd rfl (k.2 hf H locs ls h1 h2 h3 h4 h5)
theorem g_iconst {n : Int} {v : Int32} (C : xOK K own cc ini bz fr lo) (hd : decode cc pc = .ok (.iconst n, 1)) (hv : Int32.ofInt n = v) (k : xG K (pc + 1) env (.int v :: st) h) : xG K pc env (st) h := by
  obtain ⟨fl, p, l, e, R, s, m, args, below, meth, c, b, D, cI, n0, s0, rv0, hF, Q⟩ := K
  refine And.intro k.1 (fun hf H locs ls h1 h2 h3 h4 h5 => ?_)
  obtain ⟨hx, hb, hown, hts, hK, hini, hbs, hrc, hrs, hfr, hlo⟩ := C.1 hf
  exact lv_iconst hx hb hd hv (k.2 hf H locs ls h1 h2 h3 h4 h5)
theorem g_bipush {n : Int} {v : Int32} (C : xOK K own cc ini bz fr lo) (hd : decode cc pc = .ok (.bipush n, 2)) (hv : (Int8.ofInt n).toInt32 = v) (k : xG K (pc + 2) env (.int v :: st) h) : xG K pc env (st) h := by
  obtain ⟨fl, p, l, e, R, s, m, args, below, meth, c, b, D, cI, n0, s0, rv0, hF, Q⟩ := K
  refine And.intro k.1 (fun hf H locs ls h1 h2 h3 h4 h5 => ?_)
  obtain ⟨hx, hb, hown, hts, hK, hini, hbs, hrc, hrs, hfr, hlo⟩ := C.1 hf
  exact lv_bipush hx hb hd hv (k.2 hf H locs ls h1 h2 h3 h4 h5)
theorem g_sipush {n : Int} {v : Int32} (C : xOK K own cc ini bz fr lo) (hd : decode cc pc = .ok (.sipush n, 3)) (hv : (Int16.ofInt n).toInt32 = v) (k : xG K (pc + 3) env (.int v :: st) h) : xG K pc env (st) h := by
  obtain ⟨fl, p, l, e, R, s, m, args, below, meth, c, b, D, cI, n0, s0, rv0, hF, Q⟩ := K
  refine And.intro k.1 (fun hf H locs ls h1 h2 h3 h4 h5 => ?_)
  obtain ⟨hx, hb, hown, hts, hK, hini, hbs, hrc, hrs, hfr, hlo⟩ := C.1 hf
  exact lv_sipush hx hb hd hv (k.2 hf H locs ls h1 h2 h3 h4 h5)
theorem g_lconst {n : Fin 2} {v : Int64} (C : xOK K own cc ini bz fr lo) (hd : decode cc pc = .ok (.lconst n, 1)) (hv : Int64.ofNat (n : Nat) = v) (k : xG K (pc + 1) env (.long v :: st) h) : xG K pc env (st) h := by
  obtain ⟨fl, p, l, e, R, s, m, args, below, meth, c, b, D, cI, n0, s0, rv0, hF, Q⟩ := K
  refine And.intro k.1 (fun hf H locs ls h1 h2 h3 h4 h5 => ?_)
  obtain ⟨hx, hb, hown, hts, hK, hini, hbs, hrc, hrs, hfr, hlo⟩ := C.1 hf
  exact lv_lconst hx hb hd hv (k.2 hf H locs ls h1 h2 h3 h4 h5)
theorem g_ldc {i : Nat} {v : Int32} (C : xOK K own cc ini bz fr lo) (hd : decode cc pc = .ok (.ldc i, 2)) (hw : Cond.constant own i v ∈ xBW) (k : xG K (pc + 2) env (.int v :: st) h) : xG K pc env (st) h := by
  obtain ⟨fl, p, l, e, R, s, m, args, below, meth, c, b, D, cI, n0, s0, rv0, hF, Q⟩ := K
  refine And.intro k.1 (fun hf H locs ls h1 h2 h3 h4 h5 => ?_)
  obtain ⟨hx, hb, hown, hts, hK, hini, hbs, hrc, hrs, hfr, hlo⟩ := C.1 hf
  exact lv_ldc hx hb hown (hts _ hw) hd (k.2 hf H locs ls h1 h2 h3 h4 h5)
theorem g_ldcw {i : Nat} {v : Int32} (C : xOK K own cc ini bz fr lo) (hd : decode cc pc = .ok (.ldc_w i, 3)) (hw : Cond.constant own i v ∈ xBW) (k : xG K (pc + 3) env (.int v :: st) h) : xG K pc env (st) h := by
  obtain ⟨fl, p, l, e, R, s, m, args, below, meth, c, b, D, cI, n0, s0, rv0, hF, Q⟩ := K
  refine And.intro k.1 (fun hf H locs ls h1 h2 h3 h4 h5 => ?_)
  obtain ⟨hx, hb, hown, hts, hK, hini, hbs, hrc, hrs, hfr, hlo⟩ := C.1 hf
  exact lv_ldcw hx hb hown (hts _ hw) hd (k.2 hf H locs ls h1 h2 h3 h4 h5)
theorem g_ldc2 {i : Nat} {v : Int64} (C : xOK K own cc ini bz fr lo) (hd : decode cc pc = .ok (.ldc2_w i, 3)) (hw : Cond.constantLong own i v ∈ xBW) (k : xG K (pc + 3) env (.long v :: st) h) : xG K pc env (st) h := by
  obtain ⟨fl, p, l, e, R, s, m, args, below, meth, c, b, D, cI, n0, s0, rv0, hF, Q⟩ := K
  refine And.intro k.1 (fun hf H locs ls h1 h2 h3 h4 h5 => ?_)
  obtain ⟨hx, hb, hown, hts, hK, hini, hbs, hrc, hrs, hfr, hlo⟩ := C.1 hf
  exact lv_ldc2 hx hb hown (hts _ hw) hd (k.2 hf H locs ls h1 h2 h3 h4 h5)
theorem g_iload_n {q : Fin 4} {i : Nat} {x : Int32} (C : xOK K own cc ini bz fr lo) (hd : decode cc pc = .ok (.iload_n q, 1)) (hi : (q : Nat) = i) (hl : env[i]? = some (some (.int x))) (k : xG K (pc + 1) env (.int x :: st) h) : xG K pc env (st) h := by
  obtain ⟨fl, p, l, e, R, s, m, args, below, meth, c, b, D, cI, n0, s0, rv0, hF, Q⟩ := K
  refine And.intro k.1 (fun hf H locs ls h1 h2 h3 h4 h5 => ?_)
  obtain ⟨hx, hb, hown, hts, hK, hini, hbs, hrc, hrs, hfr, hlo⟩ := C.1 hf
  exact lv_iload_n hx hb hd hi (h1.2.2.2 _ _ hl) (k.2 hf H locs ls h1 h2 h3 h4 h5)
theorem g_iload {i : Nat} {x : Int32} (C : xOK K own cc ini bz fr lo) (hd : decode cc pc = .ok (.iload i, 2)) (hl : env[i]? = some (some (.int x))) (k : xG K (pc + 2) env (.int x :: st) h) : xG K pc env (st) h := by
  obtain ⟨fl, p, l, e, R, s, m, args, below, meth, c, b, D, cI, n0, s0, rv0, hF, Q⟩ := K
  refine And.intro k.1 (fun hf H locs ls h1 h2 h3 h4 h5 => ?_)
  obtain ⟨hx, hb, hown, hts, hK, hini, hbs, hrc, hrs, hfr, hlo⟩ := C.1 hf
  exact lv_iload hx hb hd (h1.2.2.2 _ _ hl) (k.2 hf H locs ls h1 h2 h3 h4 h5)
theorem g_lload_n {q : Fin 4} {i : Nat} {x : Int64} (C : xOK K own cc ini bz fr lo) (hd : decode cc pc = .ok (.lload_n q, 1)) (hi : (q : Nat) = i) (hl : env[i]? = some (some (.long x))) (k : xG K (pc + 1) env (.long x :: st) h) : xG K pc env (st) h := by
  obtain ⟨fl, p, l, e, R, s, m, args, below, meth, c, b, D, cI, n0, s0, rv0, hF, Q⟩ := K
  refine And.intro k.1 (fun hf H locs ls h1 h2 h3 h4 h5 => ?_)
  obtain ⟨hx, hb, hown, hts, hK, hini, hbs, hrc, hrs, hfr, hlo⟩ := C.1 hf
  exact lv_lload_n hx hb hd hi (h1.2.2.2 _ _ hl) (k.2 hf H locs ls h1 h2 h3 h4 h5)
theorem g_lload {i : Nat} {x : Int64} (C : xOK K own cc ini bz fr lo) (hd : decode cc pc = .ok (.lload i, 2)) (hl : env[i]? = some (some (.long x))) (k : xG K (pc + 2) env (.long x :: st) h) : xG K pc env (st) h := by
  obtain ⟨fl, p, l, e, R, s, m, args, below, meth, c, b, D, cI, n0, s0, rv0, hF, Q⟩ := K
  refine And.intro k.1 (fun hf H locs ls h1 h2 h3 h4 h5 => ?_)
  obtain ⟨hx, hb, hown, hts, hK, hini, hbs, hrc, hrs, hfr, hlo⟩ := C.1 hf
  exact lv_lload hx hb hd (h1.2.2.2 _ _ hl) (k.2 hf H locs ls h1 h2 h3 h4 h5)
theorem g_aload_n {q : Fin 4} {i x : Nat} (C : xOK K own cc ini bz fr lo) (hd : decode cc pc = .ok (.aload_n q, 1)) (hi : (q : Nat) = i) (hl : env[i]? = some (some (.ref x))) (k : xG K (pc + 1) env (.ref x :: st) h) : xG K pc env (st) h := by
  obtain ⟨fl, p, l, e, R, s, m, args, below, meth, c, b, D, cI, n0, s0, rv0, hF, Q⟩ := K
  refine And.intro k.1 (fun hf H locs ls h1 h2 h3 h4 h5 => ?_)
  obtain ⟨hx, hb, hown, hts, hK, hini, hbs, hrc, hrs, hfr, hlo⟩ := C.1 hf
  exact lv_aload_n hx hb hd hi (h1.2.2.2 _ _ hl) (k.2 hf H locs ls h1 h2 h3 h4 h5)
theorem g_aload {i x : Nat} (C : xOK K own cc ini bz fr lo) (hd : decode cc pc = .ok (.aload i, 2)) (hl : env[i]? = some (some (.ref x))) (k : xG K (pc + 2) env (.ref x :: st) h) : xG K pc env (st) h := by
  obtain ⟨fl, p, l, e, R, s, m, args, below, meth, c, b, D, cI, n0, s0, rv0, hF, Q⟩ := K
  refine And.intro k.1 (fun hf H locs ls h1 h2 h3 h4 h5 => ?_)
  obtain ⟨hx, hb, hown, hts, hK, hini, hbs, hrc, hrs, hfr, hlo⟩ := C.1 hf
  exact lv_aload hx hb hd (h1.2.2.2 _ _ hl) (k.2 hf H locs ls h1 h2 h3 h4 h5)
theorem g_aload_nR {q : Fin 4} {i x : Nat} (C : xOK K own cc ini bz fr lo) (hd : decode cc pc = .ok (.aload_n q, 1)) (hi : (q : Nat) = i) (hl : env[i]? = some (some (.retAddr x))) (k : xG K (pc + 1) env (.retAddr x :: st) h) : xG K pc env (st) h := by
  obtain ⟨fl, p, l, e, R, s, m, args, below, meth, c, b, D, cI, n0, s0, rv0, hF, Q⟩ := K
  refine And.intro k.1 (fun hf H locs ls h1 h2 h3 h4 h5 => ?_)
  obtain ⟨hx, hb, hown, hts, hK, hini, hbs, hrc, hrs, hfr, hlo⟩ := C.1 hf
  exact lv_aload_n hx hb hd hi (h1.2.2.2 _ _ hl) (k.2 hf H locs ls h1 h2 h3 h4 h5)
theorem g_aloadR {i x : Nat} (C : xOK K own cc ini bz fr lo) (hd : decode cc pc = .ok (.aload i, 2)) (hl : env[i]? = some (some (.retAddr x))) (k : xG K (pc + 2) env (.retAddr x :: st) h) : xG K pc env (st) h := by
  obtain ⟨fl, p, l, e, R, s, m, args, below, meth, c, b, D, cI, n0, s0, rv0, hF, Q⟩ := K
  refine And.intro k.1 (fun hf H locs ls h1 h2 h3 h4 h5 => ?_)
  obtain ⟨hx, hb, hown, hts, hK, hini, hbs, hrc, hrs, hfr, hlo⟩ := C.1 hf
  exact lv_aload hx hb hd (h1.2.2.2 _ _ hl) (k.2 hf H locs ls h1 h2 h3 h4 h5)
theorem g_dup {v : Value} (C : xOK K own cc ini bz fr lo) (hd : decode cc pc = .ok (.dup, 1)) (hc : v.category = 1) (k : xG K (pc + 1) env (v :: v :: st) h) : xG K pc env (v :: st) h := by
  obtain ⟨fl, p, l, e, R, s, m, args, below, meth, c, b, D, cI, n0, s0, rv0, hF, Q⟩ := K
  refine And.intro k.1 (fun hf H locs ls h1 h2 h3 h4 h5 => ?_)
  obtain ⟨hx, hb, hown, hts, hK, hini, hbs, hrc, hrs, hfr, hlo⟩ := C.1 hf
  exact lv_dup hx hb hd ((xv_cat b v).trans hc) (k.2 hf H locs ls h1 h2 h3 h4 h5)
theorem g_pop {v : Value} (C : xOK K own cc ini bz fr lo) (hd : decode cc pc = .ok (.pop, 1)) (hc : v.category = 1) (k : xG K (pc + 1) env (st) h) : xG K pc env (v :: st) h := by
  obtain ⟨fl, p, l, e, R, s, m, args, below, meth, c, b, D, cI, n0, s0, rv0, hF, Q⟩ := K
  refine And.intro k.1 (fun hf H locs ls h1 h2 h3 h4 h5 => ?_)
  obtain ⟨hx, hb, hown, hts, hK, hini, hbs, hrc, hrs, hfr, hlo⟩ := C.1 hf
  exact lv_pop hx hb hd ((xv_cat b v).trans hc) (k.2 hf H locs ls h1 h2 h3 h4 h5)
theorem g_dup2 {v w : Value} (C : xOK K own cc ini bz fr lo) (hd : decode cc pc = .ok (.dup2, 1)) (hc : v.category = 1) (hc2 : w.category = 1) (k : xG K (pc + 1) env (v :: w :: v :: w :: st) h) : xG K pc env (v :: w :: st) h := by
  obtain ⟨fl, p, l, e, R, s, m, args, below, meth, c, b, D, cI, n0, s0, rv0, hF, Q⟩ := K
  refine And.intro k.1 (fun hf H locs ls h1 h2 h3 h4 h5 => ?_)
  obtain ⟨hx, hb, hown, hts, hK, hini, hbs, hrc, hrs, hfr, hlo⟩ := C.1 hf
  exact lv_dup2_11 hx hb hd ((xv_cat b v).trans hc) ((xv_cat b w).trans hc2) (k.2 hf H locs ls h1 h2 h3 h4 h5)
theorem g_goto {off : Int} {tgt : Nat} (C : xOK K own cc ini bz fr lo) (hd : decode cc pc = .ok (.goto off, 3)) (ht : (pc : Int) + off = (tgt : Int)) (k : xG K tgt env (st) h) : xG K pc env (st) h := by
  obtain ⟨fl, p, l, e, R, s, m, args, below, meth, c, b, D, cI, n0, s0, rv0, hF, Q⟩ := K
  refine And.intro k.1 (fun hf H locs ls h1 h2 h3 h4 h5 => ?_)
  obtain ⟨hx, hb, hown, hts, hK, hini, hbs, hrc, hrs, hfr, hlo⟩ := C.1 hf
  exact lv_goto hx hb hd ht (k.2 hf H locs ls h1 h2 h3 h4 h5)
theorem g_if_eq {x : Int32} {off : Int} {tgt : Nat} (C : xOK K own cc ini bz fr lo) (hd : decode cc pc = .ok (.ifCond .eq off, 3)) (ht : (pc : Int) + off = (tgt : Int)) (k : xG K (if x = 0 then tgt else pc + 3) env st h) : xG K pc env (.int x :: st) h := by
  obtain ⟨fl, p, l, e, R, s, m, args, below, meth, c, b, D, cI, n0, s0, rv0, hF, Q⟩ := K
  refine And.intro k.1 (fun hf H locs ls h1 h2 h3 h4 h5 => ?_)
  obtain ⟨hx, hb, hown, hts, hK, hini, hbs, hrc, hrs, hfr, hlo⟩ := C.1 hf
  refine lv_if_eq hx hb hd ht (fun q => ?_) (fun q => ?_)
  · have k2 := k.2 hf H locs ls h1 h2 h3 h4 h5
    rw [if_pos q] at k2
    exact k2
  · have k2 := k.2 hf H locs ls h1 h2 h3 h4 h5
    rw [if_neg q] at k2
    exact k2
theorem g_icmp_eq {x y : Int32} {off : Int} {tgt : Nat} (C : xOK K own cc ini bz fr lo) (hd : decode cc pc = .ok (.if_icmp .eq off, 3)) (ht : (pc : Int) + off = (tgt : Int)) (k : xG K (if x = y then tgt else pc + 3) env st h) : xG K pc env (.int y :: .int x :: st) h := by
  obtain ⟨fl, p, l, e, R, s, m, args, below, meth, c, b, D, cI, n0, s0, rv0, hF, Q⟩ := K
  refine And.intro k.1 (fun hf H locs ls h1 h2 h3 h4 h5 => ?_)
  obtain ⟨hx, hb, hown, hts, hK, hini, hbs, hrc, hrs, hfr, hlo⟩ := C.1 hf
  refine lv_icmp_eq hx hb hd ht (fun q => ?_) (fun q => ?_)
  · have k2 := k.2 hf H locs ls h1 h2 h3 h4 h5
    rw [if_pos q] at k2
    exact k2
  · have k2 := k.2 hf H locs ls h1 h2 h3 h4 h5
    rw [if_neg q] at k2
    exact k2
theorem g_if_ne {x : Int32} {off : Int} {tgt : Nat} (C : xOK K own cc ini bz fr lo) (hd : decode cc pc = .ok (.ifCond .ne off, 3)) (ht : (pc : Int) + off = (tgt : Int)) (k : xG K (if ¬ x = 0 then tgt else pc + 3) env st h) : xG K pc env (.int x :: st) h := by
  obtain ⟨fl, p, l, e, R, s, m, args, below, meth, c, b, D, cI, n0, s0, rv0, hF, Q⟩ := K
  refine And.intro k.1 (fun hf H locs ls h1 h2 h3 h4 h5 => ?_)
  obtain ⟨hx, hb, hown, hts, hK, hini, hbs, hrc, hrs, hfr, hlo⟩ := C.1 hf
  refine lv_if_ne hx hb hd ht (fun q => ?_) (fun q => ?_)
  · have k2 := k.2 hf H locs ls h1 h2 h3 h4 h5
    rw [if_pos q] at k2
    exact k2
  · have k2 := k.2 hf H locs ls h1 h2 h3 h4 h5
    rw [if_neg (fun z => z q)] at k2
    exact k2
theorem g_icmp_ne {x y : Int32} {off : Int} {tgt : Nat} (C : xOK K own cc ini bz fr lo) (hd : decode cc pc = .ok (.if_icmp .ne off, 3)) (ht : (pc : Int) + off = (tgt : Int)) (k : xG K (if ¬ x = y then tgt else pc + 3) env st h) : xG K pc env (.int y :: .int x :: st) h := by
  obtain ⟨fl, p, l, e, R, s, m, args, below, meth, c, b, D, cI, n0, s0, rv0, hF, Q⟩ := K
  refine And.intro k.1 (fun hf H locs ls h1 h2 h3 h4 h5 => ?_)
  obtain ⟨hx, hb, hown, hts, hK, hini, hbs, hrc, hrs, hfr, hlo⟩ := C.1 hf
  refine lv_icmp_ne hx hb hd ht (fun q => ?_) (fun q => ?_)
  · have k2 := k.2 hf H locs ls h1 h2 h3 h4 h5
    rw [if_pos q] at k2
    exact k2
  · have k2 := k.2 hf H locs ls h1 h2 h3 h4 h5
    rw [if_neg (fun z => z q)] at k2
    exact k2
theorem g_if_lt {x : Int32} {off : Int} {tgt : Nat} (C : xOK K own cc ini bz fr lo) (hd : decode cc pc = .ok (.ifCond .lt off, 3)) (ht : (pc : Int) + off = (tgt : Int)) (k : xG K (if x < 0 then tgt else pc + 3) env st h) : xG K pc env (.int x :: st) h := by
  obtain ⟨fl, p, l, e, R, s, m, args, below, meth, c, b, D, cI, n0, s0, rv0, hF, Q⟩ := K
  refine And.intro k.1 (fun hf H locs ls h1 h2 h3 h4 h5 => ?_)
  obtain ⟨hx, hb, hown, hts, hK, hini, hbs, hrc, hrs, hfr, hlo⟩ := C.1 hf
  refine lv_if_lt hx hb hd ht (fun q => ?_) (fun q => ?_)
  · have k2 := k.2 hf H locs ls h1 h2 h3 h4 h5
    rw [if_pos q] at k2
    exact k2
  · have k2 := k.2 hf H locs ls h1 h2 h3 h4 h5
    rw [if_neg q] at k2
    exact k2
theorem g_icmp_lt {x y : Int32} {off : Int} {tgt : Nat} (C : xOK K own cc ini bz fr lo) (hd : decode cc pc = .ok (.if_icmp .lt off, 3)) (ht : (pc : Int) + off = (tgt : Int)) (k : xG K (if x < y then tgt else pc + 3) env st h) : xG K pc env (.int y :: .int x :: st) h := by
  obtain ⟨fl, p, l, e, R, s, m, args, below, meth, c, b, D, cI, n0, s0, rv0, hF, Q⟩ := K
  refine And.intro k.1 (fun hf H locs ls h1 h2 h3 h4 h5 => ?_)
  obtain ⟨hx, hb, hown, hts, hK, hini, hbs, hrc, hrs, hfr, hlo⟩ := C.1 hf
  refine lv_icmp_lt hx hb hd ht (fun q => ?_) (fun q => ?_)
  · have k2 := k.2 hf H locs ls h1 h2 h3 h4 h5
    rw [if_pos q] at k2
    exact k2
  · have k2 := k.2 hf H locs ls h1 h2 h3 h4 h5
    rw [if_neg q] at k2
    exact k2
theorem g_if_ge {x : Int32} {off : Int} {tgt : Nat} (C : xOK K own cc ini bz fr lo) (hd : decode cc pc = .ok (.ifCond .ge off, 3)) (ht : (pc : Int) + off = (tgt : Int)) (k : xG K (if 0 ≤ x then tgt else pc + 3) env st h) : xG K pc env (.int x :: st) h := by
  obtain ⟨fl, p, l, e, R, s, m, args, below, meth, c, b, D, cI, n0, s0, rv0, hF, Q⟩ := K
  refine And.intro k.1 (fun hf H locs ls h1 h2 h3 h4 h5 => ?_)
  obtain ⟨hx, hb, hown, hts, hK, hini, hbs, hrc, hrs, hfr, hlo⟩ := C.1 hf
  refine lv_if_ge hx hb hd ht (fun q => ?_) (fun q => ?_)
  · have k2 := k.2 hf H locs ls h1 h2 h3 h4 h5
    rw [if_pos q] at k2
    exact k2
  · have k2 := k.2 hf H locs ls h1 h2 h3 h4 h5
    rw [if_neg q] at k2
    exact k2
theorem g_icmp_ge {x y : Int32} {off : Int} {tgt : Nat} (C : xOK K own cc ini bz fr lo) (hd : decode cc pc = .ok (.if_icmp .ge off, 3)) (ht : (pc : Int) + off = (tgt : Int)) (k : xG K (if y ≤ x then tgt else pc + 3) env st h) : xG K pc env (.int y :: .int x :: st) h := by
  obtain ⟨fl, p, l, e, R, s, m, args, below, meth, c, b, D, cI, n0, s0, rv0, hF, Q⟩ := K
  refine And.intro k.1 (fun hf H locs ls h1 h2 h3 h4 h5 => ?_)
  obtain ⟨hx, hb, hown, hts, hK, hini, hbs, hrc, hrs, hfr, hlo⟩ := C.1 hf
  refine lv_icmp_ge hx hb hd ht (fun q => ?_) (fun q => ?_)
  · have k2 := k.2 hf H locs ls h1 h2 h3 h4 h5
    rw [if_pos q] at k2
    exact k2
  · have k2 := k.2 hf H locs ls h1 h2 h3 h4 h5
    rw [if_neg q] at k2
    exact k2
theorem g_if_gt {x : Int32} {off : Int} {tgt : Nat} (C : xOK K own cc ini bz fr lo) (hd : decode cc pc = .ok (.ifCond .gt off, 3)) (ht : (pc : Int) + off = (tgt : Int)) (k : xG K (if 0 < x then tgt else pc + 3) env st h) : xG K pc env (.int x :: st) h := by
  obtain ⟨fl, p, l, e, R, s, m, args, below, meth, c, b, D, cI, n0, s0, rv0, hF, Q⟩ := K
  refine And.intro k.1 (fun hf H locs ls h1 h2 h3 h4 h5 => ?_)
  obtain ⟨hx, hb, hown, hts, hK, hini, hbs, hrc, hrs, hfr, hlo⟩ := C.1 hf
  refine lv_if_gt hx hb hd ht (fun q => ?_) (fun q => ?_)
  · have k2 := k.2 hf H locs ls h1 h2 h3 h4 h5
    rw [if_pos q] at k2
    exact k2
  · have k2 := k.2 hf H locs ls h1 h2 h3 h4 h5
    rw [if_neg q] at k2
    exact k2
theorem g_icmp_gt {x y : Int32} {off : Int} {tgt : Nat} (C : xOK K own cc ini bz fr lo) (hd : decode cc pc = .ok (.if_icmp .gt off, 3)) (ht : (pc : Int) + off = (tgt : Int)) (k : xG K (if y < x then tgt else pc + 3) env st h) : xG K pc env (.int y :: .int x :: st) h := by
  obtain ⟨fl, p, l, e, R, s, m, args, below, meth, c, b, D, cI, n0, s0, rv0, hF, Q⟩ := K
  refine And.intro k.1 (fun hf H locs ls h1 h2 h3 h4 h5 => ?_)
  obtain ⟨hx, hb, hown, hts, hK, hini, hbs, hrc, hrs, hfr, hlo⟩ := C.1 hf
  refine lv_icmp_gt hx hb hd ht (fun q => ?_) (fun q => ?_)
  · have k2 := k.2 hf H locs ls h1 h2 h3 h4 h5
    rw [if_pos q] at k2
    exact k2
  · have k2 := k.2 hf H locs ls h1 h2 h3 h4 h5
    rw [if_neg q] at k2
    exact k2
theorem g_if_le {x : Int32} {off : Int} {tgt : Nat} (C : xOK K own cc ini bz fr lo) (hd : decode cc pc = .ok (.ifCond .le off, 3)) (ht : (pc : Int) + off = (tgt : Int)) (k : xG K (if x ≤ 0 then tgt else pc + 3) env st h) : xG K pc env (.int x :: st) h := by
  obtain ⟨fl, p, l, e, R, s, m, args, below, meth, c, b, D, cI, n0, s0, rv0, hF, Q⟩ := K
  refine And.intro k.1 (fun hf H locs ls h1 h2 h3 h4 h5 => ?_)
  obtain ⟨hx, hb, hown, hts, hK, hini, hbs, hrc, hrs, hfr, hlo⟩ := C.1 hf
  refine lv_if_le hx hb hd ht (fun q => ?_) (fun q => ?_)
  · have k2 := k.2 hf H locs ls h1 h2 h3 h4 h5
    rw [if_pos q] at k2
    exact k2
  · have k2 := k.2 hf H locs ls h1 h2 h3 h4 h5
    rw [if_neg q] at k2
    exact k2
theorem g_icmp_le {x y : Int32} {off : Int} {tgt : Nat} (C : xOK K own cc ini bz fr lo) (hd : decode cc pc = .ok (.if_icmp .le off, 3)) (ht : (pc : Int) + off = (tgt : Int)) (k : xG K (if x ≤ y then tgt else pc + 3) env st h) : xG K pc env (.int y :: .int x :: st) h := by
  obtain ⟨fl, p, l, e, R, s, m, args, below, meth, c, b, D, cI, n0, s0, rv0, hF, Q⟩ := K
  refine And.intro k.1 (fun hf H locs ls h1 h2 h3 h4 h5 => ?_)
  obtain ⟨hx, hb, hown, hts, hK, hini, hbs, hrc, hrs, hfr, hlo⟩ := C.1 hf
  refine lv_icmp_le hx hb hd ht (fun q => ?_) (fun q => ?_)
  · have k2 := k.2 hf H locs ls h1 h2 h3 h4 h5
    rw [if_pos q] at k2
    exact k2
  · have k2 := k.2 hf H locs ls h1 h2 h3 h4 h5
    rw [if_neg q] at k2
    exact k2
end XR
end
section
/-! THE RULES of the cells: locals that are written, fields, arrays, new cells, switches -/
def xlg (env : XE) (i : Nat) : Bool := match i with
  | 0 => false
  | j + 1 => match env[j]? with
    | some (some (.long _)) => true
    | some (some (.double _)) => true
    | _ => false
def xst1 (env : XE) (i : Nat) (v : Value) : Option XE := if xlg env i = false ∧ i < env.length then some (env.set i (some v)) else none
def xst2 (env : XE) (i : Nat) (v : Value) : Option XE := if xlg env i = false ∧ i + 1 < env.length then some ((env.set i (some v)).set (i + 1) none) else none
def xLv (b : Nat) (env : XE) : List (Nat × Value) := (List.range env.length).filterMap (fun j => (env[j]?.join).map (fun v => (j, xv b v)))
theorem xLv_mem {b : Nat} {env : XE} {j : Nat} {w : Value} (h : env[j]? = some (some w)) : (j, xv b w) ∈ xLv b env := by
  have hj : j < env.length := (List.getElem?_eq_some_iff.mp h).1
  refine List.mem_filterMap.mpr ⟨j, List.mem_range.mpr hj, ?_⟩
  rw [h]
  rfl
theorem xLv_has {b n : Nat} {env : XE} {ls : Array Slot} (h : xRel b n env ls) : lv_has ls n (xLv b env) := by
  obtain ⟨h1, h2, h3, h4⟩ := h
  refine ⟨h2, h3, fun q hq => ?_⟩
  obtain ⟨j, -, hj⟩ := List.mem_filterMap.mp hq
  cases e : env[j]? with
  | none => rw [e] at hj; cases hj
  | some o =>
    cases o with
    | none => rw [e] at hj; cases hj
    | some w =>
      rw [e] at hj
      cases hj
      exact h4 j w e
theorem xlg_cat {env : XE} {j : Nat} {w : Value} (h : xlg env (j + 1) = false) (hw : env[j]? = some (some w)) : ¬ w.category = 2 := by
  unfold xlg at h
  simp only [hw] at h
  cases w <;> simp_all [Value.category]
theorem xst1_rel {b n i : Nat} {v : Value} {env env' : XE} {ls ls' : Array Slot} (h : xRel b n env ls) (he : xst1 env i v = some env') (h' : lv_has ls' n ((i, xv b v) :: (xLv b env).filter (fun q => !(q.1 == i) && !(q.1 + 1 == i && q.2.category == 2)))) : xRel b n env' ls' := by
  unfold xst1 at he
  split at he
  · rename_i hc
    cases he
    refine ⟨by rw [List.length_set]; exact h.1, h'.1, h'.2.1, fun j w hj => ?_⟩
    by_cases hji : j = i
    · subst hji
      rw [List.getElem?_set_self hc.2] at hj
      cases hj
      exact h'.2.2 _ (List.mem_cons_self)
    · rw [List.getElem?_set_ne (fun q => hji q.symm)] at hj
      refine h'.2.2 (j, xv b w) (List.mem_cons_of_mem _ (List.mem_filter.mpr ⟨xLv_mem hj, ?_⟩))
      have hz : ¬ (j + 1 = i ∧ (xv b w).category = 2) := by
        rintro ⟨q1, q2⟩
        subst q1
        rw [xv_cat] at q2
        exact xlg_cat hc.1 hj q2
      simp only [Bool.and_eq_true, Bool.not_eq_true', beq_eq_false_iff_ne, ne_eq, hji, not_false_eq_true, true_and]
      rw [← Bool.not_eq_true]
      simpa using hz
  · cases he
theorem xst2_rel {b n i : Nat} {v : Value} {env env' : XE} {ls ls' : Array Slot} (h : xRel b n env ls) (he : xst2 env i v = some env') (h' : lv_has ls' n ((i, xv b v) :: (xLv b env).filter (fun q => !(q.1 == i) && (!(q.1 == i + 1) && !(q.1 + 1 == i && q.2.category == 2))))) : xRel b n env' ls' := by
  unfold xst2 at he
  split at he
  · rename_i hc
    cases he
    refine ⟨by rw [List.length_set, List.length_set]; exact h.1, h'.1, h'.2.1, fun j w hj => ?_⟩
    by_cases hji : j = i
    · subst hji
      rw [List.getElem?_set_ne (by omega), List.getElem?_set_self (by omega)] at hj
      cases hj
      exact h'.2.2 _ (List.mem_cons_self)
    · by_cases hj1 : j = i + 1
      · subst hj1
        rw [List.getElem?_set_self (by rw [List.length_set]; exact hc.2)] at hj
        cases hj
      · rw [List.getElem?_set_ne (fun q => hj1 q.symm), List.getElem?_set_ne (fun q => hji q.symm)] at hj
        refine h'.2.2 (j, xv b w) (List.mem_cons_of_mem _ (List.mem_filter.mpr ⟨xLv_mem hj, ?_⟩))
        have hz : ¬ (j + 1 = i ∧ (xv b w).category = 2) := by
          rintro ⟨q1, q2⟩
          subst q1
          rw [xv_cat] at q2
          exact xlg_cat hc.1 hj q2
        simp only [Bool.and_eq_true, Bool.not_eq_true', beq_eq_false_iff_ne, ne_eq, hji, hj1, not_false_eq_true, true_and]
        rw [← Bool.not_eq_true]
        simpa using hz
  · cases he
theorem xst1_lt {env env' : XE} {i : Nat} {v : Value} (he : xst1 env i v = some env') : i < env.length := by
  unfold xst1 at he
  split at he
  · rename_i hc; exact hc.2
  · cases he
theorem xst2_lt {env env' : XE} {i : Nat} {v : Value} (he : xst2 env i v = some env') : i + 1 < env.length := by
  unfold xst2 at he
  split at he
  · rename_i hc; exact hc.2
  · cases he
def xFld (own : String) (idx ci k : Nat) : Prop := ∃ r : vw_C, xCl[ci]? = some r ∧ k < r.2.2 ∧ Cond.fieldLink own idx (r.2.1 k).1 (r.2.1 k).2.1 (r.2.1 k).2.2.1 ∈ xBW
/-- the kinds of field: 0 int, 1 boolean, 2 a reference -/
def xKd (kd : Nat) (v : Value) : Bool := match kd, v with
  | 0, .int _ => true
  | 1, .int x => x == 0 || x == 1
  | 2, .ref _ => true
  | _, _ => false
def xKt (kd : Nat) (ty : FieldType) : Bool := match kd, ty with
  | 0, .int => true
  | 1, .boolean => true
  | 2, .object _ => true
  | 2, .array _ => true
  | _, _ => false
theorem xKd_ok {kd b : Nat} {v : Value} {ty : FieldType} (h : xKd kd v = true) (ht : xKt kd ty = true) : narrow ty (xv b v) = xv b v ∧ fits ty (xv b v) = true := by
  unfold xKt at ht
  split at ht
  · cases v <;> simp_all [xKd, xv, narrow, fits]
  · cases v <;> simp [xKd] at h
    rename_i x
    rcases h with h | h <;> subst h
    · exact ⟨(by decide +kernel : narrow FieldType.boolean (.int 0) = .int 0), (by decide +kernel : fits FieldType.boolean (.int 0) = true)⟩
    · exact ⟨(by decide +kernel : narrow FieldType.boolean (.int 1) = .int 1), (by decide +kernel : fits FieldType.boolean (.int 1) = true)⟩
  · cases v <;> simp_all [xKd, xv, narrow, fits]
  · cases v <;> simp_all [xKd, xv, narrow, fits]
  · cases ht
def xPut (own : String) (idx ci k kd : Nat) (ini : Bool) : Prop := ∃ (r : vw_C) (ty : FieldType), xCl[ci]? = some r ∧ k < r.2.2 ∧ Cond.fieldLink own idx (r.2.1 k).1 (r.2.1 k).2.1 (r.2.1 k).2.2.1 ∈ xBW ∧ parseFieldDescriptor (r.2.1 k).2.2.1 = some ty ∧ xKt kd ty = true ∧ ((r.2.1 k).2.2.2 = true → ini = true ∧ (r.2.1 k).1 = own)
theorem xsl_set {h : XH} {a : Nat} {c c' : XC} (ha : h[a]? = some c) (hs : xSz c' = xSz c) : xsl (h.set a c') = xsl h := by
  unfold xsl
  induction h generalizing a with
  | nil => simp at ha
  | cons x t ih =>
    cases a with
    | zero =>
      simp at ha
      subst ha
      simp [hs]
    | succ n =>
      simp at ha
      simp only [List.set_cons_succ, List.map_cons, List.sum_cons]
      rw [ih ha]
theorem xAg_set {b a : Nat} {D : va_G} {cI : Nat → ClassId} {h : XH} {H H' : Heap} {c' : XC} (hA : xAg b D cI h H) (hl : a < h.length) (hz : H'.size = H.size) (ho : ∀ q, q ≠ b + a → H'[q]? = H[q]?) (hc : va_at D xCl (b + a, xE b cI c') H') : xAg b D cI (h.set a c') H' := by
  refine ⟨by rw [hz, List.length_set]; exact hA.1, fun j c hj => ?_⟩
  by_cases hja : j = a
  · subst hja
    rw [List.getElem?_set_self hl] at hj
    cases hj
    exact hc
  · rw [List.getElem?_set_ne (fun q => hja q.symm)] at hj
    exact (hA.2 j c hj).kept (ho _ (by omega))
theorem xAg_push {b : Nat} {D : va_G} {cI : Nat → ClassId} {h : XH} {H H' : Heap} {c' : XC} (hA : xAg b D cI h H) (hz : H'.size = H.size + 1) (ho : ∀ q, q < H.size → H'[q]? = H[q]?) (hc : va_at D xCl (H.size, xE b cI c') H') : xAg b D cI (h ++ [c']) H' := by
  refine ⟨by rw [hz, hA.1, List.length_append]; rfl, fun j c hj => ?_⟩
  by_cases hjl : j < h.length
  · rw [List.getElem?_append_left hjl] at hj
    exact (hA.2 j c hj).kept (ho _ (by rw [hA.1]; exact Nat.add_lt_add_left hjl b))
  · rw [List.getElem?_append_right (by omega)] at hj
    have hz2 : j - h.length < 1 := (List.getElem?_eq_some_iff.mp hj).1
    have hj0 : j = h.length := by omega
    subst hj0
    rw [show h.length - h.length = 0 by omega] at hj
    cases hj
    rw [← hA.1]
    exact hc
theorem xP1 {D : va_G} {q : Nat × va_E} {H : Heap} (h : va_at D xCl q H) : va_P D xCl [q] H := by
  intro k x hk
  have hz : k < 1 := (List.getElem?_eq_some_iff.mp hk).1
  rw [show k = 0 by omega] at hk
  cases hk
  exact h
end
section
/-! THE RULES of locals, fields, arrays, new cells, switches -/
section XA
variable {K : XK} {own : String} {cc : ByteArray} {ini bz : Bool} {fr lo pc : Nat} {env env' : XE} {st : List Value} {h : XH}
theorem g_istore_n {q : Fin 4} {i : Nat} {x : Int32} (C : xOK K own cc ini bz fr lo) (hd : decode cc pc = .ok (.istore_n q, 1)) (hi : (q : Nat) = i) (he : xst1 env i (.int x) = some env') (k : xG K (pc + 1) env' st h) : xG K pc env (.int x :: st) h := by
  obtain ⟨fl, p, l, e, R, s, m, args, below, meth, c, b, D, cI, n0, s0, rv0, hF, Q⟩ := K
  refine And.intro k.1 (fun hf H locs ls h1 h2 h3 h4 h5 => ?_)
  obtain ⟨hx, hb, hown, hts, hK, hini, hbs, hrc, hrs, hfr, hlo⟩ := C.1 hf
  have hn := xst1_lt he
  exact lv_istore_n hx hb hd hi (xLv_has h1) (by rw [← h1.1]; exact hn) rfl (fun ls' h' => k.2 hf H locs ls' (xst1_rel h1 he h') h2 h3 h4 h5)
theorem g_istore {i : Nat} {x : Int32} (C : xOK K own cc ini bz fr lo) (hd : decode cc pc = .ok (.istore i, 2)) (he : xst1 env i (.int x) = some env') (k : xG K (pc + 2) env' st h) : xG K pc env (.int x :: st) h := by
  obtain ⟨fl, p, l, e, R, s, m, args, below, meth, c, b, D, cI, n0, s0, rv0, hF, Q⟩ := K
  refine And.intro k.1 (fun hf H locs ls h1 h2 h3 h4 h5 => ?_)
  obtain ⟨hx, hb, hown, hts, hK, hini, hbs, hrc, hrs, hfr, hlo⟩ := C.1 hf
  have hn := xst1_lt he
  exact lv_istore hx hb hd (xLv_has h1) (by rw [← h1.1]; exact hn) rfl (fun ls' h' => k.2 hf H locs ls' (xst1_rel h1 he h') h2 h3 h4 h5)
theorem g_lstore_n {q : Fin 4} {i : Nat} {x : Int64} (C : xOK K own cc ini bz fr lo) (hd : decode cc pc = .ok (.lstore_n q, 1)) (hi : (q : Nat) = i) (he : xst2 env i (.long x) = some env') (k : xG K (pc + 1) env' st h) : xG K pc env (.long x :: st) h := by
  obtain ⟨fl, p, l, e, R, s, m, args, below, meth, c, b, D, cI, n0, s0, rv0, hF, Q⟩ := K
  refine And.intro k.1 (fun hf H locs ls h1 h2 h3 h4 h5 => ?_)
  obtain ⟨hx, hb, hown, hts, hK, hini, hbs, hrc, hrs, hfr, hlo⟩ := C.1 hf
  have hn := xst2_lt he
  exact lv_lstore_n hx hb hd hi (xLv_has h1) (by rw [← h1.1]; exact hn) rfl (fun ls' h' => k.2 hf H locs ls' (xst2_rel h1 he h') h2 h3 h4 h5)
theorem g_lstore {i : Nat} {x : Int64} (C : xOK K own cc ini bz fr lo) (hd : decode cc pc = .ok (.lstore i, 2)) (he : xst2 env i (.long x) = some env') (k : xG K (pc + 2) env' st h) : xG K pc env (.long x :: st) h := by
  obtain ⟨fl, p, l, e, R, s, m, args, below, meth, c, b, D, cI, n0, s0, rv0, hF, Q⟩ := K
  refine And.intro k.1 (fun hf H locs ls h1 h2 h3 h4 h5 => ?_)
  obtain ⟨hx, hb, hown, hts, hK, hini, hbs, hrc, hrs, hfr, hlo⟩ := C.1 hf
  have hn := xst2_lt he
  exact lv_lstore hx hb hd (xLv_has h1) (by rw [← h1.1]; exact hn) rfl (fun ls' h' => k.2 hf H locs ls' (xst2_rel h1 he h') h2 h3 h4 h5)
theorem g_astore_n {q : Fin 4} {i : Nat} {x : Nat} (C : xOK K own cc ini bz fr lo) (hd : decode cc pc = .ok (.astore_n q, 1)) (hi : (q : Nat) = i) (he : xst1 env i (.ref x) = some env') (k : xG K (pc + 1) env' st h) : xG K pc env (.ref x :: st) h := by
  obtain ⟨fl, p, l, e, R, s, m, args, below, meth, c, b, D, cI, n0, s0, rv0, hF, Q⟩ := K
  refine And.intro k.1 (fun hf H locs ls h1 h2 h3 h4 h5 => ?_)
  obtain ⟨hx, hb, hown, hts, hK, hini, hbs, hrc, hrs, hfr, hlo⟩ := C.1 hf
  have hn := xst1_lt he
  exact lv_astore_n hx hb hd hi (xLv_has h1) (by rw [← h1.1]; exact hn) rfl (fun ls' h' => k.2 hf H locs ls' (xst1_rel h1 he h') h2 h3 h4 h5)
theorem g_astore {i : Nat} {x : Nat} (C : xOK K own cc ini bz fr lo) (hd : decode cc pc = .ok (.astore i, 2)) (he : xst1 env i (.ref x) = some env') (k : xG K (pc + 2) env' st h) : xG K pc env (.ref x :: st) h := by
  obtain ⟨fl, p, l, e, R, s, m, args, below, meth, c, b, D, cI, n0, s0, rv0, hF, Q⟩ := K
  refine And.intro k.1 (fun hf H locs ls h1 h2 h3 h4 h5 => ?_)
  obtain ⟨hx, hb, hown, hts, hK, hini, hbs, hrc, hrs, hfr, hlo⟩ := C.1 hf
  have hn := xst1_lt he
  exact lv_astore hx hb hd (xLv_has h1) (by rw [← h1.1]; exact hn) rfl (fun ls' h' => k.2 hf H locs ls' (xst1_rel h1 he h') h2 h3 h4 h5)
theorem g_iinc {i : Nat} {n : Int} {x : Int32} (C : xOK K own cc ini bz fr lo) (hd : decode cc pc = .ok (.iinc i n, 3)) (hl : env[i]? = some (some (.int x))) (he : xst1 env i (.int (x + Int32.ofInt n)) = some env') (k : xG K (pc + 3) env' st h) : xG K pc env st h := by
  obtain ⟨fl, p, l, e, R, s, m, args, below, meth, c, b, D, cI, n0, s0, rv0, hF, Q⟩ := K
  refine And.intro k.1 (fun hf H locs ls h1 h2 h3 h4 h5 => ?_)
  obtain ⟨hx, hb, hown, hts, hK, hini, hbs, hrc, hrs, hfr, hlo⟩ := C.1 hf
  obtain ⟨j, hj⟩ := List.getElem?_of_mem (xLv_mem (b := b) hl)
  exact lv_iinc hx hb hd (xLv_has h1) hj rfl (by rw [← h1.1]; exact xst1_lt he) rfl (fun ls' h' => k.2 hf H locs ls' (xst1_rel h1 he h') h2 h3 h4 h5)
theorem g_getf {idx ci f a : Nat} {fs : List Value} {v : Value} (C : xOK K own cc ini bz fr lo) (hd : decode cc pc = .ok (.getfield idx, 3)) (hQ : xFld own idx ci f) (hh : h[a]? = some (.inl (ci, fs))) (hv : fs[f]? = some v) (k : xG K (pc + 3) env (v :: st) h) : xG K pc env (.ref a :: st) h := by
  obtain ⟨fl, p, l, e, R, s, m, args, below, meth, c, b, D, cI, n0, s0, rv0, hF, Q⟩ := K
  refine And.intro k.1 (fun hf H locs ls h1 h2 h3 h4 h5 => ?_)
  obtain ⟨hx, hb, hown, hts, hK, hini, hbs, hrc, hrs, hfr, hlo⟩ := C.1 hf
  obtain ⟨r, hr, hk, hw⟩ := hQ
  obtain ⟨o1, -, -⟩ := xCl_ok ci r hr
  exact va_get (D := D) (cl := xCl) (ci := ci) (C := r.1) (T := r.2.1) (N := r.2.2) hx hb hts o1 hown hK (xP1 (h2.2 a _ hh)) 0 rfl hr f hk (hts _ hw) (fun _ h9 => h9) (v := xv b v) (by rw [List.getElem?_map, hv]; rfl) hd (k.2 hf H locs ls h1 h2 h3 h4 h5)
theorem g_putf {idx ci f kd a : Nat} {fs : List Value} {v : Value} (C : xOK K own cc ini bz fr lo) (hd : decode cc pc = .ok (.putfield idx, 3)) (hQ : xPut own idx ci f kd ini) (hh : h[a]? = some (.inl (ci, fs))) (hl : f < fs.length) (hv : xKd kd v = true) (k : xG K (pc + 3) env st (h.set a (.inl (ci, fs.set f v)))) : xG K pc env (v :: .ref a :: st) h := by
  obtain ⟨fl, p, l, e, R, s, m, args, below, meth, c, b, D, cI, n0, s0, rv0, hF, Q⟩ := K
  have k1 := k.1
  have hS : xsl (h.set a (.inl (ci, fs.set f v))) = xsl h := xsl_set hh (by simp [xSz])
  rw [List.length_set, hS] at k1
  refine And.intro k1 (fun hf H locs ls h1 h2 h3 h4 h5 => ?_)
  obtain ⟨hx, hb, hown, hts, hK, hini, hbs, hrc, hrs, hfr, hlo⟩ := C.1 hf
  obtain ⟨r, ty, hr, hk, hw, hty, hkt, hfin⟩ := hQ
  obtain ⟨o1, ⟨ty0, o2⟩, o3⟩ := xCl_ok ci r hr
  obtain ⟨z1, z2⟩ := xKd_ok (b := b) hv hkt
  have hal : a < h.length := (List.getElem?_eq_some_iff.mp hh).1
  have kk := k.2 hf
  rw [hS, List.length_set] at kk
  obtain ⟨r', e1, cell, q1, q2, q3, q4⟩ := h2.2 a _ hh
  have hrr : r' = r := Option.some.inj (e1.symm.trans hr)
  subst hrr
  obtain ⟨hSl, hfc, kC, hkC, hkind⟩ := hK.1 ci _ hr
  obtain ⟨cf, kf, fi, fd, hi, hsl⟩ := hSl f hk
  have hap := va_apart (own := own) hts o1 ty0 o2 o3 hK hr
  have hlay := hts _ (o1 _ (u_in_lay hk))
  have hst := (u_facts hfc hkC (u_lays hts o1 hk) hi).1
  have hfit := u_fits hfc hkC hkind (u_lays hts o1 hk) hi hty z1 z2
  have hend : ∀ H' : Heap, H'[b + a]? = some (cell.setSlot fd.slot (xv b v)) → H'.size = H.size → (∀ q, q ≠ b + a → H'[q]? = H[q]?) → W p l e R s m args below meth c H' (locs ++ [⟨b + a, fd.slot⟩]) (h.length - n0) (xsl h - s0) Q (F0 m (pc + 3) ls (st.map (xv b))) := by
    intro H' f1 f2 f3
    refine kk H' _ ls h1 (xAg_set h2 hal f2 f3 ?_) (fun q hq => ?_) (fun q hq => ?_) h5
    · rw [hsl] at f1
      refine ⟨r', hr, t_OB.to (V := updV (vp_V (fs.map (xv b))) f (xv b v)) ⟨_, f1, q2, q3, t_set q4 hap hk _⟩ (fun j _ => ?_)⟩
      rw [vp_updV_set (by rw [List.length_map]; exact hl)]
      show _ = vp_V ((fs.set f v).map (xv b)) j
      rw [List.map_set]
    · rw [f3 q (Nat.ne_of_lt (Nat.lt_of_lt_of_le hq (Nat.le_add_right b a)))]
      exact h3 q hq
    · rcases List.mem_append.mp hq with g | g
      · exact h4 q g
      · rw [List.mem_singleton.mp g]
        exact Nat.le_add_right b a
  cases hfl : (r'.2.1 f).2.2.2 with
  | false =>
    unfold u_lay at hlay
    rw [if_neg (by rw [hfl]; decide)] at hlay
    have h6 := u_store hfc hkC hkind hlay hi hty z1 z2
    exact W.putK hx hb (f := fd) ⟨hown, hts _ hw, ⟨_, _, _, hi⟩, hst⟩ (by rw [q2]; exact h6) q1 q3 (by rw [hsl]; exact k2_hasslot (q4 f hk)) rfl rfl hd hend
  | true =>
    unfold u_lay at hlay
    rw [if_pos hfl] at hlay
    obtain ⟨hi1, hdecl⟩ := hfin hfl
    have hcf : m.cls = cf := by
      obtain ⟨_, _, c', _, _, _, -, -, hf', -, -, -, hown2, -⟩ := Cond.laysFinal_spec hlay
      have e2 : c' = cf := by have := hi.symm.trans hf'; simp at this; exact this.1.symm
      rw [hdecl] at hown2
      rw [← e2]; exact Option.some.inj (hown.symm.trans hown2)
    exact W.putFinK hx hb hown (hts _ hw) hi hst hcf (hini hi1) (by rw [q2]; exact hfit) q1 q3 (by rw [hsl]; exact k2_hasslot (q4 f hk)) rfl rfl hd hend
theorem g_iald {a : Nat} {xs : List Int32} {i : Int32} (C : xOK K own cc ini bz fr lo) (hd : decode cc pc = .ok (.iaload, 1)) (hh : h[a]? = some (.inr (.inl (0, xs)))) (hi : vp_in i xs.length) (k : xG K (pc + 1) env (.int (xs.getD i.toNatClampNeg 0) :: st) h) : xG K pc env (.int i :: .ref a :: st) h := by
  obtain ⟨fl, p, l, e, R, s, m, args, below, meth, c, b, D, cI, n0, s0, rv0, hF, Q⟩ := K
  refine And.intro k.1 (fun hf H locs ls h1 h2 h3 h4 h5 => ?_)
  obtain ⟨hx, hb, hown, hts, hK, hini, hbs, hrc, hrs, hfr, hlo⟩ := C.1 hf
  exact va_iald (D := D) (cl := xCl) (tys := xTy cI) (cA := cI 0) hx hb hK (xP1 (h2.2 a _ hh)) 0 0 rfl rfl hi hd (k.2 hf H locs ls h1 h2 h3 h4 h5)
theorem g_cald {a : Nat} {xs : List Int32} {i : Int32} (C : xOK K own cc ini bz fr lo) (hd : decode cc pc = .ok (.caload, 1)) (hh : h[a]? = some (.inr (.inl (1, xs)))) (hi : vp_in i xs.length) (k : xG K (pc + 1) env (.int (xs.getD i.toNatClampNeg 0) :: st) h) : xG K pc env (.int i :: .ref a :: st) h := by
  obtain ⟨fl, p, l, e, R, s, m, args, below, meth, c, b, D, cI, n0, s0, rv0, hF, Q⟩ := K
  refine And.intro k.1 (fun hf H locs ls h1 h2 h3 h4 h5 => ?_)
  obtain ⟨hx, hb, hown, hts, hK, hini, hbs, hrc, hrs, hfr, hlo⟩ := C.1 hf
  exact va_cald (D := D) (cl := xCl) (tys := xTy cI) (cA := cI 1) hx hb hK (xP1 (h2.2 a _ hh)) 0 1 rfl rfl hi hd (k.2 hf H locs ls h1 h2 h3 h4 h5)
theorem g_aald {a x : Nat} {rs : List (Option Nat)} {i : Int32} (C : xOK K own cc ini bz fr lo) (hd : decode cc pc = .ok (.aaload, 1)) (hh : h[a]? = some (.inr (.inr rs))) (hi : vp_in i rs.length) (hr : rs.getD i.toNatClampNeg none = some x) (k : xG K (pc + 1) env (.ref x :: st) h) : xG K pc env (.int i :: .ref a :: st) h := by
  obtain ⟨fl, p, l, e, R, s, m, args, below, meth, c, b, D, cI, n0, s0, rv0, hF, Q⟩ := K
  refine And.intro k.1 (fun hf H locs ls h1 h2 h3 h4 h5 => ?_)
  obtain ⟨hx, hb, hown, hts, hK, hini, hbs, hrc, hrs, hfr, hlo⟩ := C.1 hf
  have kk := k.2 hf H locs ls h1 h2 h3 h4 h5
  refine va_aldq (D := D) (cl := xCl) (tys := xTy cI) (cA := cI 2) hx hb hK (xP1 (h2.2 a _ hh)) 0 2 rfl rfl hi hd ?_
  show W _ _ _ _ _ _ _ _ _ _ _ _ _ _ _ (F0 m (pc + 1) ls (va_rf ((rs.getD i.toNatClampNeg none).map (fun a => b + a)) :: _))
  rw [hr]
  exact kk
theorem g_alen {a : Nat} {xs : List Int32} {t : Nat} (C : xOK K own cc ini bz fr lo) (hd : decode cc pc = .ok (.arraylength, 1)) (hh : h[a]? = some (.inr (.inl (t, xs)))) (ht : t < 2) (k : xG K (pc + 1) env (.int (Int32.ofNat xs.length) :: st) h) : xG K pc env (.ref a :: st) h := by
  obtain ⟨fl, p, l, e, R, s, m, args, below, meth, c, b, D, cI, n0, s0, rv0, hF, Q⟩ := K
  refine And.intro k.1 (fun hf H locs ls h1 h2 h3 h4 h5 => ?_)
  obtain ⟨hx, hb, hown, hts, hK, hini, hbs, hrc, hrs, hfr, hlo⟩ := C.1 hf
  have hz : ∃ ty : FieldType, (xTy cI)[t]? = some (cI t, ty) := by
    match t, ht with
    | 0, _ => exact ⟨_, rfl⟩
    | 1, _ => exact ⟨_, rfl⟩
  obtain ⟨ty, hz⟩ := hz
  refine W.alen (n := Int32.ofNat xs.length) hx hb (h2.2 a _ hh) ((hK.2 t _ hz).1 xs.length _) ?_ rfl rfl hd (k.2 hf H locs ls h1 h2 h3 h4 h5)
  show (arrV _ _ _).slots.size.toInt32 = _
  rw [arrV_size]
  try rfl
theorem g_alenR {a : Nat} {rs : List (Option Nat)} (C : xOK K own cc ini bz fr lo) (hd : decode cc pc = .ok (.arraylength, 1)) (hh : h[a]? = some (.inr (.inr rs))) (k : xG K (pc + 1) env (.int (Int32.ofNat rs.length) :: st) h) : xG K pc env (.ref a :: st) h := by
  obtain ⟨fl, p, l, e, R, s, m, args, below, meth, c, b, D, cI, n0, s0, rv0, hF, Q⟩ := K
  refine And.intro k.1 (fun hf H locs ls h1 h2 h3 h4 h5 => ?_)
  obtain ⟨hx, hb, hown, hts, hK, hini, hbs, hrc, hrs, hfr, hlo⟩ := C.1 hf
  refine W.alen (n := Int32.ofNat rs.length) hx hb (h2.2 a _ hh) ((hK.2 2 _ rfl).1 rs.length _) ?_ rfl rfl hd (k.2 hf H locs ls h1 h2 h3 h4 h5)
  show (arrV _ _ _).slots.size.toInt32 = _
  rw [arrV_size]
  try rfl
theorem g_iast {a : Nat} {xs : List Int32} {i x : Int32} (C : xOK K own cc ini bz fr lo) (hd : decode cc pc = .ok (.iastore, 1)) (hh : h[a]? = some (.inr (.inl (0, xs)))) (hi : vp_in i xs.length) (k : xG K (pc + 1) env st (h.set a (.inr (.inl (0, xs.set i.toNatClampNeg x))))) : xG K pc env (.int x :: .int i :: .ref a :: st) h := by
  obtain ⟨fl, p, l, e, R, s, m, args, below, meth, c, b, D, cI, n0, s0, rv0, hF, Q⟩ := K
  have k1 := k.1
  have hS : xsl (h.set a (.inr (.inl (0, xs.set i.toNatClampNeg x)))) = xsl h := xsl_set hh (by simp [xSz])
  rw [List.length_set, hS] at k1
  refine And.intro k1 (fun hf H locs ls h1 h2 h3 h4 h5 => ?_)
  obtain ⟨hx, hb, hown, hts, hK, hini, hbs, hrc, hrs, hfr, hlo⟩ := C.1 hf
  have hal : a < h.length := (List.getElem?_eq_some_iff.mp hh).1
  have kk := k.2 hf
  rw [hS, List.length_set] at kk
  have hcell := h2.2 a _ hh
  refine W.iast hx hb hcell ((hK.2 0 _ rfl).1 xs.length (fun j => .int (xs.getD j 0))) (fun q => by cases q) (by show ¬ (i < 0 ∨ (arrV _ _ _).slots.size ≤ _); rw [arrV_size]; exact hi) rfl rfl hd (fun H' f1 f2 f3 => ?_)
  refine kk H' _ ls h1 (xAg_set h2 hal f2 f3 ?_) (fun q hq => ?_) (fun q hq => ?_) h5
  · show H'[b + a]? = some (vp_cell _ _)
    rw [f1]
    show some ((vp_cell (cI 0) (xs.length, .inl (fun j => xs.getD j 0))).setSlot _ _) = some (vp_cell (cI 0) ((xs.set i.toNatClampNeg x).length, .inl (fun j => (xs.set i.toNatClampNeg x).getD j 0)))
    rw [vp_cell_i, vp_cell_i, arrV_store, List.length_set]
    congr 2
    funext q
    have hlt : i.toNatClampNeg < xs.length := Nat.not_le.mp fun q => hi (Or.inr q)
    by_cases hq : q = i.toNatClampNeg
    · subst hq
      simp [updV, hlt]
      try rfl
    · have hq2 : ¬ i.toNatClampNeg = q := fun z => hq z.symm
      simp [updV, hq, hq2]
  · rw [f3 q (Nat.ne_of_lt (Nat.lt_of_lt_of_le hq (Nat.le_add_right b a)))]
    exact h3 q hq
  · rcases List.mem_append.mp hq with g | g
    · exact h4 q g
    · rw [List.mem_singleton.mp g]
      exact Nat.le_add_right b a
theorem g_cast {a : Nat} {xs : List Int32} {i x : Int32} (C : xOK K own cc ini bz fr lo) (hd : decode cc pc = .ok (.castore, 1)) (hh : h[a]? = some (.inr (.inl (1, xs)))) (hi : vp_in i xs.length) (k : xG K (pc + 1) env st (h.set a (.inr (.inl (1, xs.set i.toNatClampNeg (vp_nar .char x)))))) : xG K pc env (.int x :: .int i :: .ref a :: st) h := by
  obtain ⟨fl, p, l, e, R, s, m, args, below, meth, c, b, D, cI, n0, s0, rv0, hF, Q⟩ := K
  have k1 := k.1
  have hS : xsl (h.set a (.inr (.inl (1, xs.set i.toNatClampNeg (vp_nar .char x))))) = xsl h := xsl_set hh (by simp [xSz])
  rw [List.length_set, hS] at k1
  refine And.intro k1 (fun hf H locs ls h1 h2 h3 h4 h5 => ?_)
  obtain ⟨hx, hb, hown, hts, hK, hini, hbs, hrc, hrs, hfr, hlo⟩ := C.1 hf
  have hal : a < h.length := (List.getElem?_eq_some_iff.mp hh).1
  have kk := k.2 hf
  rw [hS, List.length_set] at kk
  have hcell := h2.2 a _ hh
  refine W.cast hx hb hcell ((hK.2 1 _ rfl).1 xs.length (fun j => .int (xs.getD j 0))) (fun q => by cases q) (by show ¬ (i < 0 ∨ (arrV _ _ _).slots.size ≤ _); rw [arrV_size]; exact hi) rfl rfl hd (fun H' f1 f2 f3 => ?_)
  refine kk H' _ ls h1 (xAg_set h2 hal f2 f3 ?_) (fun q hq => ?_) (fun q hq => ?_) h5
  · show H'[b + a]? = some (vp_cell _ _)
    rw [f1]
    show some ((vp_cell (cI 1) (xs.length, .inl (fun j => xs.getD j 0))).setSlot _ _) = some (vp_cell (cI 1) ((xs.set i.toNatClampNeg (vp_nar .char x)).length, .inl (fun j => (xs.set i.toNatClampNeg (vp_nar .char x)).getD j 0)))
    rw [vp_cell_i, vp_cell_i, arrV_store, List.length_set]
    congr 2
    funext q
    have hlt : i.toNatClampNeg < xs.length := Nat.not_le.mp fun q => hi (Or.inr q)
    by_cases hq : q = i.toNatClampNeg
    · subst hq
      simp [updV, hlt, vp_nar]
      try rfl
    · have hq2 : ¬ i.toNatClampNeg = q := fun z => hq z.symm
      simp [updV, hq, hq2]
  · rw [f3 q (Nat.ne_of_lt (Nat.lt_of_lt_of_le hq (Nat.le_add_right b a)))]
    exact h3 q hq
  · rcases List.mem_append.mp hq with g | g
    · exact h4 q g
    · rw [List.mem_singleton.mp g]
      exact Nat.le_add_right b a
theorem g_aast {a y ci : Nat} {rs : List (Option Nat)} {fs : List Value} {i : Int32} (C : xOK K own cc ini bz fr lo) (hd : decode cc pc = .ok (.aastore, 1)) (hh : h[a]? = some (.inr (.inr rs))) (hi : vp_in i rs.length) (hy : h[y]? = some (.inl (6, fs))) (k : xG K (pc + 1) env st (h.set a (.inr (.inr (rs.set i.toNatClampNeg (some y)))))) : xG K pc env (.ref y :: .int i :: .ref a :: st) h := by
  obtain ⟨fl, p, l, e, R, s, m, args, below, meth, c, b, D, cI, n0, s0, rv0, hF, Q⟩ := K
  have k1 := k.1
  have hS : xsl (h.set a (.inr (.inr (rs.set i.toNatClampNeg (some y))))) = xsl h := xsl_set hh (by simp [xSz])
  rw [List.length_set, hS] at k1
  refine And.intro k1 (fun hf H locs ls h1 h2 h3 h4 h5 => ?_)
  obtain ⟨hx, hb, hown, hts, hK, hini, hbs, hrc, hrs, hfr, hlo⟩ := C.1 hf
  have hal : a < h.length := (List.getElem?_eq_some_iff.mp hh).1
  have kk := k.2 hf
  rw [hS, List.length_set] at kk
  have hcell := h2.2 a _ hh
  have hlt : i.toNatClampNeg < rs.length := Nat.not_le.mp fun q => hi (Or.inr q)
  have hi0 : ¬ i < 0 := fun q => hi (Or.inl q)
  obtain ⟨r', hr', cellV, g1, g2, g3, -⟩ := h2.2 y _ hy
  have hcls := (hK.1 6 (RX6, TX6, 7) rfl).2
  obtain ⟨kA, comp, t1, t2, t3, -⟩ := (hK.2 2 (cI 2, .object RX6) rfl).2
  have hcomp : comp = D.1 6 := Option.some.inj (t3.symm.trans hcls.1)
  subst hcomp
  obtain ⟨kC, hkC, -⟩ := id hcls.2
  refine W.aast hx hb hcell (fun q h => by cases h) (fun h => by cases h) t1 t2 rfl hkC ⟨hi0, by show _ < (arrV _ _ _).slots.size; rw [arrV_size]; exact hlt⟩ g1 (fun q h => by rw [g3] at h; cases h) (by rw [g2]; exact hkC) (by rw [g2]; exact va_assign hcls) rfl rfl hd (fun H' f1 f2 f3 => ?_)
  refine kk H' _ ls h1 (xAg_set h2 hal f2 f3 ?_) (fun q hq => ?_) (fun q hq => ?_) h5
  · show H'[b + a]? = some (vp_cell _ _)
    rw [f1]
    show some ((vp_cell (cI 2) (rs.length, .inr (.inr (.inr (.inr (fun j => (rs.getD j none).map (fun a => b + a))))))).setSlot _ _) = some (vp_cell (cI 2) ((rs.set i.toNatClampNeg (some y)).length, .inr (.inr (.inr (.inr (fun j => ((rs.set i.toNatClampNeg (some y)).getD j none).map (fun a => b + a)))))))
    rw [vp_cell_q, vp_cell_q, arrV_store, List.length_set]
    congr 2
    funext q
    by_cases hq : q = i.toNatClampNeg
    · subst hq
      simp [updV, va_rf, hlt]
    · have hq2 : ¬ i.toNatClampNeg = q := fun z => hq z.symm
      simp [updV, hq, hq2]
  · rw [f3 q (Nat.ne_of_lt (Nat.lt_of_lt_of_le hq (Nat.le_add_right b a)))]
    exact h3 q hq
  · rcases List.mem_append.mp hq with g | g
    · exact h4 q g
    · rw [List.mem_singleton.mp g]
      exact Nat.le_add_right b a
end XA
end
section
/-! THE RULES of new cells, of switches, of copies -/
def xNew (own : String) (idx ci : Nat) : Prop := ∃ r : vw_C, xCl[ci]? = some r ∧ Cond.classLink own idx r.1 ∈ xBW ∧ Cond.instantiable r.1 r.2.2 ∈ xBW ∧ Cond.initialized r.1 ∈ xBW
/-- the fields of a new cell -/
def xDf (ci : Nat) : List Value := match xCl[ci]? with
  | some r => (List.range r.2.2).map (fun k => match parseFieldDescriptor (r.2.1 k).2.2.1 with
    | some ty => defaultValue ty
    | none => .null)
  | none => []
theorem xv_default (b : Nat) (ty : FieldType) : xv b (defaultValue ty) = defaultValue ty := by cases ty <;> rfl
theorem xsl_app (h : XH) (c : XC) : xsl (h ++ [c]) = xsl h + xSz c := by simp [xsl]
section XN
variable {K : XK} {own : String} {cc : ByteArray} {ini bz : Bool} {fr lo pc : Nat} {env env' : XE} {st : List Value} {h : XH}
theorem g_new {idx ci : Nat} (C : xOK K own cc ini bz fr lo) (hd : decode cc pc = .ok (.new idx, 3)) (hN : xNew own idx ci) (k : xG K (pc + 3) env (.ref h.length :: st) (h ++ [.inl (ci, xDf ci)])) : xG K pc env st h := by
  obtain ⟨r, hr, hw1, hw2, hw3⟩ := hN
  have hlen : (xDf ci).length = r.2.2 := by simp [xDf, hr]
  obtain ⟨fl, p, l, e, R, s, m, args, below, meth, c, b, D, cI, n0, s0, rv0, hF, Q⟩ := K
  have k1 := k.1
  rw [xsl_app, List.length_append] at k1
  have hsz : xSz (.inl (ci, xDf ci) : XC) = (xDf ci).length := by first | rfl | simp [xSz]
  rw [hsz] at k1
  refine And.intro ⟨Nat.le_trans (Nat.le_add_right _ _) k1.1, Nat.le_trans (Nat.le_add_right _ _) k1.2⟩ (fun hf H locs ls h1 h2 h3 h4 h5 => ?_)
  obtain ⟨hx, hb, hown, hts, hK, hini, hbs, hrc, hrs, hfr, hlo, hex⟩ := C.1 hf
  have kk := k.2 hf
  rw [xsl_app, List.length_append, hsz] at kk
  have j1 : h.length + 1 - n0 = h.length - n0 + 1 := by omega
  have j2 : xsl h + (xDf ci).length - s0 = xsl h - s0 + (xDf ci).length := by omega
  have j3 : h.length - n0 + 1 ≤ R.cells := by have := k1.1; simp only [List.length_cons, List.length_nil] at this; omega
  have j4 : xsl h - s0 + (xDf ci).length ≤ R.slots := by have := k1.2; omega
  simp only [List.length_cons, List.length_nil, Nat.zero_add] at kk
  rw [j1, j2] at kk
  obtain ⟨o1, ⟨ty0, o2⟩, o3⟩ := xCl_ok ci r hr
  have hKn := hK.1 ci _ hr
  rw [hlen] at kk j4
  refine W.newcK hx hb hown (hts _ hw1) (hts _ hw2) (hts _ hw3) rfl hd j3 j4 hKn.2.1 h2.1 fun H1 kC hkC e1 z1 q1 => ?_
  refine kk H1 locs ls h1 (xAg_push h2 (by rw [z1, h2.1]) (fun q hq => q1 q (by rw [← h2.1]; exact hq)) ?_) (fun q hq => by rw [q1 q (Nat.lt_of_lt_of_le hq (Nat.le_add_right _ _))]; exact h3 q hq) h4 ⟨by omega, by omega⟩
  rw [h2.1]
  refine ⟨r, hr, (u_born ty0 hts o1 hKn hkC e1 o2).to (fun j hj => ?_)⟩
  have hj2 : (xDf ci)[j]? = some (defaultValue (ty0 j)) := by
    simp only [xDf, hr, List.getElem?_map, List.getElem?_range hj, Option.map_some, o2 j hj]
  show _ = vp_V ((xDf ci).map (xv b)) j
  simp only [vp_V, List.getD_eq_getElem?_getD, List.getElem?_map, hj2, Option.map_some, xv_default, Option.getD_some]
theorem g_newi {i : Int32} (C : xOK K own cc ini bz fr lo) (hd : decode cc pc = .ok (.newarray .int, 2)) (hW : Cond.arrayClass (newarray.typeOf .int) ∈ xBW) (hi : ¬ i < 0) (hi2 : i.toNatClampNeg ≤ 100000) (k : xG K (pc + 2) env (.ref h.length :: st) (h ++ [.inr (.inl (0, List.replicate i.toNatClampNeg 0))])) : xG K pc env (.int i :: st) h := by
  obtain ⟨fl, p, l, e, R, s, m, args, below, meth, c, b, D, cI, n0, s0, rv0, hF, Q⟩ := K
  have k1 := k.1
  rw [xsl_app, List.length_append] at k1
  have hsz : xSz (.inr (.inl (0, List.replicate i.toNatClampNeg 0)) : XC) = i.toNatClampNeg := by first | rfl | simp [xSz]
  rw [hsz] at k1
  refine And.intro ⟨Nat.le_trans (Nat.le_add_right _ _) k1.1, Nat.le_trans (Nat.le_add_right _ _) k1.2⟩ (fun hf H locs ls h1 h2 h3 h4 h5 => ?_)
  obtain ⟨hx, hb, hown, hts, hK, hini, hbs, hrc, hrs, hfr, hlo, hex⟩ := C.1 hf
  have kk := k.2 hf
  rw [xsl_app, List.length_append, hsz] at kk
  have j1 : h.length + 1 - n0 = h.length - n0 + 1 := by omega
  have j2 : xsl h + i.toNatClampNeg - s0 = xsl h - s0 + i.toNatClampNeg := by omega
  have j3 : h.length - n0 + 1 ≤ R.cells := by have := k1.1; simp only [List.length_cons, List.length_nil] at this; omega
  have j4 : xsl h - s0 + i.toNatClampNeg ≤ R.slots := by have := k1.2; omega
  simp only [List.length_cons, List.length_nil, Nat.zero_add] at kk
  rw [j1, j2] at kk
  refine va_newaK (atype := .int) hx hb (hts _ hW) rfl hd rfl hi rfl (by show _ * componentBytes .int ≤ _; simp only [componentBytes]; omega) j3 j4 h2.1 fun H1 cA e1 z1 q1 hAr hNm => ?_
  have hcA : cA = cI 0 := Option.some.inj (hNm.symm.trans (hK.2 0 (cI 0, .int) rfl).2)
  subst hcA
  refine kk H1 locs ls h1 (xAg_push h2 (by rw [z1, h2.1]) (fun q hq => q1 q (by rw [← h2.1]; exact hq)) ?_) (fun q hq => by rw [q1 q (Nat.lt_of_lt_of_le hq (Nat.le_add_right _ _))]; exact h3 q hq) h4 ⟨by omega, by omega⟩
  rw [h2.1]
  show H1[b + h.length]? = some (vp_cell (cI 0) ((List.replicate i.toNatClampNeg (0 : Int32)).length, .inl (fun j => (List.replicate i.toNatClampNeg (0 : Int32)).getD j 0)))
  rw [e1, vp_cell_i, List.length_replicate]
  have hz : (fun j => Value.int ((List.replicate i.toNatClampNeg (0 : Int32)).getD j 0)) = (fun _ => Value.int 0) := by
    funext j
    by_cases hj : j < i.toNatClampNeg
    · simp [hj]
    · simp [hj]
  rw [hz]
  rfl
theorem g_newc {i : Int32} (C : xOK K own cc ini bz fr lo) (hd : decode cc pc = .ok (.newarray .char, 2)) (hW : Cond.arrayClass (newarray.typeOf .char) ∈ xBW) (hi : ¬ i < 0) (hi2 : i.toNatClampNeg ≤ 100000) (k : xG K (pc + 2) env (.ref h.length :: st) (h ++ [.inr (.inl (1, List.replicate i.toNatClampNeg 0))])) : xG K pc env (.int i :: st) h := by
  obtain ⟨fl, p, l, e, R, s, m, args, below, meth, c, b, D, cI, n0, s0, rv0, hF, Q⟩ := K
  have k1 := k.1
  rw [xsl_app, List.length_append] at k1
  have hsz : xSz (.inr (.inl (1, List.replicate i.toNatClampNeg 0)) : XC) = i.toNatClampNeg := by first | rfl | simp [xSz]
  rw [hsz] at k1
  refine And.intro ⟨Nat.le_trans (Nat.le_add_right _ _) k1.1, Nat.le_trans (Nat.le_add_right _ _) k1.2⟩ (fun hf H locs ls h1 h2 h3 h4 h5 => ?_)
  obtain ⟨hx, hb, hown, hts, hK, hini, hbs, hrc, hrs, hfr, hlo, hex⟩ := C.1 hf
  have kk := k.2 hf
  rw [xsl_app, List.length_append, hsz] at kk
  have j1 : h.length + 1 - n0 = h.length - n0 + 1 := by omega
  have j2 : xsl h + i.toNatClampNeg - s0 = xsl h - s0 + i.toNatClampNeg := by omega
  have j3 : h.length - n0 + 1 ≤ R.cells := by have := k1.1; simp only [List.length_cons, List.length_nil] at this; omega
  have j4 : xsl h - s0 + i.toNatClampNeg ≤ R.slots := by have := k1.2; omega
  simp only [List.length_cons, List.length_nil, Nat.zero_add] at kk
  rw [j1, j2] at kk
  refine va_newaK (atype := .char) hx hb (hts _ hW) rfl hd rfl hi rfl (by show _ * componentBytes .char ≤ _; simp only [componentBytes]; omega) j3 j4 h2.1 fun H1 cA e1 z1 q1 hAr hNm => ?_
  have hcA : cA = cI 1 := Option.some.inj (hNm.symm.trans (hK.2 1 (cI 1, .char) rfl).2)
  subst hcA
  refine kk H1 locs ls h1 (xAg_push h2 (by rw [z1, h2.1]) (fun q hq => q1 q (by rw [← h2.1]; exact hq)) ?_) (fun q hq => by rw [q1 q (Nat.lt_of_lt_of_le hq (Nat.le_add_right _ _))]; exact h3 q hq) h4 ⟨by omega, by omega⟩
  rw [h2.1]
  show H1[b + h.length]? = some (vp_cell (cI 1) ((List.replicate i.toNatClampNeg (0 : Int32)).length, .inl (fun j => (List.replicate i.toNatClampNeg (0 : Int32)).getD j 0)))
  rw [e1, vp_cell_i, List.length_replicate]
  have hz : (fun j => Value.int ((List.replicate i.toNatClampNeg (0 : Int32)).getD j 0)) = (fun _ => Value.int 0) := by
    funext j
    by_cases hj : j < i.toNatClampNeg
    · simp [hj]
    · simp [hj]
  rw [hz]
  rfl
theorem g_newr {idx : Nat} {i : Int32} (C : xOK K own cc ini bz fr lo) (hd : decode cc pc = .ok (.anewarray idx, 3)) (hW : Cond.classLink own idx RX6 ∈ xBW) (hi : ¬ i < 0) (hi2 : i.toNatClampNeg ≤ 100000) (k : xG K (pc + 3) env (.ref h.length :: st) (h ++ [.inr (.inr (List.replicate i.toNatClampNeg none))])) : xG K pc env (.int i :: st) h := by
  obtain ⟨fl, p, l, e, R, s, m, args, below, meth, c, b, D, cI, n0, s0, rv0, hF, Q⟩ := K
  have k1 := k.1
  rw [xsl_app, List.length_append] at k1
  have hsz : xSz (.inr (.inr (List.replicate i.toNatClampNeg none)) : XC) = i.toNatClampNeg := by first | rfl | simp [xSz]
  rw [hsz] at k1
  refine And.intro ⟨Nat.le_trans (Nat.le_add_right _ _) k1.1, Nat.le_trans (Nat.le_add_right _ _) k1.2⟩ (fun hf H locs ls h1 h2 h3 h4 h5 => ?_)
  obtain ⟨hx, hb, hown, hts, hK, hini, hbs, hrc, hrs, hfr, hlo, hex⟩ := C.1 hf
  have kk := k.2 hf
  rw [xsl_app, List.length_append, hsz] at kk
  have j1 : h.length + 1 - n0 = h.length - n0 + 1 := by omega
  have j2 : xsl h + i.toNatClampNeg - s0 = xsl h - s0 + i.toNatClampNeg := by omega
  have j3 : h.length - n0 + 1 ≤ R.cells := by have := k1.1; simp only [List.length_cons, List.length_nil] at this; omega
  have j4 : xsl h - s0 + i.toNatClampNeg ≤ R.slots := by have := k1.2; omega
  simp only [List.length_cons, List.length_nil, Nat.zero_add] at kk
  rw [j1, j2] at kk
  refine W.anew hx hb hown (hts _ hW) (va_AO.use hex.2.1) rfl hd rfl hi (by omega) j3 j4 fun cA kA comp f1 f2 f3 f4 => ?_
  have hcA : cA = cI 2 := by
    obtain ⟨_, _, -, -, -, w4⟩ := (hK.2 2 (cI 2, .object RX6) rfl).2
    exact Option.some.inj (f1.symm.trans w4)
  subst hcA
  generalize hH1 : H.push ({ cls := cI 2, slots := Array.replicate i.toNatClampNeg .null, vm := .none } : Cell) = H1
  have z1 : H1.size = H.size + 1 := by rw [← hH1, Array.size_push]
  have e1 : H1[H.size]? = some (arrV (cI 2) i.toNatClampNeg (fun _ => .null)) := by rw [← hH1, Array.getElem?_push_size, ← arrV_new]
  have o1 : ∀ q : Nat, q < H.size → H1[q]? = H[q]? := fun q hq => by rw [← hH1, Array.getElem?_push, if_neg (Nat.ne_of_lt hq)]
  rw [h2.1]
  refine kk H1 locs ls h1 (xAg_push h2 z1 o1 ?_) (fun q hq => by rw [o1 q (by rw [h2.1]; exact Nat.lt_of_lt_of_le hq (Nat.le_add_right _ _))]; exact h3 q hq) h4 ⟨by omega, by omega⟩
  show H1[H.size]? = some (vp_cell (cI 2) ((List.replicate i.toNatClampNeg (none : Option Nat)).length, .inr (.inr (.inr (.inr (fun j => ((List.replicate i.toNatClampNeg (none : Option Nat)).getD j none).map (fun a => b + a)))))))
  rw [e1, vp_cell_q, List.length_replicate]
  have hz : (fun j => va_rf (((List.replicate i.toNatClampNeg (none : Option Nat)).getD j none).map (fun a => b + a))) = (fun _ => Value.null) := by
    funext j
    by_cases hj : j < i.toNatClampNeg
    · simp [hj, va_rf]
    · simp [hj, va_rf]
  rw [hz]
theorem g_oinit {idx a : Nat} (C : xOK K own cc ini bz fr lo) (hd : decode cc pc = .ok (.invokespecial idx, 3)) (hW : Cond.methodLink own idx Lib.objectInit ∈ xBW) (hW2 : Cond.instanceMethod Lib.objectInit ∈ xBW) (hW3 : Cond.code Lib.objectInit ⟨#[0xb1]⟩ 1 none ∈ xBW) (hf1 : 1 ≤ fr) (hl1 : 12 ≤ lo) (k : xG K (pc + 3) env [] h) : xG K pc env [.ref a] h := by
  obtain ⟨fl, p, l, e, R, s, m, args, below, meth, c, b, D, cI, n0, s0, rv0, hF, Q⟩ := K
  refine And.intro k.1 (fun hf H locs ls h1 h2 h3 h4 h5 => ?_)
  obtain ⟨hx, hb, hown, hts, hK, hini, hbs, hrc, hrs, hfr, hlo, hex⟩ := C.1 hf
  refine W.objInit hx hb hown (hts _ hW) (hts _ hW2) (hts _ hW3) rfl h1.2.1 rfl hd (Nat.le_trans hf1 hfr) ?_ (k.2 hf H locs ls h1 h2 h3 h4 h5)
  show 2 * 0 + _ + 12 ≤ _
  have := hlo
  simp only [List.map_nil, List.sum_nil]
  omega
theorem g_table {dflt low high : Int} {offs : Array Int} {len : Nat} {x : Int32} {tgt : Nat} (C : xOK K own cc ini bz fr lo) (hd : decode cc pc = .ok (.tableswitch dflt low high offs, len)) (ht : (pc : Int) + (if x.toInt < low ∨ high < x.toInt then dflt else offs.getD (x.toInt - low).toNat 0) = (tgt : Int)) (hn : ∀ j : Nat, (j : Int) ≤ high - low → j < offs.size) (k : xG K tgt env st h) : xG K pc env (.int x :: st) h := by
  obtain ⟨fl, p, l, e, R, s, m, args, below, meth, c, b, D, cI, n0, s0, rv0, hF, Q⟩ := K
  refine And.intro k.1 (fun hf H locs ls h1 h2 h3 h4 h5 => ?_)
  obtain ⟨hx, hb, hown, hts, hK, hini, hbs, hrc, hrs, hfr, hlo, hex⟩ := C.1 hf
  by_cases hq : x.toInt < low ∨ high < x.toInt
  · rw [if_pos hq] at ht
    exact lv_tableOut hx hb hd hq ht (k.2 hf H locs ls h1 h2 h3 h4 h5)
  · rw [if_neg hq] at ht
    have q1 : ¬ x.toInt < low := fun z => hq (Or.inl z)
    have q2 : ¬ high < x.toInt := fun z => hq (Or.inr z)
    have q3 : (x.toInt - low).toNat < offs.size := hn _ (by omega)
    refine lv_tableIn (off := offs.getD (x.toInt - low).toNat 0) hx hb hd q1 q2 ?_ ht (k.2 hf H locs ls h1 h2 h3 h4 h5)
    rw [Array.getD_eq_getD_getElem?, Array.getElem?_eq_getElem q3]
    rfl
theorem g_lookup {dflt : Int} {ps : Array (Int × Int)} {len : Nat} {x : Int32} {tgt : Nat} (C : xOK K own cc ini bz fr lo) (hd : decode cc pc = .ok (.lookupswitch dflt ps, len)) (hp : (ps.toList.zip (ps.toList.drop 1)).all (fun (a, next) => a.1 < next.1) = true) (ht : (pc : Int) + Op.lookupswitch.offset ps.toList dflt x.toInt = (tgt : Int)) (k : xG K tgt env st h) : xG K pc env (.int x :: st) h := by
  obtain ⟨fl, p, l, e, R, s, m, args, below, meth, c, b, D, cI, n0, s0, rv0, hF, Q⟩ := K
  refine And.intro k.1 (fun hf H locs ls h1 h2 h3 h4 h5 => ?_)
  obtain ⟨hx, hb, hown, hts, hK, hini, hbs, hrc, hrs, hfr, hlo, hex⟩ := C.1 hf
  exact lv_lookup hx hb hd hp rfl ht (k.2 hf H locs ls h1 h2 h3 h4 h5)
end XN
end
section
/-! THE RULES of calls, and what a method's contract is -/
abbrev XF : Type := List Value → XH → Option (Option Value × XH)
def xPre (b : Nat) (D : va_G) (cI : Nat → ClassId) (args : List Value) (h : XH) : Array Value → State → Prop := fun av U => av = (args.map (xv b)).toArray ∧ xAg b D cI h U.heap ∧ va_K D xCl (xTy cI) U ∧ xEx b U U.heap
def xPost (b : Nat) (D : va_G) (cI : Nat → ClassId) (rv : Option Value) (h' : XH) : Array Value → State → Outcome → State → Prop := fun _ st o t => o = .returned (rv.map (xv b)) ∧ xAg b D cI h' t.heap ∧ ∀ q : Nat, q < b → t.heap[q]? = st.heap[q]?
def xGood (y : MethodName) (bytes : ByteArray) (n : Nat) (ret : Option FieldType) (fr lo : Nat) (f : XF) : Prop :=
  (XK → ∀ (args : List Value) (h : XH) (rv : Option Value) (h' : XH), f args h = some (rv, h') → h.length ≤ h'.length ∧ xsl h ≤ xsl h') ∧
  ∀ (l : Launch) (b : Nat) (D : va_G) (cI : Nat → ClassId) (args : List Value) (h : XH) (rv : Option Value) (h' : XH), f args h = some (rv, h') → Met l y (Cond.code y bytes n ret :: xBW) ({ frames := fr, cells := h'.length - h.length, slots := xsl h' - xsl h, locals := lo }) (xPre b D cI args h) (xPost b D cI rv h') (h'.length - h.length) (xsl h' - xsl h) (fun q => b ≤ q)
theorem xPre_blind (b : Nat) (D : va_G) (cI : Nat → ClassId) (args : List Value) (h : XH) : FrameBlind (xPre b D cI args h) := by
  intro a U g mk q
  obtain ⟨q1, q2, q3, q4⟩ := q
  exact ⟨q1, q2, va_K.moved (u := U) (U := U.calling g mk a) (Vm.Alike.refl U.vm) q3, xEx.same (u := U) (U := U.calling g mk a) rfl q4⟩
/-- the words of a call, beside the link -/
def xCallW (y : MethodName) (bytes : ByteArray) (maxL : Nat) (ret : Option FieldType) (n : Nat) : Prop := Cond.code y bytes maxL ret ∈ xBW ∧ Cond.initialized y.cls ∈ xBW ∧ (y.cls ≠ "java/lang/invoke/MethodHandle" ∧ y.cls ≠ "java/lang/invoke/VarHandle") ∧ (parseMethodDescriptor y.desc).map (fun d => d.parameters.length) = some n
def xCallV (own : String) (idx : Nat) (y : MethodName) : Prop := Cond.methodLink own idx y ∈ xBW ∧ Cond.instanceMethod y ∈ xBW ∧ Cond.selects y.cls y y ∈ xBW
def xCallS (own : String) (idx : Nat) (y : MethodName) : Prop := Cond.methodLink own idx y ∈ xBW ∧ Cond.static y ∈ xBW
def xCallI (own : String) (idx : Nat) (y : MethodName) : Prop := y.name = "<init>" ∧ Cond.instanceMethod y ∈ xBW ∧ (Cond.methodLink own idx y ∈ xBW ∨ ∃ host : String, Cond.methodLinkNest own idx y host ∈ xNest)
def xRecv (f : XF) (ci n : Nat) : Prop := ∀ (args : List Value) (h : XH) (r : Option Value × XH), f args h = some r → ∃ (a : Nat) (as : List Value) (fs : List Value), args = .ref a :: as ∧ as.length = n ∧ h[a]? = some (.inl (ci, fs))
def xArgs (f : XF) (n : Nat) : Prop := ∀ (args : List Value) (h : XH) (r : Option Value × XH), f args h = some r → args.length = n
section XCALL
variable {p : Program} {l : Launch} {e : Env} {R : Room} {s : State} {m : MethodId} {args : Array Value} {below : List Frame} {meth : Method} {c : Code} {H : Heap} {locs : List Loc} {cells slots : Nat} {Q : State → Prop}
variable {pc : Nat} {ls : Array Slot} {rest st0 : List Value} {b mc ms : Nat} {D : va_G} {cI : Nat → ClassId} {rv : Option Value} {h' : XH}
/-- behind a call -/
theorem x_back {a : Array Value} (hr : va_Run p l e R s m args below meth c H locs cells slots mc ms (F0 m pc ls st0) rest (xPost b D cI rv h' a) (fun q => b ≤ q)) (h3 : ∀ q : Nat, q < b → H[q]? = s.heap[q]?) (h4 : ∀ q ∈ locs, b ≤ q.base)
    (kk : ∀ (H1 : Heap) (locs1 : List Loc), xAg b D cI h' H1 → (∀ q : Nat, q < b → H1[q]? = s.heap[q]?) → (∀ q ∈ locs1, b ≤ q.base) → W p l e R s m args below meth c H1 locs1 (cells + mc) (slots + ms) Q (F0 m (pc + 3) ls ((rv.map (xv b)).toList ++ rest))) : W p l e R s m args below meth c H locs cells slots Q (F0 m pc ls st0) := by
  intro T hT X
  obtain ⟨v, st₀, t, T', L, h0, X', hL, e1, e2, ⟨hv, hA, hO⟩, st⟩ := hr T hT X
  cases hv
  obtain ⟨t2, a1, b1⟩ := kk T'.heap (locs ++ L) (by rw [e1]; exact hA) (fun q hq => by rw [e1, hO q hq, h0]; exact h3 q hq) (fun q hq => by
      rcases List.mem_append.mp hq with g | g
      · exact h4 q g
      · exact hL q g) T' rfl X'
  exact ⟨t2, st t2 a1, b1⟩
end XCALL
section XC1
variable {K : XK} {own : String} {cc : ByteArray} {ini bz : Bool} {fr lo pc : Nat} {env : XE} {st : List Value} {h h' : XH}
variable {y : MethodName} {bytes : ByteArray} {maxL n idx fr' lo' : Nat} {ret : Option FieldType} {f : XF} {args : List Value} {rv : Option Value}
theorem xv_sum (b : Nat) (st : List Value) : ((st.map (xv b)).map fun v => v.category).sum = (st.map fun v => v.category).sum := by
  rw [List.map_map]
  congr 1
  apply List.map_congr_left
  intro v _
  exact xv_cat b v
theorem xBW_pay {s : State} {a : Array Value} (hts : ∀ w ∈ xBW, w.before a s = true) (hc : Cond.code y bytes maxL ret ∈ xBW) : ∀ w ∈ (Cond.code y bytes maxL ret :: xBW), ∀ (a' : Array Value) (U : State), s.WarmedH U.vm → w.before a' U = true := by
  intro w hw a' U hW
  have hw2 : w ∈ xBW := by
    rcases List.mem_cons.mp hw with q | q
    · rw [q]; exact hc
    · exact q
  exact word_at hW (good_of_word (xBW_good w hw2)) (hts w hw2)
theorem xBack_st (b : Nat) (rv : Option Value) (st : List Value) : (rv.map (xv b)).toList ++ st.map (xv b) = (rv.toList ++ st).map (xv b) := by cases rv <;> rfl
theorem g_callV {ci : Nat} (C : xOK K own cc ini bz fr lo) (hd : decode cc pc = .ok (.invokevirtual idx, 3)) (hW : xCallW y bytes maxL ret n) (hV : xCallV own idx y) {r : vw_C} (hci : xCl[ci]? = some r) (hcy : r.1 = y.cls) (hG : xGood y bytes maxL ret fr' lo' f) (hrec : xRecv f ci n) (hr1 : fr' + 1 ≤ fr) (hr2 : 8 + (maxL + 11) + lo' ≤ lo) (hst : (st.map fun v => v.category).sum ≤ 8) (hf0 : f args h = some (rv, h')) (k : xG K (pc + 3) env (rv.toList ++ st) h') : xG K pc env (args.reverse ++ st) h := by
  have hmo := hG.1 K args h rv h' hf0
  obtain ⟨fl, p, l, e, R, s, m, args0, below, meth, c, b, D, cI, n0, s0, rv0, hF, Q⟩ := K
  have k1 := k.1
  refine And.intro ⟨Nat.le_trans hmo.1 k1.1, Nat.le_trans hmo.2 k1.2⟩ (fun hf H locs ls h1 h2 h3 h4 h5 => ?_)
  obtain ⟨hx, hb, hown, hts, hK, hini, hbs, hrc, hrs, hfr, hlo0, hex⟩ := C.1 hf
  have hlo : lo ≤ R.locals ∧ True := ⟨hlo0, trivial⟩
  have hM := hG.2 l b D cI args h rv h' hf0
  obtain ⟨w1, w2, w3, w4⟩ := hW
  have j1 : h.length - n0 + (h'.length - h.length) = h'.length - n0 := by omega
  have j2 : xsl h - s0 + (xsl h' - xsl h) = xsl h' - s0 := by omega
  have j3 : h.length - n0 + (h'.length - h.length) ≤ R.cells := by have := k1.1; omega
  have j4 : xsl h - s0 + (xsl h' - xsl h) ≤ R.slots := by have := k1.2; omega
  have hn : ∀ sig, parseMethodDescriptor y.desc = some sig → n = sig.parameters.length := fun sig q => by
    rw [q] at w4
    exact (Option.some.inj w4).symm
  have hS : va_S (fun q => b ≤ q) s.heap H locs → True := fun _ => trivial
  have hpre : ∀ U : State, U.heap = H → s.WarmedH U.vm → xPre b D cI args h (args.map (xv b)).toArray U := fun U hU hWm => ⟨rfl, by rw [hU]; exact h2, va_K.moved hWm.alike hK, by
    rw [hU]
    exact (hex.kept h3).warm hWm⟩
  obtain ⟨v1, v2, v3⟩ := hV
  obtain ⟨a, as, fs, rfl, has, hcell⟩ := hrec _ _ _ hf0
  have hrc2 := va_recv (a := b + a) (q0 := 0) (fs := fs.map (xv b)) hK (xP1 (h2.2 a _ hcell)) hci rfl
  rw [hcy] at hrc2
  have hrun := va_runV (p := p) (e := e) (below := below) (meth := meth) (cc := cc) (own := own) (C := y.cls) (n := n) (bytes := bytes) (maxL := maxL) (ret := ret) (index := idx) (locs := locs) (b := b + a) (As := as.map (xv b)) (rest := st.map (xv b)) (g := F0 m pc ls ((as.map (xv b)).reverse ++ .ref (b + a) :: st.map (xv b))) (cells := h.length - n0) (slots := xsl h - s0) ⟨hx, hb, rfl, hown, hts⟩ hM ⟨⟨rfl, rfl, Nat.le_trans hr1 hfr, Nat.le_trans hr2 hlo.1, xBW_pay hts w1, List.mem_cons_self, hts _ w1, hts _ w2, w3, hn, hts _ v1⟩, hts _ v2, hts _ v3⟩ ⟨xPre_blind b D cI _ h, hrc2, hpre⟩ rfl (by rw [List.length_map]; exact has) h1.2.1 rfl (lv_room (by rw [xv_sum]; exact hst)) hd ⟨j3, j4⟩
  have hstk : (((.ref a :: as : List Value).reverse ++ st).map (xv b)) = (as.map (xv b)).reverse ++ .ref (b + a) :: st.map (xv b) := by
    simp [xv]
  rw [hstk]
  refine x_back hrun h3 h4 (fun H1 locs1 g2 g3 g4 => ?_)
  rw [j1, j2, xBack_st]
  exact k.2 hf H1 locs1 ls h1 g2 g3 g4 ⟨Nat.le_trans h5.1 hmo.1, Nat.le_trans h5.2 hmo.2⟩
theorem g_callS {ci : Nat} (C : xOK K own cc ini bz fr lo) (hd : decode cc pc = .ok (.invokestatic idx, 3)) (hW : xCallW y bytes maxL ret n) (hV : xCallS own idx y) (hG : xGood y bytes maxL ret fr' lo' f) (hrec : xArgs f n) (hr1 : fr' + 1 ≤ fr) (hr2 : 8 + (maxL + 11) + lo' ≤ lo) (hst : (st.map fun v => v.category).sum ≤ 8) (hf0 : f args h = some (rv, h')) (k : xG K (pc + 3) env (rv.toList ++ st) h') : xG K pc env (args.reverse ++ st) h := by
  have hmo := hG.1 K args h rv h' hf0
  obtain ⟨fl, p, l, e, R, s, m, args0, below, meth, c, b, D, cI, n0, s0, rv0, hF, Q⟩ := K
  have k1 := k.1
  refine And.intro ⟨Nat.le_trans hmo.1 k1.1, Nat.le_trans hmo.2 k1.2⟩ (fun hf H locs ls h1 h2 h3 h4 h5 => ?_)
  obtain ⟨hx, hb, hown, hts, hK, hini, hbs, hrc, hrs, hfr, hlo0, hex⟩ := C.1 hf
  have hlo : lo ≤ R.locals ∧ True := ⟨hlo0, trivial⟩
  have hM := hG.2 l b D cI args h rv h' hf0
  obtain ⟨w1, w2, w3, w4⟩ := hW
  have j1 : h.length - n0 + (h'.length - h.length) = h'.length - n0 := by omega
  have j2 : xsl h - s0 + (xsl h' - xsl h) = xsl h' - s0 := by omega
  have j3 : h.length - n0 + (h'.length - h.length) ≤ R.cells := by have := k1.1; omega
  have j4 : xsl h - s0 + (xsl h' - xsl h) ≤ R.slots := by have := k1.2; omega
  have hn : ∀ sig, parseMethodDescriptor y.desc = some sig → n = sig.parameters.length := fun sig q => by
    rw [q] at w4
    exact (Option.some.inj w4).symm
  have hS : va_S (fun q => b ≤ q) s.heap H locs → True := fun _ => trivial
  have hpre : ∀ U : State, U.heap = H → s.WarmedH U.vm → xPre b D cI args h (args.map (xv b)).toArray U := fun U hU hWm => ⟨rfl, by rw [hU]; exact h2, va_K.moved hWm.alike hK, by
    rw [hU]
    exact (hex.kept h3).warm hWm⟩
  obtain ⟨v1, v2⟩ := hV
  have has := hrec _ _ _ hf0
  have hrun := va_runS (p := p) (e := e) (below := below) (meth := meth) (cc := cc) (own := own) (n := n) (bytes := bytes) (maxL := maxL) (ret := ret) (index := idx) (locs := locs) (As := args.map (xv b)) (rest := st.map (xv b)) (g := F0 m pc ls ((args.map (xv b)).reverse ++ st.map (xv b))) (cells := h.length - n0) (slots := xsl h - s0) ⟨hx, hb, rfl, hown, hts⟩ hM ⟨⟨rfl, rfl, Nat.le_trans hr1 hfr, Nat.le_trans hr2 hlo.1, xBW_pay hts w1, List.mem_cons_self, hts _ w1, hts _ w2, w3, hn, hts _ v1⟩, hts _ v2⟩ ⟨xPre_blind b D cI _ h, hpre⟩ rfl (by rw [List.length_map]; exact has) h1.2.1 rfl (lv_room (by rw [xv_sum]; exact hst)) hd ⟨j3, j4⟩
  have hstk : ((args.reverse ++ st).map (xv b)) = (args.map (xv b)).reverse ++ st.map (xv b) := by
    simp
  rw [hstk]
  refine x_back hrun h3 h4 (fun H1 locs1 g2 g3 g4 => ?_)
  rw [j1, j2, xBack_st]
  exact k.2 hf H1 locs1 ls h1 g2 g3 g4 ⟨Nat.le_trans h5.1 hmo.1, Nat.le_trans h5.2 hmo.2⟩
theorem g_callI {ci : Nat} (C : xOK K own cc ini bz fr lo) (hd : decode cc pc = .ok (.invokespecial idx, 3)) (hW : xCallW y bytes maxL ret n) (hV : xCallI own idx y) (hret : ret = none) (hG : xGood y bytes maxL ret fr' lo' f) (hrec : xRecv f ci n) (hr1 : fr' + 1 ≤ fr) (hr2 : 8 + (maxL + 11) + lo' ≤ lo) (hst : (st.map fun v => v.category).sum ≤ 8) (hf0 : f args h = some (rv, h')) (k : xG K (pc + 3) env (rv.toList ++ st) h') : xG K pc env (args.reverse ++ st) h := by
  have hmo := hG.1 K args h rv h' hf0
  obtain ⟨fl, p, l, e, R, s, m, args0, below, meth, c, b, D, cI, n0, s0, rv0, hF, Q⟩ := K
  have k1 := k.1
  refine And.intro ⟨Nat.le_trans hmo.1 k1.1, Nat.le_trans hmo.2 k1.2⟩ (fun hf H locs ls h1 h2 h3 h4 h5 => ?_)
  obtain ⟨hx, hb, hown, hts, hK, hini, hbs, hrc, hrs, hfr, hlo0, hex⟩ := C.1 hf
  have hlo : lo ≤ R.locals ∧ True := ⟨hlo0, trivial⟩
  have hM := hG.2 l b D cI args h rv h' hf0
  obtain ⟨w1, w2, w3, w4⟩ := hW
  have j1 : h.length - n0 + (h'.length - h.length) = h'.length - n0 := by omega
  have j2 : xsl h - s0 + (xsl h' - xsl h) = xsl h' - s0 := by omega
  have j3 : h.length - n0 + (h'.length - h.length) ≤ R.cells := by have := k1.1; omega
  have j4 : xsl h - s0 + (xsl h' - xsl h) ≤ R.slots := by have := k1.2; omega
  have hn : ∀ sig, parseMethodDescriptor y.desc = some sig → n = sig.parameters.length := fun sig q => by
    rw [q] at w4
    exact (Option.some.inj w4).symm
  have hS : va_S (fun q => b ≤ q) s.heap H locs → True := fun _ => trivial
  have hpre : ∀ U : State, U.heap = H → s.WarmedH U.vm → xPre b D cI args h (args.map (xv b)).toArray U := fun U hU hWm => ⟨rfl, by rw [hU]; exact h2, va_K.moved hWm.alike hK, by
    rw [hU]
    exact (hex.kept h3).warm hWm⟩
  subst hret
  obtain ⟨v0, v1, v2⟩ := hV
  obtain ⟨a, as, fs, rfl, has, hcell⟩ := hrec _ _ _ hf0
  have hstk : (((.ref a :: as : List Value).reverse ++ st).map (xv b)) = (as.map (xv b)).reverse ++ .ref (b + a) :: st.map (xv b) := by
    simp [xv]
  rw [hstk]
  rcases v2 with v2 | ⟨host, v2⟩
  · have hrun := va_runI (p := p) (e := e) (below := below) (meth := meth) (cc := cc) (own := own) (n := n) (bytes := bytes) (maxL := maxL) (index := idx) (locs := locs) (b := b + a) (As := as.map (xv b)) (rest := st.map (xv b)) (g := F0 m pc ls ((as.map (xv b)).reverse ++ .ref (b + a) :: st.map (xv b))) (cells := h.length - n0) (slots := xsl h - s0) ⟨hx, hb, rfl, hown, hts⟩ hM ⟨⟨rfl, rfl, Nat.le_trans hr1 hfr, Nat.le_trans hr2 hlo.1, xBW_pay hts w1, List.mem_cons_self, hts _ w1, hts _ w2, w3, hn, hts _ v2⟩, v0, hts _ v1⟩ ⟨xPre_blind b D cI _ h, hpre⟩ rfl (by rw [List.length_map]; exact has) h1.2.1 rfl (lv_room (by rw [xv_sum]; exact hst)) hd ⟨j3, j4⟩
    refine x_back hrun h3 h4 (fun H1 locs1 g2 g3 g4 => ?_)
    rw [j1, j2, xBack_st]
    exact k.2 hf H1 locs1 ls h1 g2 g3 g4 ⟨Nat.le_trans h5.1 hmo.1, Nat.le_trans h5.2 hmo.2⟩
  · have hrun := va_runIN (p := p) (e := e) (below := below) (meth := meth) (cc := cc) (own := own) (host := host) (n := n) (bytes := bytes) (maxL := maxL) (index := idx) (locs := locs) (b := b + a) (As := as.map (xv b)) (rest := st.map (xv b)) (g := F0 m pc ls ((as.map (xv b)).reverse ++ .ref (b + a) :: st.map (xv b))) (cells := h.length - n0) (slots := xsl h - s0) ⟨hx, hb, rfl, hown, hts⟩ hM ⟨⟨⟨rfl, rfl, Nat.le_trans hr1 hfr, Nat.le_trans hr2 hlo.1, xBW_pay hts w1, List.mem_cons_self⟩, hts _ w1, hts _ w2, w3, hn, va_Nw.use rfl (hex.1 _ v2)⟩, v0, hts _ v1⟩ ⟨xPre_blind b D cI _ h, hpre⟩ rfl (by rw [List.length_map]; exact has) h1.2.1 rfl (lv_room (by rw [xv_sum]; exact hst)) hd ⟨j3, j4⟩
    refine x_back hrun h3 h4 (fun H1 locs1 g2 g3 g4 => ?_)
    rw [j1, j2, xBack_st]
    exact k.2 hf H1 locs1 ls h1 g2 g3 g4 ⟨Nat.le_trans h5.1 hmo.1, Nat.le_trans h5.2 hmo.2⟩
end XC1
end
section
/-! THE RULE of System.arraycopy, of a whole row onto a row as long; a contract out of a walk -/
section XCP
variable {K : XK} {own : String} {cc : ByteArray} {ini bz : Bool} {fr lo pc : Nat} {env : XE} {h : XH}
def xCopyW (own : String) (idx : Nat) : Prop := Cond.methodLink own idx arraycopyName ∈ xBW ∧ Cond.native arraycopyName ∈ xBW ∧ Cond.static arraycopyName ∈ xBW ∧ Cond.initialized "java/lang/System" ∈ xBW
theorem g_copy {idx a0 a1 : Nat} {xs ys : List Int32} {n : Int32} (C : xOK K own cc ini bz fr lo) (hd : decode cc pc = .ok (.invokestatic idx, 3)) (hW : xCopyW own idx) (hr1 : 1 ≤ fr) (hr2 : nativeFrameWords "java/lang/System" "arraycopy" 5 + 11 ≤ lo) (hn : ¬ n < 0) (h0 : h[a0]? = some (.inr (.inl (0, xs)))) (h1' : h[a1]? = some (.inr (.inl (0, ys)))) (l0 : xs.length = n.toNatClampNeg) (l1 : ys.length = n.toNatClampNeg) (hne : a0 ≠ a1) (k : xG K (pc + 3) env [] (h.set a1 (.inr (.inl (0, xs))))) : xG K pc env [.int n, .int 0, .ref a1, .int 0, .ref a0] h := by
  obtain ⟨fl, p, l, e, R, s, m, args, below, meth, c, b, D, cI, n0, s0, rv0, hF, Q⟩ := K
  have k1 := k.1
  have hS : xsl (h.set a1 (.inr (.inl (0, xs)))) = xsl h := xsl_set h1' (by simp [xSz, l0, l1])
  rw [List.length_set, hS] at k1
  refine And.intro k1 (fun hf H locs ls h1 h2 h3 h4 h5 => ?_)
  obtain ⟨hx, hb, hown, hts, hK, hini, hbs, hrc, hrs, hfr, hlo, hex⟩ := C.1 hf
  have kk := k.2 hf
  rw [hS, List.length_set] at kk
  obtain ⟨w1, w2, w3, w4⟩ := hW
  have hal : a1 < h.length := (List.getElem?_eq_some_iff.mp h1').1
  have hc0 : H[b + a0]? = some (vp_cell (cI 0) (xs.length, .inl (fun j => xs.getD j 0))) := h2.2 a0 _ h0
  have hc1 : H[b + a1]? = some (vp_cell (cI 0) (ys.length, .inl (fun j => ys.getD j 0))) := h2.2 a1 _ h1'
  obtain ⟨-, q0, hk0, cm0, hkk0⟩ := (hK.2 0 _ rfl).1 xs.length (fun j => .int (xs.getD j 0))
  obtain ⟨-, q1, hk1, cm1, hkk1⟩ := (hK.2 0 _ rfl).1 ys.length (fun j => .int (ys.getD j 0))
  have nn : n.toInt = (n.toNatClampNeg : Int) := by
    have hz0 : (0 : Int) ≤ n.toInt := by
      have := Int32.not_lt.mp hn
      simpa using Int32.le_iff_toInt_le.mp this
    show n.toInt = ((n.toInt.toNat : Nat) : Int)
    omega
  intro T hT X
  obtain ⟨vm', X', step⟩ := X.arraycopy hx hown (hts _ w1) (hts _ w2) (hts _ w3) (hts _ w4) (src := b + a0) (dst := b + a1) (cs := vp_cell (cI 0) (xs.length, .inl (fun j => xs.getD j 0))) (cd := vp_cell (cI 0) (ys.length, .inl (fun j => ys.getD j 0))) (srcPos := 0) (destPos := 0) (n := n) (by rw [hT]; exact hc0) (by rw [hT]; exact hc1)
    (fun _ h => by cases h) (fun _ h => by cases h) (fun h => by cases h) (fun h => by cases h) hk0 hk1 hkk0 hkk1 rfl (by decide) (by decide) hn
    (by rw [nn]; show ¬ _ > ((arrV (cI 0) xs.length (fun j => .int (xs.getD j 0))).slots.size : Int); rw [arrV_size, l0]; simp)
    (by rw [nn]; show ¬ _ > ((arrV (cI 0) ys.length (fun j => .int (ys.getD j 0))).slots.size : Int); rw [arrV_size, l1]; simp)
    (fun vm₁ _ i hi => by
      have e : (vp_cell (cI 0) (xs.length, .inl (fun j => xs.getD j 0))).slots.getD ((0 : Int32).toNatClampNeg + i) .null = .int (xs.getD ((0 : Int32).toNatClampNeg + i) 0) := by
        show (arrV (cI 0) xs.length (fun j => .int (xs.getD j 0))).slots.getD _ _ = _
        rw [Array.getD_eq_getD_getElem?, arrV_read _ _ (by rw [l0]; have : (0 : Int32).toNatClampNeg = 0 := rfl; omega)]
        rfl
      refine ⟨?_, ?_⟩
      · rw [e]
        rfl
      · rw [e]
        exact trivial)
    (g := F0 m pc ls [.int n, .int 0, .ref (b + a1), .int 0, .ref (b + a0)]) rfl (by exact h1.2.1) (rest := []) rfl (by rw [hb]; exact hd) (Nat.le_trans hr1 hfr) (by show 2 * 0 + _ + _ ≤ _; simp only [List.map_nil, List.sum_nil]; omega)
  have hcpy : va_cpy (fun j => xs.getD j 0) (fun j => ys.getD j 0) (0 : Int32).toNatClampNeg (0 : Int32).toNatClampNeg n.toNatClampNeg = fun j => xs.getD j 0 := by
    funext j
    have hz : (0 : Int32).toNatClampNeg = 0 := rfl
    rw [hz]
    unfold va_cpy
    by_cases hj : j < n.toNatClampNeg
    · rw [if_pos ⟨Nat.zero_le _, by omega⟩]
      simp
    · rw [if_neg (by omega)]
      simp only [List.getD_eq_getElem?_getD]
      rw [List.getElem?_eq_none (by omega), List.getElem?_eq_none (by omega)]
  have e1 : copied (vp_cell (cI 0) (xs.length, .inl (fun j => xs.getD j 0))) (vp_cell (cI 0) (ys.length, .inl (fun j => ys.getD j 0))) 0 0 n = vp_cell (cI 0) (xs.length, .inl (fun j => xs.getD j 0)) := by
    have := va_copied (fun z => .int z) (cI 0) (cI 0) (n0 := ys.length) (n1 := ys.length) (sp := (0 : Int32).toNatClampNeg) (dp := (0 : Int32).toNatClampNeg) (n := n.toNatClampNeg) (fun j => xs.getD j 0) (fun j => ys.getD j 0) (by have : (0 : Int32).toNatClampNeg = 0 := rfl; omega)
    rw [hcpy] at this
    rw [l0, ← l1]
    exact this
  rw [e1] at X' step
  have hl : b + a1 < H.size := (Array.getElem?_eq_some_iff.mp hc1).1
  have hheap : ((T.setVm vm').setCell (b + a1) (vp_cell (cI 0) (xs.length, .inl (fun j => xs.getD j 0)))).heap = H.setIfInBounds (b + a1) (vp_cell (cI 0) (xs.length, .inl (fun j => xs.getD j 0))) := by rw [← hT]; rfl
  have oq : ∀ q : Nat, q ≠ b + a1 → (H.setIfInBounds (b + a1) (vp_cell (cI 0) (xs.length, .inl (fun j => xs.getD j 0))))[q]? = H[q]? := fun q hq => by simp [Array.getElem?_setIfInBounds, Ne.symm hq]
  obtain ⟨t, a1', b1⟩ := kk _ _ ls h1 (xAg_set h2 hal (by simp) oq (show (H.setIfInBounds (b + a1) _)[b + a1]? = some _ by simp [Array.getElem?_setIfInBounds, hl])) (fun q hq => by
      rw [oq q (Nat.ne_of_lt (Nat.lt_of_lt_of_le hq (Nat.le_add_right b a1)))]
      exact h3 q hq) (fun q hq => by
      rcases List.mem_append.mp hq with g | g
      · exact h4 q g
      · obtain ⟨z, -, hz⟩ := List.mem_map.mp g
        rw [← hz]
        exact Nat.le_add_right b a1) h5 _ hheap X'
  exact ⟨t, step t a1', b1⟩
end XCP
end
section
/-! WHAT STATEMENTS MEAN, and a method's contract out of the walk of its body -/
abbrev XX : Type := XE → XH → Option (Value × XH)
abbrev XB : Type := XE → XH → Option (Bool × XH)
abbrev XO : Type := Option (Bool ⊕ Option Value)
abbrev XS : Type := XE → XH → Option (XO × XE × XH)
def x_fin (K : XK) (pc' bk ct : Nat) (o : XO) (env' : XE) (h' : XH) : Prop := match o with
  | none => xG K pc' env' [] h'
  | some (.inl true) => xG K bk env' [] h'
  | some (.inl false) => xG K ct env' [] h'
  | some (.inr rv) => rv = xRv K ∧ h' = xHF K
def CE (K : XK) (d pc : Nat) (e : XX) (pc' : Nat) : Prop := ∀ (env : XE) (h : XH) (v : Value) (h' : XH), e env h = some (v, h') → ∀ st : List Value, (st.map fun v => v.category).sum ≤ d → xG K pc' env (v :: st) h' → xG K pc env st h
def CC (K : XK) (d pc : Nat) (c : XB) (pT pF : Nat) : Prop := ∀ (env : XE) (h : XH) (bv : Bool) (h' : XH), c env h = some (bv, h') → ∀ st : List Value, (st.map fun v => v.category).sum ≤ d → xG K (if bv = true then pT else pF) env st h' → xG K pc env st h
def CS (K : XK) (pc : Nat) (s : XS) (pc' bk ct : Nat) : Prop := ∀ (env : XE) (h : XH) (o : XO) (env' : XE) (h' : XH), s env h = some (o, env', h') → x_fin K pc' bk ct o env' h' → xG K pc env [] h
def xSlots (args : List Value) : XE := args.flatMap fun v => if v.category = 2 then [some v, none] else [some v]
def xEnv (n : Nat) (args : List Value) : XE := xSlots args ++ List.replicate (n - (xSlots args).length) none
def xSlot (b : Nat) : Option Value → Slot
  | some v => .val (xv b v)
  | none => .second
theorem lg_sl_map (b : Nat) (args : List Value) : lg_sl (args.map (xv b)) = (xSlots args).map (xSlot b) := by
  unfold lg_sl xSlots
  induction args with
  | nil => rfl
  | cons v t ih =>
    simp only [List.map_cons, List.flatMap_cons, List.map_append, ih, xv_cat]
    congr 1
    split <;> rfl
theorem xEnv_rel {b n : Nat} {args : List Value} (h : (xSlots args).length ≤ n) : xRel b n (xEnv n args) ((lg_sl (args.map (xv b)) ++ List.replicate (n - (lg_sl (args.map (xv b))).length) Slot.unset).toArray) := by
  have hl : (lg_sl (args.map (xv b))).length = (xSlots args).length := by rw [lg_sl_map, List.length_map]
  have e1 := lv_entry (args.map (xv b)) (n := n) (by rw [hl]; exact h)
  refine ⟨by simp [xEnv]; omega, e1.1, e1.2.1, fun i v hv => ?_⟩
  unfold xEnv at hv
  by_cases hi : i < (xSlots args).length
  · rw [List.getElem?_append_left hi] at hv
    rw [List.getElem?_toArray, List.getElem?_append_left (by rw [hl]; exact hi), lg_sl_map, List.getElem?_map, hv]
    rfl
  · rw [List.getElem?_append_right (by omega)] at hv
    have := List.getElem?_replicate (a := (none : Option Value)) (n := n - (xSlots args).length) (i := i - (xSlots args).length)
    rw [hv] at this
    split at this <;> simp at this
/-- a body's answer -/
def xRun (vd : Bool) (body : XS) (n : Nat) (args : List Value) (h : XH) : Option (Option Value × XH) := match body (xEnv n args) h with
  | some (some (.inr rv), _, h') => if rv.isNone = vd then some (rv, h') else none
  | _ => none
/-- an instance method of class ci with k arguments beside the object; a static one with k -/
def xM (ci k n : Nat) (vd : Bool) (body : XS) : XF := fun args h => match args with
  | .ref a :: as => if as.length = k ∧ (xSlots args).length ≤ n then (match h[a]? with
    | some (.inl (c, _)) => if c = ci then xRun vd body n args h else none
    | _ => none) else none
  | _ => none
def xMS (k n : Nat) (vd : Bool) (body : XS) : XF := fun args h => if args.length = k ∧ (xSlots args).length ≤ n then xRun vd body n args h else none
theorem xM_spec {ci k n : Nat} {vd : Bool} {body : XS} {args : List Value} {h : XH} {r : Option Value × XH} (hf : xM ci k n vd body args h = some r) : (∃ (a : Nat) (as : List Value) (fs : List Value), args = .ref a :: as ∧ as.length = k ∧ h[a]? = some (.inl (ci, fs))) ∧ (xSlots args).length ≤ n ∧ xRun vd body n args h = some r := by
  unfold xM at hf
  split at hf
  · rename_i a as
    split at hf
    · rename_i hc
      split at hf
      · rename_i c fs hh
        split at hf
        · rename_i hci
          subst hci
          exact ⟨⟨a, as, fs, rfl, hc.1, hh⟩, hc.2, hf⟩
        · cases hf
      · cases hf
    · cases hf
  · cases hf
theorem xMS_spec {k n : Nat} {vd : Bool} {body : XS} {args : List Value} {h : XH} {r : Option Value × XH} (hf : xMS k n vd body args h = some r) : args.length = k ∧ (xSlots args).length ≤ n ∧ xRun vd body n args h = some r := by
  unfold xMS at hf
  split at hf
  · rename_i hc
    exact ⟨hc.1, hc.2, hf⟩
  · cases hf
theorem xM_recv {ci k n : Nat} {vd : Bool} {body : XS} : xRecv (xM ci k n vd body) ci k := fun _ _ _ h => (xM_spec h).1
theorem xMS_args {k n : Nat} {vd : Bool} {body : XS} : xArgs (xMS k n vd body) k := fun _ _ _ h => (xMS_spec h).1
theorem xRun_spec {vd : Bool} {body : XS} {n : Nat} {args : List Value} {h h' : XH} {rv : Option Value} (hf : xRun vd body n args h = some (rv, h')) : rv.isNone = vd ∧ ∃ env' : XE, body (xEnv n args) h = some (some (.inr rv), env', h') := by
  unfold xRun at hf
  split at hf
  · rename_i rv2 env2 h2 he
    split at hf
    · rename_i hvd
      cases hf
      exact ⟨hvd, env2, he⟩
    · cases hf
  · cases hf
/-- what a method answers: an int, a boolean, nothing -/
def xRt (bz : Bool) (ret : Option FieldType) : Prop := (ret = some .int ∧ bz = false) ∨ (ret = some .boolean ∧ bz = true) ∨ ret = none
theorem x_meth {y : MethodName} {cc : ByteArray} {n fr lo pe bk ct : Nat} {ret : Option FieldType} {ini bz vd : Bool} {f : XF} {body : XS} (hrt : xRt bz ret) (hini : ini = true → y.name = "<init>") (hy : plainName y.cls = true)
    (hrun : ∀ (args : List Value) (h : XH) (rv : Option Value) (h' : XH), f args h = some (rv, h') → (xSlots args).length ≤ n ∧ xRun vd body n args h = some (rv, h'))
    (hret : vd = true ↔ ret = none)
    (hcs : ∀ K : XK, xOK K y.cls cc ini bz fr lo → CS K 0 body pe bk ct) : xGood y cc n ret fr lo f := by
  refine ⟨fun K0 args h rv h' hf => ?_, fun l b D cI args h rv h' hf => ?_⟩
  · obtain ⟨fl, p, l, e, R, s, m, args0, below, meth, c, b, D, cI, n0, s0, rv0, hF, Q⟩ := K0
    obtain ⟨hs, hr⟩ := hrun _ _ _ _ hf
    obtain ⟨hvd, env', hr⟩ := xRun_spec hr
    have k := hcs (false, p, l, e, R, s, m, args0, below, meth, c, b, D, cI, n0, s0, rv, h', Q) ⟨fun z => (by cases z), fun pc env v _ _ _ => ⟨⟨Nat.le_refl _, Nat.le_refl _⟩, fun z => by cases z⟩, fun pc env _ _ => ⟨⟨Nat.le_refl _, Nat.le_refl _⟩, fun z => by cases z⟩⟩ _ _ _ _ _ hr ⟨rfl, rfl⟩
    exact k.1
  · obtain ⟨hs, hr⟩ := hrun _ _ _ _ hf
    obtain ⟨hvd, env', hr⟩ := xRun_spec hr
    have hrv : rv = none ↔ ret = none := by rw [← hret, ← hvd]; exact Option.isNone_iff_eq_none.symm
    refine Met.ofW (cc := cc) (maxL := n) (ret := ret) hy rfl ?_
    intro p e s m args0 below meth c s₁ B hml hv
    obtain ⟨ha, hA, hK, hex⟩ := hv
    subst ha
    have hx := B.exec
    have hb := B.bytes
    have hrr := B.returns
    have hts := atoms_spec (ws := Cond.code y cc n ret :: xBW) B.pre
    have hown : s.vm.findClass y.cls = some m.cls := findClass_of_methodNamed B.named
    have hlocks := B.notSynchronized
    have hin : meth.name = y.name := (name_of_methodNamed B.named B.method).1
    rw [lg_entry_eq]
    have hS : s.heap.size = b + h.length := hA.1
    have k := hcs (true, p, l, e, (headSpec (Cond.code y cc n ret :: xBW) ({ frames := fr, cells := h'.length - h.length, slots := xsl h' - xsl h, locals := lo })).room, s, m, (args.map (xv b)).toArray, below, meth, c, b, D, cI, h.length, xsl h, rv, h', MQ below (xPost b D cI rv h') (args.map (xv b)).toArray s (h'.length - h.length) (xsl h' - xsl h) (fun q => b ≤ q)) ?_ _ _ _ _ _ hr ⟨rfl, rfl⟩
    · have k2 := k.2 rfl s.heap [] _ (by rw [hml]; exact xEnv_rel (b := b) hs) hA (fun _ _ => rfl) (fun _ z => by cases z) ⟨Nat.le_refl _, Nat.le_refl _⟩
      rw [Nat.sub_self, Nat.sub_self] at k2
      exact k2
    · refine ⟨fun _ => ⟨hx, hb, hown, fun w hw => hts w (List.mem_cons_of_mem _ hw), hK, fun z => hin.trans (hini z), by rw [hS]; exact Nat.le_add_right _ _, Nat.le_refl _, Nat.le_refl _, Nat.le_refl _, Nat.le_refl _, hex⟩, fun pc env v hd hv0 hbz => ?_, fun pc env hd hv0 => ?_⟩
      · refine ⟨⟨Nat.le_refl _, Nat.le_refl _⟩, fun _ H locs ls h1 h2 h3 h4 h5 => ?_⟩
        have hq : ∀ t : State, t.heap = H → s.WarmedH t.vm → xPost b D cI rv h' (args.map (xv b)).toArray s (.returned (some (.int v))) t := fun t ht _ => ⟨by rw [hv0]; rfl, by rw [ht]; exact h2, fun q hq => by rw [ht]; exact h3 q hq⟩
        rcases hrt with ⟨q1, q2⟩ | ⟨q1, q2⟩ | q1
        · exact W.iret (v := v) hx hb (hrr.trans q1) hq (fun q hq => h4 q hq) hd hlocks
        · refine W.zret (v := v) (ty := .boolean) hx hb (hrr.trans q1) ?_ hq (fun q hq => h4 q hq) hd hlocks
          rcases hbz q2 with rfl | rfl
          · exact (by decide +kernel : narrow FieldType.boolean (.int 0) = .int 0)
          · exact (by decide +kernel : narrow FieldType.boolean (.int 1) = .int 1)
        · have := hrv.mpr q1
          rw [hv0] at this
          cases this
      · refine ⟨⟨Nat.le_refl _, Nat.le_refl _⟩, fun _ H locs ls h1 h2 h3 h4 h5 => ?_⟩
        exact W.vret hx hb (hrr.trans (hrv.mp hv0)) (fun t ht _ => ⟨by rw [hv0]; rfl, by rw [ht]; exact h2, fun q hq => by rw [ht]; exact h3 q hq⟩) (fun q hq => h4 q hq) hd hlocks
theorem x_methI {y : MethodName} {cc : ByteArray} {ci k n fr lo pe bk ct : Nat} {ret : Option FieldType} {ini bz vd : Bool} {body : XS} (hrt : xRt bz ret) (hret : vd = true ↔ ret = none) (hini : ini = true → y.name = "<init>") (hy : plainName y.cls = true) (hcs : ∀ K : XK, xOK K y.cls cc ini bz fr lo → CS K 0 body pe bk ct) : xGood y cc n ret fr lo (xM ci k n vd body) :=
  x_meth hrt hini hy (fun _ _ _ _ hf => (xM_spec hf).2) hret hcs
theorem x_methS {y : MethodName} {cc : ByteArray} {k n fr lo pe bk ct : Nat} {ret : Option FieldType} {ini bz vd : Bool} {body : XS} (hrt : xRt bz ret) (hret : vd = true ↔ ret = none) (hini : ini = true → y.name = "<init>") (hy : plainName y.cls = true) (hcs : ∀ K : XK, xOK K y.cls cc ini bz fr lo → CS K 0 body pe bk ct) : xGood y cc n ret fr lo (xMS k n vd body) :=
  x_meth hrt hini hy (fun _ _ _ _ hf => (xMS_spec hf).2) hret hcs
end
section
/-! WHAT EXPRESSIONS, CONDITIONS AND STATEMENTS MEAN, and that javac's rows for them do so -/
section XL
variable {K : XK} {own : String} {cc : ByteArray} {ini bz : Bool} {fr lo d pc p1 p2 p3 p4 bk ct : Nat}
theorem cat_le (v : Value) : v.category ≤ 2 := by cases v <;> simp [Value.category]
theorem cat_cons {st : List Value} {d : Nat} (v : Value) (h : (st.map fun v => v.category).sum ≤ d) : ((v :: st).map fun v => v.category).sum ≤ d + 2 := by
  have := cat_le v
  simp only [List.map_cons, List.sum_cons]
  omega
-- constants
def e_lit (v : Int32) : XX := fun _ h => some (.int v, h)
def e_long (v : Int64) : XX := fun _ h => some (.long v, h)
theorem ce_iconst {n : Int} {v : Int32} (C : xOK K own cc ini bz fr lo) (hd : decode cc pc = .ok (.iconst n, 1)) (hv : Int32.ofInt n = v) : CE K d pc (e_lit v) (pc + 1) := by
  intro env h v' h' he st hst k
  cases he
  exact g_iconst C hd hv k
theorem ce_bipush {n : Int} {v : Int32} (C : xOK K own cc ini bz fr lo) (hd : decode cc pc = .ok (.bipush n, 2)) (hv : (Int8.ofInt n).toInt32 = v) : CE K d pc (e_lit v) (pc + 2) := by
  intro env h v' h' he st hst k
  cases he
  exact g_bipush C hd hv k
theorem ce_sipush {n : Int} {v : Int32} (C : xOK K own cc ini bz fr lo) (hd : decode cc pc = .ok (.sipush n, 3)) (hv : (Int16.ofInt n).toInt32 = v) : CE K d pc (e_lit v) (pc + 3) := by
  intro env h v' h' he st hst k
  cases he
  exact g_sipush C hd hv k
theorem ce_ldc {i : Nat} {v : Int32} (C : xOK K own cc ini bz fr lo) (hd : decode cc pc = .ok (.ldc i, 2)) (hw : Cond.constant own i v ∈ xBW) : CE K d pc (e_lit v) (pc + 2) := by
  intro env h v' h' he st hst k
  cases he
  exact g_ldc C hd hw k
theorem ce_ldcw {i : Nat} {v : Int32} (C : xOK K own cc ini bz fr lo) (hd : decode cc pc = .ok (.ldc_w i, 3)) (hw : Cond.constant own i v ∈ xBW) : CE K d pc (e_lit v) (pc + 3) := by
  intro env h v' h' he st hst k
  cases he
  exact g_ldcw C hd hw k
theorem ce_lconst {n : Fin 2} {v : Int64} (C : xOK K own cc ini bz fr lo) (hd : decode cc pc = .ok (.lconst n, 1)) (hv : Int64.ofNat (n : Nat) = v) : CE K d pc (e_long v) (pc + 1) := by
  intro env h v' h' he st hst k
  cases he
  exact g_lconst C hd hv k
theorem ce_ldc2 {i : Nat} {v : Int64} (C : xOK K own cc ini bz fr lo) (hd : decode cc pc = .ok (.ldc2_w i, 3)) (hw : Cond.constantLong own i v ∈ xBW) : CE K d pc (e_long v) (pc + 3) := by
  intro env h v' h' he st hst k
  cases he
  exact g_ldc2 C hd hw k
-- locals
def e_il (i : Nat) : XX := fun env h => match env[i]? with
  | some (some (.int x)) => some (.int x, h)
  | _ => none
theorem e_il_spec {i : Nat} {env : XE} {h h' : XH} {v : Value} (he : e_il i env h = some (v, h')) : ∃ x : Int32, env[i]? = some (some (.int x)) ∧ v = .int x ∧ h' = h := by
  unfold e_il at he
  split at he
  · rename_i x hx
    cases he
    exact ⟨x, hx, rfl, rfl⟩
  · cases he
theorem ce_iln {q : Fin 4} {i : Nat} (C : xOK K own cc ini bz fr lo) (hd : decode cc pc = .ok (.iload_n q, 1)) (hi : (q : Nat) = i) : CE K d pc (e_il i) (pc + 1) := by
  intro env h v' h' he st hst k
  obtain ⟨x, h1, rfl, rfl⟩ := e_il_spec he
  exact g_iload_n C hd hi h1 k
theorem ce_il {i : Nat} (C : xOK K own cc ini bz fr lo) (hd : decode cc pc = .ok (.iload i, 2)) : CE K d pc (e_il i) (pc + 2) := by
  intro env h v' h' he st hst k
  obtain ⟨x, h1, rfl, rfl⟩ := e_il_spec he
  exact g_iload C hd h1 k
def e_ll (i : Nat) : XX := fun env h => match env[i]? with
  | some (some (.long x)) => some (.long x, h)
  | _ => none
theorem e_ll_spec {i : Nat} {env : XE} {h h' : XH} {v : Value} (he : e_ll i env h = some (v, h')) : ∃ x : Int64, env[i]? = some (some (.long x)) ∧ v = .long x ∧ h' = h := by
  unfold e_ll at he
  split at he
  · rename_i x hx
    cases he
    exact ⟨x, hx, rfl, rfl⟩
  · cases he
theorem ce_lln {q : Fin 4} {i : Nat} (C : xOK K own cc ini bz fr lo) (hd : decode cc pc = .ok (.lload_n q, 1)) (hi : (q : Nat) = i) : CE K d pc (e_ll i) (pc + 1) := by
  intro env h v' h' he st hst k
  obtain ⟨x, h1, rfl, rfl⟩ := e_ll_spec he
  exact g_lload_n C hd hi h1 k
theorem ce_ll {i : Nat} (C : xOK K own cc ini bz fr lo) (hd : decode cc pc = .ok (.lload i, 2)) : CE K d pc (e_ll i) (pc + 2) := by
  intro env h v' h' he st hst k
  obtain ⟨x, h1, rfl, rfl⟩ := e_ll_spec he
  exact g_lload C hd h1 k
def e_al (i : Nat) : XX := fun env h => match env[i]? with
  | some (some (.ref x)) => some (.ref x, h)
  | _ => none
theorem e_al_spec {i : Nat} {env : XE} {h h' : XH} {v : Value} (he : e_al i env h = some (v, h')) : ∃ x : Nat, env[i]? = some (some (.ref x)) ∧ v = .ref x ∧ h' = h := by
  unfold e_al at he
  split at he
  · rename_i x hx
    cases he
    exact ⟨x, hx, rfl, rfl⟩
  · cases he
theorem ce_aln {q : Fin 4} {i : Nat} (C : xOK K own cc ini bz fr lo) (hd : decode cc pc = .ok (.aload_n q, 1)) (hi : (q : Nat) = i) : CE K d pc (e_al i) (pc + 1) := by
  intro env h v' h' he st hst k
  obtain ⟨x, h1, rfl, rfl⟩ := e_al_spec he
  exact g_aload_n C hd hi h1 k
theorem ce_al {i : Nat} (C : xOK K own cc ini bz fr lo) (hd : decode cc pc = .ok (.aload i, 2)) : CE K d pc (e_al i) (pc + 2) := by
  intro env h v' h' he st hst k
  obtain ⟨x, h1, rfl, rfl⟩ := e_al_spec he
  exact g_aload C hd h1 k
def e_sl (i : Nat) : XX := fun env h => match env[i]? with
  | some (some (.retAddr x)) => some (.retAddr x, h)
  | _ => none
theorem e_sl_spec {i : Nat} {env : XE} {h h' : XH} {v : Value} (he : e_sl i env h = some (v, h')) : ∃ x : Nat, env[i]? = some (some (.retAddr x)) ∧ v = .retAddr x ∧ h' = h := by
  unfold e_sl at he
  split at he
  · rename_i x hx
    cases he
    exact ⟨x, hx, rfl, rfl⟩
  · cases he
theorem ce_sln {q : Fin 4} {i : Nat} (C : xOK K own cc ini bz fr lo) (hd : decode cc pc = .ok (.aload_n q, 1)) (hi : (q : Nat) = i) : CE K d pc (e_sl i) (pc + 1) := by
  intro env h v' h' he st hst k
  obtain ⟨x, h1, rfl, rfl⟩ := e_sl_spec he
  exact g_aload_nR C hd hi h1 k
theorem ce_sl {i : Nat} (C : xOK K own cc ini bz fr lo) (hd : decode cc pc = .ok (.aload i, 2)) : CE K d pc (e_sl i) (pc + 2) := by
  intro env h v' h' he st hst k
  obtain ⟨x, h1, rfl, rfl⟩ := e_sl_spec he
  exact g_aloadR C hd h1 k
-- arithmetic
def xBin (K : XK) (pc : Nat) (o : Value → Value → Option Value) : Prop := ∀ (env : XE) (st : List Value) (h : XH) (v1 v2 v : Value), o v1 v2 = some v → xG K (pc + 1) env (v :: st) h → xG K pc env (v2 :: v1 :: st) h
def xUn (K : XK) (pc : Nat) (o : Value → Option Value) : Prop := ∀ (env : XE) (st : List Value) (h : XH) (v1 v : Value), o v1 = some v → xG K (pc + 1) env (v :: st) h → xG K pc env (v1 :: st) h
def e_bin (o : Value → Value → Option Value) (a b : XX) : XX := fun env h => (a env h).bind fun r => (b env r.2).bind fun q => (o r.1 q.1).map fun v => (v, q.2)
def e_un (o : Value → Option Value) (a : XX) : XX := fun env h => (a env h).bind fun r => (o r.1).map fun v => (v, r.2)
theorem ce_bin {o : Value → Value → Option Value} {a b : XX} (h1 : CE K d pc a p1) (h2 : CE K (d + 2) p1 b p2) (ho : xBin K p2 o) : CE K d pc (e_bin o a b) (p2 + 1) := by
  intro env h v h' he st hst k
  obtain ⟨⟨v1, ha⟩, e1, he⟩ := Option.bind_eq_some_iff.mp he
  obtain ⟨⟨v2, hb⟩, e2, he⟩ := Option.bind_eq_some_iff.mp he
  obtain ⟨w, e3, he⟩ := Option.map_eq_some_iff.mp he
  cases he
  exact h1 _ _ _ _ e1 st hst (h2 _ _ _ _ e2 _ (cat_cons v1 hst) (ho _ _ _ _ _ _ e3 k))
theorem ce_un {o : Value → Option Value} {a : XX} (h1 : CE K d pc a p1) (ho : xUn K p1 o) : CE K d pc (e_un o a) (p1 + 1) := by
  intro env h v h' he st hst k
  obtain ⟨⟨v1, ha⟩, e1, he⟩ := Option.bind_eq_some_iff.mp he
  obtain ⟨w, e3, he⟩ := Option.map_eq_some_iff.mp he
  cases he
  exact h1 _ _ _ _ e1 st hst (ho _ _ _ _ _ e3 k)
def o_add : Value → Value → Option Value
  | .int x, .int y => some (.int (x + y))
  | _, _ => none
theorem ob_add (C : xOK K own cc ini bz fr lo) (hd : decode cc pc = .ok (.iadd, 1)) : xBin K pc o_add := by
  intro env st h v1 v2 v ho k
  unfold o_add at ho
  split at ho
  · cases ho
    exact g_iadd C hd k
  · cases ho
def o_sub : Value → Value → Option Value
  | .int x, .int y => some (.int (x - y))
  | _, _ => none
theorem ob_sub (C : xOK K own cc ini bz fr lo) (hd : decode cc pc = .ok (.isub, 1)) : xBin K pc o_sub := by
  intro env st h v1 v2 v ho k
  unfold o_sub at ho
  split at ho
  · cases ho
    exact g_isub C hd k
  · cases ho
def o_mul : Value → Value → Option Value
  | .int x, .int y => some (.int (x * y))
  | _, _ => none
theorem ob_mul (C : xOK K own cc ini bz fr lo) (hd : decode cc pc = .ok (.imul, 1)) : xBin K pc o_mul := by
  intro env st h v1 v2 v ho k
  unfold o_mul at ho
  split at ho
  · cases ho
    exact g_imul C hd k
  · cases ho
def o_and : Value → Value → Option Value
  | .int x, .int y => some (.int (x &&& y))
  | _, _ => none
theorem ob_and (C : xOK K own cc ini bz fr lo) (hd : decode cc pc = .ok (.iand, 1)) : xBin K pc o_and := by
  intro env st h v1 v2 v ho k
  unfold o_and at ho
  split at ho
  · cases ho
    exact g_iand C hd k
  · cases ho
def o_or : Value → Value → Option Value
  | .int x, .int y => some (.int (x ||| y))
  | _, _ => none
theorem ob_or (C : xOK K own cc ini bz fr lo) (hd : decode cc pc = .ok (.ior, 1)) : xBin K pc o_or := by
  intro env st h v1 v2 v ho k
  unfold o_or at ho
  split at ho
  · cases ho
    exact g_ior C hd k
  · cases ho
def o_xor : Value → Value → Option Value
  | .int x, .int y => some (.int (x ^^^ y))
  | _, _ => none
theorem ob_xor (C : xOK K own cc ini bz fr lo) (hd : decode cc pc = .ok (.ixor, 1)) : xBin K pc o_xor := by
  intro env st h v1 v2 v ho k
  unfold o_xor at ho
  split at ho
  · cases ho
    exact g_ixor C hd k
  · cases ho
def o_shl : Value → Value → Option Value
  | .int x, .int y => some (.int (x <<< (y &&& 31)))
  | _, _ => none
theorem ob_shl (C : xOK K own cc ini bz fr lo) (hd : decode cc pc = .ok (.ishl, 1)) : xBin K pc o_shl := by
  intro env st h v1 v2 v ho k
  unfold o_shl at ho
  split at ho
  · cases ho
    exact g_ishl C hd k
  · cases ho
def o_shr : Value → Value → Option Value
  | .int x, .int y => some (.int (x >>> (y &&& 31)))
  | _, _ => none
theorem ob_shr (C : xOK K own cc ini bz fr lo) (hd : decode cc pc = .ok (.ishr, 1)) : xBin K pc o_shr := by
  intro env st h v1 v2 v ho k
  unfold o_shr at ho
  split at ho
  · cases ho
    exact g_ishr C hd k
  · cases ho
def o_ushr : Value → Value → Option Value
  | .int x, .int y => some (.int (x.toUInt32 >>> (y.toUInt32 &&& Int32.toUInt32 31)).toInt32)
  | _, _ => none
theorem ob_ushr (C : xOK K own cc ini bz fr lo) (hd : decode cc pc = .ok (.iushr, 1)) : xBin K pc o_ushr := by
  intro env st h v1 v2 v ho k
  unfold o_ushr at ho
  split at ho
  · cases ho
    exact g_iushr C hd k
  · cases ho
def o_div : Value → Value → Option Value
  | .int x, .int y => if y = 0 then none else some (.int (x / y))
  | _, _ => none
theorem ob_div (C : xOK K own cc ini bz fr lo) (hd : decode cc pc = .ok (.idiv, 1)) : xBin K pc o_div := by
  intro env st h v1 v2 v ho k
  unfold o_div at ho
  split at ho
  · split at ho
    · cases ho
    · rename_i hne
      cases ho
      exact g_idiv C hd hne k
  · cases ho
def o_rem : Value → Value → Option Value
  | .int x, .int y => if y = 0 then none else some (.int (x - x / y * y))
  | _, _ => none
theorem ob_rem (C : xOK K own cc ini bz fr lo) (hd : decode cc pc = .ok (.irem, 1)) : xBin K pc o_rem := by
  intro env st h v1 v2 v ho k
  unfold o_rem at ho
  split at ho
  · split at ho
    · cases ho
    · rename_i hne
      cases ho
      exact g_irem C hd hne k
  · cases ho
def o_ladd : Value → Value → Option Value
  | .long x, .long y => some (.long (x + y))
  | _, _ => none
theorem ob_ladd (C : xOK K own cc ini bz fr lo) (hd : decode cc pc = .ok (.ladd, 1)) : xBin K pc o_ladd := by
  intro env st h v1 v2 v ho k
  unfold o_ladd at ho
  split at ho
  · cases ho
    exact g_ladd C hd k
  · cases ho
def o_lmul : Value → Value → Option Value
  | .long x, .long y => some (.long (x * y))
  | _, _ => none
theorem ob_lmul (C : xOK K own cc ini bz fr lo) (hd : decode cc pc = .ok (.lmul, 1)) : xBin K pc o_lmul := by
  intro env st h v1 v2 v ho k
  unfold o_lmul at ho
  split at ho
  · cases ho
    exact g_lmul C hd k
  · cases ho
def o_lrem : Value → Value → Option Value
  | .long x, .long y => if y = 0 then none else some (.long (x - x / y * y))
  | _, _ => none
theorem ob_lrem (C : xOK K own cc ini bz fr lo) (hd : decode cc pc = .ok (.lrem, 1)) : xBin K pc o_lrem := by
  intro env st h v1 v2 v ho k
  unfold o_lrem at ho
  split at ho
  · split at ho
    · cases ho
    · rename_i hne
      cases ho
      exact g_lrem C hd hne k
  · cases ho
def o_neg : Value → Option Value
  | .int x => some (.int (-x))
  | _ => none
theorem ob_neg (C : xOK K own cc ini bz fr lo) (hd : decode cc pc = .ok (.ineg, 1)) : xUn K pc o_neg := by
  intro env st h v1 v ho k
  unfold o_neg at ho
  split at ho
  · cases ho
    exact g_ineg C hd k
  · cases ho
def o_i2l : Value → Option Value
  | .int x => some (.long x.toInt64)
  | _ => none
theorem ob_i2l (C : xOK K own cc ini bz fr lo) (hd : decode cc pc = .ok (.i2l, 1)) : xUn K pc o_i2l := by
  intro env st h v1 v ho k
  unfold o_i2l at ho
  split at ho
  · cases ho
    exact g_i2l C hd k
  · cases ho
def o_l2i : Value → Option Value
  | .long x => some (.int x.toInt32)
  | _ => none
theorem ob_l2i (C : xOK K own cc ini bz fr lo) (hd : decode cc pc = .ok (.l2i, 1)) : xUn K pc o_l2i := by
  intro env st h v1 v ho k
  unfold o_l2i at ho
  split at ho
  · cases ho
    exact g_l2i C hd k
  · cases ho
def o_i2c : Value → Option Value
  | .int x => some (.int (x.toUInt32 % 65536).toInt32)
  | _ => none
theorem ob_i2c (C : xOK K own cc ini bz fr lo) (hd : decode cc pc = .ok (.i2c, 1)) : xUn K pc o_i2c := by
  intro env st h v1 v ho k
  unfold o_i2c at ho
  split at ho
  · cases ho
    exact g_i2c C hd k
  · cases ho
-- fields and rows
def x_fld (ci f : Nat) (v : Value) (h : XH) : Option Value := match v with
  | .ref a => match h[a]? with
    | some (.inl (c, fs)) => if c = ci then fs[f]? else none
    | _ => none
  | _ => none
theorem x_fld_spec {ci f : Nat} {v w : Value} {h : XH} (he : x_fld ci f v h = some w) : ∃ (a : Nat) (fs : List Value), v = .ref a ∧ h[a]? = some (.inl (ci, fs)) ∧ fs[f]? = some w := by
  unfold x_fld at he
  split at he
  · rename_i a
    split at he
    · rename_i c fs hh
      split at he
      · rename_i hc
        subst hc
        exact ⟨a, fs, rfl, hh, he⟩
      · cases he
    · cases he
  · cases he
def x_ix (i : Int32) (n : Nat) : Option Nat := if i < 0 ∨ n ≤ i.toNatClampNeg then none else some i.toNatClampNeg
theorem x_ix_spec {i : Int32} {n j : Nat} (h : x_ix i n = some j) : vp_in i n ∧ j = i.toNatClampNeg := by
  unfold x_ix at h
  split at h
  · cases h
  · rename_i hc
    cases h
    exact ⟨hc, rfl⟩
/-- the row of ints at a value, of kind t -/
def x_row (t : Nat) (v : Value) (h : XH) : Option (Nat × List Int32) := match v with
  | .ref a => match h[a]? with
    | some (.inr (.inl (t', xs))) => if t' = t then some (a, xs) else none
    | _ => none
  | _ => none
theorem x_row_spec {t : Nat} {v : Value} {h : XH} {r : Nat × List Int32} (he : x_row t v h = some r) : v = .ref r.1 ∧ h[r.1]? = some (.inr (.inl (t, r.2))) := by
  unfold x_row at he
  split at he
  · rename_i a
    split at he
    · rename_i t' xs hh
      split at he
      · rename_i hc
        subst hc
        cases he
        exact ⟨rfl, hh⟩
      · cases he
    · cases he
  · cases he
def x_rrow (v : Value) (h : XH) : Option (Nat × List (Option Nat)) := match v with
  | .ref a => match h[a]? with
    | some (.inr (.inr rs)) => some (a, rs)
    | _ => none
  | _ => none
theorem x_rrow_spec {v : Value} {h : XH} {r : Nat × List (Option Nat)} (he : x_rrow v h = some r) : v = .ref r.1 ∧ h[r.1]? = some (.inr (.inr r.2)) := by
  unfold x_rrow at he
  split at he
  · rename_i a
    split at he
    · rename_i rs hh
      cases he
      exact ⟨rfl, hh⟩
    · cases he
  · cases he
def x_int : Value → Option Int32
  | .int x => some x
  | _ => none
theorem x_int_spec {v : Value} {x : Int32} (h : x_int v = some x) : v = .int x := by
  cases v <;> simp_all [x_int]
def e_fld (ci f : Nat) (a : XX) : XX := fun env h => (a env h).bind fun r => (x_fld ci f r.1 r.2).map fun v => (v, r.2)
theorem ce_fld {idx ci f : Nat} {a : XX} (C : xOK K own cc ini bz fr lo) (h1 : CE K d pc a p1) (hd : decode cc p1 = .ok (.getfield idx, 3)) (hQ : xFld own idx ci f) : CE K d pc (e_fld ci f a) (p1 + 3) := by
  intro env h v h' he st hst k
  obtain ⟨⟨v1, ha⟩, e1, he⟩ := Option.bind_eq_some_iff.mp he
  obtain ⟨w, e3, he⟩ := Option.map_eq_some_iff.mp he
  cases he
  obtain ⟨x, fs, q1, q2, q3⟩ := x_fld_spec e3
  dsimp only at q1
  subst q1
  exact h1 _ _ _ _ e1 st hst (g_getf C hd hQ q2 q3 k)
def e_ald (t : Nat) (a i : XX) : XX := fun env h => (a env h).bind fun r => (i env r.2).bind fun q => (x_row t r.1 q.2).bind fun w => (x_int q.1).bind fun x => (x_ix x w.2.length).map fun j => (.int (w.2.getD j 0), q.2)
theorem ce_ald_core {t : Nat} {a i : XX} (h1 : CE K d pc a p1) (h2 : CE K (d + 2) p1 i p2) (ho : ∀ (env : XE) (st : List Value) (h : XH) (x : Nat) (xs : List Int32) (j : Int32), h[x]? = some (.inr (.inl (t, xs))) → vp_in j xs.length → xG K (p2 + 1) env (.int (xs.getD j.toNatClampNeg 0) :: st) h → xG K p2 env (.int j :: .ref x :: st) h) : CE K d pc (e_ald t a i) (p2 + 1) := by
  intro env h v h' he st hst k
  obtain ⟨⟨v1, ha⟩, e1, he⟩ := Option.bind_eq_some_iff.mp he
  obtain ⟨⟨v2, hb⟩, e2, he⟩ := Option.bind_eq_some_iff.mp he
  obtain ⟨⟨x, xs⟩, e3, he⟩ := Option.bind_eq_some_iff.mp he
  obtain ⟨j, e4, he⟩ := Option.bind_eq_some_iff.mp he
  obtain ⟨jn, e5, he⟩ := Option.map_eq_some_iff.mp he
  cases he
  obtain ⟨q1, q2⟩ := x_row_spec e3
  have q3 := x_int_spec e4
  obtain ⟨q4, q5⟩ := x_ix_spec e5
  dsimp only at q1 q2 q3
  subst q1; subst q3; subst q5
  exact h1 _ _ _ _ e1 st hst (h2 _ _ _ _ e2 _ (cat_cons _ hst) (ho _ _ _ _ _ _ q2 q4 k))
theorem ce_iald {a i : XX} (C : xOK K own cc ini bz fr lo) (h1 : CE K d pc a p1) (h2 : CE K (d + 2) p1 i p2) (hd : decode cc p2 = .ok (.iaload, 1)) : CE K d pc (e_ald 0 a i) (p2 + 1) := ce_ald_core h1 h2 (fun _ _ _ _ _ _ q2 q4 k => g_iald C hd q2 q4 k)
theorem ce_cald {a i : XX} (C : xOK K own cc ini bz fr lo) (h1 : CE K d pc a p1) (h2 : CE K (d + 2) p1 i p2) (hd : decode cc p2 = .ok (.caload, 1)) : CE K d pc (e_ald 1 a i) (p2 + 1) := ce_ald_core h1 h2 (fun _ _ _ _ _ _ q2 q4 k => g_cald C hd q2 q4 k)
def e_aald (a i : XX) : XX := fun env h => (a env h).bind fun r => (i env r.2).bind fun q => (x_rrow r.1 q.2).bind fun w => (x_int q.1).bind fun x => (x_ix x w.2.length).bind fun j => (w.2.getD j none).map fun y => (.ref y, q.2)
theorem ce_aald {a i : XX} (C : xOK K own cc ini bz fr lo) (h1 : CE K d pc a p1) (h2 : CE K (d + 2) p1 i p2) (hd : decode cc p2 = .ok (.aaload, 1)) : CE K d pc (e_aald a i) (p2 + 1) := by
  intro env h v h' he st hst k
  obtain ⟨⟨v1, ha⟩, e1, he⟩ := Option.bind_eq_some_iff.mp he
  obtain ⟨⟨v2, hb⟩, e2, he⟩ := Option.bind_eq_some_iff.mp he
  obtain ⟨⟨x, xs⟩, e3, he⟩ := Option.bind_eq_some_iff.mp he
  obtain ⟨j, e4, he⟩ := Option.bind_eq_some_iff.mp he
  obtain ⟨jn, e5, he⟩ := Option.bind_eq_some_iff.mp he
  obtain ⟨y, e6, he⟩ := Option.map_eq_some_iff.mp he
  cases he
  obtain ⟨q1, q2⟩ := x_rrow_spec e3
  have q3 := x_int_spec e4
  obtain ⟨q4, q5⟩ := x_ix_spec e5
  dsimp only at q1 q2 q3 e6
  subst q1; subst q3; subst q5
  exact h1 _ _ _ _ e1 st hst (h2 _ _ _ _ e2 _ (cat_cons _ hst) (g_aald C hd q2 q4 e6 k))
def x_len (v : Value) (h : XH) : Option Int32 := match v with
  | .ref a => match h[a]? with
    | some (.inr (.inl (t, xs))) => if t < 2 then some (Int32.ofNat xs.length) else none
    | some (.inr (.inr rs)) => some (Int32.ofNat rs.length)
    | _ => none
  | _ => none
def e_alen (a : XX) : XX := fun env h => (a env h).bind fun r => (x_len r.1 r.2).map fun x => (.int x, r.2)
theorem ce_alen {a : XX} (C : xOK K own cc ini bz fr lo) (h1 : CE K d pc a p1) (hd : decode cc p1 = .ok (.arraylength, 1)) : CE K d pc (e_alen a) (p1 + 1) := by
  intro env h v h' he st hst k
  obtain ⟨⟨v1, ha⟩, e1, he⟩ := Option.bind_eq_some_iff.mp he
  obtain ⟨x, e3, he⟩ := Option.map_eq_some_iff.mp he
  cases he
  dsimp only at e3 k
  unfold x_len at e3
  split at e3
  · split at e3
    · rename_i hh
      split at e3
      · rename_i ht
        cases e3
        exact h1 _ _ _ _ e1 st hst (g_alen C hd hh ht k)
      · cases e3
    · rename_i hh
      cases e3
      exact h1 _ _ _ _ e1 st hst (g_alenR C hd hh k)
    · cases e3
  · cases e3
-- choices
def e_tern (c : XB) (a b : XX) : XX := fun env h => (c env h).bind fun r => if r.1 = true then a env r.2 else b env r.2
theorem ce_tern {c : XB} {a b : XX} {off : Int} {pT pF : Nat} (C : xOK K own cc ini bz fr lo) (hc : CC K d pc c pT pF) (h1 : CE K d pT a p1) (hd : decode cc p1 = .ok (.goto off, 3)) (ht : (p1 : Int) + off = (p2 : Int)) (h2 : CE K d pF b p2) : CE K d pc (e_tern c a b) p2 := by
  intro env h v h' he st hst k
  obtain ⟨⟨bv, ha⟩, e1, he⟩ := Option.bind_eq_some_iff.mp he
  refine hc _ _ _ _ e1 st hst ?_
  cases bv with
  | true => exact h1 _ _ _ _ (by simpa using he) st hst (g_goto C hd ht k)
  | false => exact h2 _ _ _ _ (by simpa using he) st hst k
-- conditions
def b_cmp (r : Int32 → Int32 → Bool) (a b : XX) : XB := fun env h => (a env h).bind fun p => (b env p.2).bind fun q => (x_int p.1).bind fun x => (x_int q.1).map fun y => (r x y, q.2)
def b_cmp0 (r : Int32 → Bool) (a : XX) : XB := fun env h => (a env h).bind fun p => (x_int p.1).map fun x => (r x, p.2)
def x_long : Value → Option Int64
  | .long x => some x
  | _ => none
theorem x_long_spec {v : Value} {x : Int64} (h : x_long v = some x) : v = .long x := by
  cases v <;> simp_all [x_long]
def b_lcmp (r : Int32 → Bool) (a b : XX) : XB := fun env h => (a env h).bind fun p => (b env p.2).bind fun q => (x_long p.1).bind fun x => (x_long q.1).map fun y => (r (lg_cmp x y), q.2)
def b_and (a b : XB) : XB := fun env h => (a env h).bind fun r => if r.1 = true then b env r.2 else some (false, r.2)
def b_or (a b : XB) : XB := fun env h => (a env h).bind fun r => if r.1 = true then some (true, r.2) else b env r.2
def b_not (a : XB) : XB := fun env h => (a env h).map fun r => (!r.1, r.2)
def b_lit (v : Bool) : XB := fun _ h => some (v, h)
theorem cc_and {a b : XB} {pM pT pF : Nat} (h1 : CC K d pc a pM pF) (h2 : CC K d pM b pT pF) : CC K d pc (b_and a b) pT pF := by
  intro env h bv h' he st hst k
  obtain ⟨⟨b1, ha⟩, e1, he⟩ := Option.bind_eq_some_iff.mp he
  refine h1 _ _ _ _ e1 st hst ?_
  cases b1 with
  | true => exact h2 _ _ _ _ (by simpa using he) st hst k
  | false =>
    simp at he
    obtain ⟨q1, q2⟩ := he
    subst q1; subst q2
    exact k
theorem cc_or {a b : XB} {pM pT pF : Nat} (h1 : CC K d pc a pT pM) (h2 : CC K d pM b pT pF) : CC K d pc (b_or a b) pT pF := by
  intro env h bv h' he st hst k
  obtain ⟨⟨b1, ha⟩, e1, he⟩ := Option.bind_eq_some_iff.mp he
  refine h1 _ _ _ _ e1 st hst ?_
  cases b1 with
  | false => exact h2 _ _ _ _ (by simpa using he) st hst k
  | true =>
    simp at he
    obtain ⟨q1, q2⟩ := he
    subst q1; subst q2
    exact k
theorem cc_not {a : XB} {pT pF : Nat} (h1 : CC K d pc a pF pT) : CC K d pc (b_not a) pT pF := by
  intro env h bv h' he st hst k
  obtain ⟨⟨b1, ha⟩, e1, he⟩ := Option.map_eq_some_iff.mp he
  cases he
  refine h1 _ _ _ _ e1 st hst ?_
  cases b1 <;> simpa using k
def r_eq (x y : Int32) : Bool := decide (x = y)
def r_eq0 (x : Int32) : Bool := decide (x = 0)
def r_ne (x y : Int32) : Bool := decide (¬ x = y)
def r_ne0 (x : Int32) : Bool := decide (¬ x = 0)
def r_lt (x y : Int32) : Bool := decide (x < y)
def r_lt0 (x : Int32) : Bool := decide (x < 0)
def r_ge (x y : Int32) : Bool := decide (y ≤ x)
def r_ge0 (x : Int32) : Bool := decide (0 ≤ x)
def r_gt (x y : Int32) : Bool := decide (y < x)
def r_gt0 (x : Int32) : Bool := decide (0 < x)
def r_le (x y : Int32) : Bool := decide (x ≤ y)
def r_le0 (x : Int32) : Bool := decide (x ≤ 0)
theorem cc_eqJ {a b : XX} {off : Int} {pT pF : Nat} (C : xOK K own cc ini bz fr lo) (h1 : CE K d pc a p1) (h2 : CE K (d + 2) p1 b p2) (hd : decode cc p2 = .ok (.if_icmp .eq off, 3)) (ht : (p2 : Int) + off = (pT : Int)) (hp : p2 + 3 = pF) : CC K d pc (b_cmp r_eq a b) pT pF := by
  intro env h bv h' he st hst k
  obtain ⟨⟨v1, ha⟩, e1, he⟩ := Option.bind_eq_some_iff.mp he
  obtain ⟨⟨v2, hb⟩, e2, he⟩ := Option.bind_eq_some_iff.mp he
  obtain ⟨x, e3, he⟩ := Option.bind_eq_some_iff.mp he
  obtain ⟨y, e4, he⟩ := Option.map_eq_some_iff.mp he
  cases he
  have q3 := x_int_spec e3
  have q4 := x_int_spec e4
  dsimp only at q3 q4
  subst q3; subst q4; subst hp
  refine h1 _ _ _ _ e1 st hst (h2 _ _ _ _ e2 _ (cat_cons _ hst) (g_icmp_eq C hd ht ?_))
  unfold r_eq at k
  simp only [decide_eq_true_eq] at k
  exact k
theorem cc_eq0J {a : XX} {off : Int} {pT pF : Nat} (C : xOK K own cc ini bz fr lo) (h1 : CE K d pc a p1) (hd : decode cc p1 = .ok (.ifCond .eq off, 3)) (ht : (p1 : Int) + off = (pT : Int)) (hp : p1 + 3 = pF) : CC K d pc (b_cmp0 r_eq0 a) pT pF := by
  intro env h bv h' he st hst k
  obtain ⟨⟨v1, ha⟩, e1, he⟩ := Option.bind_eq_some_iff.mp he
  obtain ⟨x, e3, he⟩ := Option.map_eq_some_iff.mp he
  cases he
  have q3 := x_int_spec e3
  dsimp only at q3
  subst q3; subst hp
  refine h1 _ _ _ _ e1 st hst (g_if_eq C hd ht ?_)
  unfold r_eq0 at k
  simp only [decide_eq_true_eq] at k
  exact k
theorem cc_leqJ {a b : XX} {off : Int} {pT pF : Nat} (C : xOK K own cc ini bz fr lo) (h1 : CE K d pc a p1) (h2 : CE K (d + 2) p1 b p2) (hd0 : decode cc p2 = .ok (.lcmp, 1)) (hd : decode cc (p2 + 1) = .ok (.ifCond .eq off, 3)) (ht : ((p2 + 1 : Nat) : Int) + off = (pT : Int)) (hp : p2 + 1 + 3 = pF) : CC K d pc (b_lcmp r_eq0 a b) pT pF := by
  intro env h bv h' he st hst k
  obtain ⟨⟨v1, ha⟩, e1, he⟩ := Option.bind_eq_some_iff.mp he
  obtain ⟨⟨v2, hb⟩, e2, he⟩ := Option.bind_eq_some_iff.mp he
  obtain ⟨x, e3, he⟩ := Option.bind_eq_some_iff.mp he
  obtain ⟨y, e4, he⟩ := Option.map_eq_some_iff.mp he
  cases he
  have q3 := x_long_spec e3
  have q4 := x_long_spec e4
  dsimp only at q3 q4
  subst q3; subst q4; subst hp
  refine h1 _ _ _ _ e1 st hst (h2 _ _ _ _ e2 _ (cat_cons _ hst) (g_lcmp C hd0 (g_if_eq C hd ht ?_)))
  unfold r_eq0 at k
  simp only [decide_eq_true_eq] at k
  exact k
theorem cc_eqN {a b : XX} {off : Int} {pT pF : Nat} (C : xOK K own cc ini bz fr lo) (h1 : CE K d pc a p1) (h2 : CE K (d + 2) p1 b p2) (hd : decode cc p2 = .ok (.if_icmp .ne off, 3)) (ht : (p2 : Int) + off = (pF : Int)) (hp : p2 + 3 = pT) : CC K d pc (b_cmp r_eq a b) pT pF := by
  intro env h bv h' he st hst k
  obtain ⟨⟨v1, ha⟩, e1, he⟩ := Option.bind_eq_some_iff.mp he
  obtain ⟨⟨v2, hb⟩, e2, he⟩ := Option.bind_eq_some_iff.mp he
  obtain ⟨x, e3, he⟩ := Option.bind_eq_some_iff.mp he
  obtain ⟨y, e4, he⟩ := Option.map_eq_some_iff.mp he
  cases he
  have q3 := x_int_spec e3
  have q4 := x_int_spec e4
  dsimp only at q3 q4
  subst q3; subst q4; subst hp
  refine h1 _ _ _ _ e1 st hst (h2 _ _ _ _ e2 _ (cat_cons _ hst) (g_icmp_ne C hd ht ?_))
  unfold r_eq at k
  simp only [decide_eq_true_eq] at k
  by_cases hq : x = y
  · rw [if_pos hq] at k; rw [if_neg (by simpa [Int32.not_lt, Int32.not_le] using hq)]; exact k
  · rw [if_neg hq] at k; rw [if_pos (by simpa [Int32.not_lt, Int32.not_le] using hq)]; exact k
theorem cc_eq0N {a : XX} {off : Int} {pT pF : Nat} (C : xOK K own cc ini bz fr lo) (h1 : CE K d pc a p1) (hd : decode cc p1 = .ok (.ifCond .ne off, 3)) (ht : (p1 : Int) + off = (pF : Int)) (hp : p1 + 3 = pT) : CC K d pc (b_cmp0 r_eq0 a) pT pF := by
  intro env h bv h' he st hst k
  obtain ⟨⟨v1, ha⟩, e1, he⟩ := Option.bind_eq_some_iff.mp he
  obtain ⟨x, e3, he⟩ := Option.map_eq_some_iff.mp he
  cases he
  have q3 := x_int_spec e3
  dsimp only at q3
  subst q3; subst hp
  refine h1 _ _ _ _ e1 st hst (g_if_ne C hd ht ?_)
  unfold r_eq0 at k
  simp only [decide_eq_true_eq] at k
  by_cases hq : x = 0
  · rw [if_pos hq] at k; rw [if_neg (by simpa [Int32.not_lt, Int32.not_le] using hq)]; exact k
  · rw [if_neg hq] at k; rw [if_pos (by simpa [Int32.not_lt, Int32.not_le] using hq)]; exact k
theorem cc_leqN {a b : XX} {off : Int} {pT pF : Nat} (C : xOK K own cc ini bz fr lo) (h1 : CE K d pc a p1) (h2 : CE K (d + 2) p1 b p2) (hd0 : decode cc p2 = .ok (.lcmp, 1)) (hd : decode cc (p2 + 1) = .ok (.ifCond .ne off, 3)) (ht : ((p2 + 1 : Nat) : Int) + off = (pF : Int)) (hp : p2 + 1 + 3 = pT) : CC K d pc (b_lcmp r_eq0 a b) pT pF := by
  intro env h bv h' he st hst k
  obtain ⟨⟨v1, ha⟩, e1, he⟩ := Option.bind_eq_some_iff.mp he
  obtain ⟨⟨v2, hb⟩, e2, he⟩ := Option.bind_eq_some_iff.mp he
  obtain ⟨x, e3, he⟩ := Option.bind_eq_some_iff.mp he
  obtain ⟨y, e4, he⟩ := Option.map_eq_some_iff.mp he
  cases he
  have q3 := x_long_spec e3
  have q4 := x_long_spec e4
  dsimp only at q3 q4
  subst q3; subst q4; subst hp
  refine h1 _ _ _ _ e1 st hst (h2 _ _ _ _ e2 _ (cat_cons _ hst) (g_lcmp C hd0 (g_if_ne C hd ht ?_)))
  unfold r_eq0 at k
  simp only [decide_eq_true_eq] at k
  by_cases hq : lg_cmp x y = 0
  · rw [if_pos hq] at k; rw [if_neg (by simpa [Int32.not_lt, Int32.not_le] using hq)]; exact k
  · rw [if_neg hq] at k; rw [if_pos (by simpa [Int32.not_lt, Int32.not_le] using hq)]; exact k
theorem cc_neJ {a b : XX} {off : Int} {pT pF : Nat} (C : xOK K own cc ini bz fr lo) (h1 : CE K d pc a p1) (h2 : CE K (d + 2) p1 b p2) (hd : decode cc p2 = .ok (.if_icmp .ne off, 3)) (ht : (p2 : Int) + off = (pT : Int)) (hp : p2 + 3 = pF) : CC K d pc (b_cmp r_ne a b) pT pF := by
  intro env h bv h' he st hst k
  obtain ⟨⟨v1, ha⟩, e1, he⟩ := Option.bind_eq_some_iff.mp he
  obtain ⟨⟨v2, hb⟩, e2, he⟩ := Option.bind_eq_some_iff.mp he
  obtain ⟨x, e3, he⟩ := Option.bind_eq_some_iff.mp he
  obtain ⟨y, e4, he⟩ := Option.map_eq_some_iff.mp he
  cases he
  have q3 := x_int_spec e3
  have q4 := x_int_spec e4
  dsimp only at q3 q4
  subst q3; subst q4; subst hp
  refine h1 _ _ _ _ e1 st hst (h2 _ _ _ _ e2 _ (cat_cons _ hst) (g_icmp_ne C hd ht ?_))
  unfold r_ne at k
  simp only [decide_eq_true_eq] at k
  exact k
theorem cc_ne0J {a : XX} {off : Int} {pT pF : Nat} (C : xOK K own cc ini bz fr lo) (h1 : CE K d pc a p1) (hd : decode cc p1 = .ok (.ifCond .ne off, 3)) (ht : (p1 : Int) + off = (pT : Int)) (hp : p1 + 3 = pF) : CC K d pc (b_cmp0 r_ne0 a) pT pF := by
  intro env h bv h' he st hst k
  obtain ⟨⟨v1, ha⟩, e1, he⟩ := Option.bind_eq_some_iff.mp he
  obtain ⟨x, e3, he⟩ := Option.map_eq_some_iff.mp he
  cases he
  have q3 := x_int_spec e3
  dsimp only at q3
  subst q3; subst hp
  refine h1 _ _ _ _ e1 st hst (g_if_ne C hd ht ?_)
  unfold r_ne0 at k
  simp only [decide_eq_true_eq] at k
  exact k
theorem cc_lneJ {a b : XX} {off : Int} {pT pF : Nat} (C : xOK K own cc ini bz fr lo) (h1 : CE K d pc a p1) (h2 : CE K (d + 2) p1 b p2) (hd0 : decode cc p2 = .ok (.lcmp, 1)) (hd : decode cc (p2 + 1) = .ok (.ifCond .ne off, 3)) (ht : ((p2 + 1 : Nat) : Int) + off = (pT : Int)) (hp : p2 + 1 + 3 = pF) : CC K d pc (b_lcmp r_ne0 a b) pT pF := by
  intro env h bv h' he st hst k
  obtain ⟨⟨v1, ha⟩, e1, he⟩ := Option.bind_eq_some_iff.mp he
  obtain ⟨⟨v2, hb⟩, e2, he⟩ := Option.bind_eq_some_iff.mp he
  obtain ⟨x, e3, he⟩ := Option.bind_eq_some_iff.mp he
  obtain ⟨y, e4, he⟩ := Option.map_eq_some_iff.mp he
  cases he
  have q3 := x_long_spec e3
  have q4 := x_long_spec e4
  dsimp only at q3 q4
  subst q3; subst q4; subst hp
  refine h1 _ _ _ _ e1 st hst (h2 _ _ _ _ e2 _ (cat_cons _ hst) (g_lcmp C hd0 (g_if_ne C hd ht ?_)))
  unfold r_ne0 at k
  simp only [decide_eq_true_eq] at k
  exact k
theorem cc_neN {a b : XX} {off : Int} {pT pF : Nat} (C : xOK K own cc ini bz fr lo) (h1 : CE K d pc a p1) (h2 : CE K (d + 2) p1 b p2) (hd : decode cc p2 = .ok (.if_icmp .eq off, 3)) (ht : (p2 : Int) + off = (pF : Int)) (hp : p2 + 3 = pT) : CC K d pc (b_cmp r_ne a b) pT pF := by
  intro env h bv h' he st hst k
  obtain ⟨⟨v1, ha⟩, e1, he⟩ := Option.bind_eq_some_iff.mp he
  obtain ⟨⟨v2, hb⟩, e2, he⟩ := Option.bind_eq_some_iff.mp he
  obtain ⟨x, e3, he⟩ := Option.bind_eq_some_iff.mp he
  obtain ⟨y, e4, he⟩ := Option.map_eq_some_iff.mp he
  cases he
  have q3 := x_int_spec e3
  have q4 := x_int_spec e4
  dsimp only at q3 q4
  subst q3; subst q4; subst hp
  refine h1 _ _ _ _ e1 st hst (h2 _ _ _ _ e2 _ (cat_cons _ hst) (g_icmp_eq C hd ht ?_))
  unfold r_ne at k
  simp only [decide_eq_true_eq] at k
  by_cases hq : ¬ x = y
  · rw [if_pos hq] at k; rw [if_neg (by simpa [Int32.not_lt, Int32.not_le] using hq)]; exact k
  · rw [if_neg hq] at k; rw [if_pos (by simpa [Int32.not_lt, Int32.not_le] using hq)]; exact k
theorem cc_ne0N {a : XX} {off : Int} {pT pF : Nat} (C : xOK K own cc ini bz fr lo) (h1 : CE K d pc a p1) (hd : decode cc p1 = .ok (.ifCond .eq off, 3)) (ht : (p1 : Int) + off = (pF : Int)) (hp : p1 + 3 = pT) : CC K d pc (b_cmp0 r_ne0 a) pT pF := by
  intro env h bv h' he st hst k
  obtain ⟨⟨v1, ha⟩, e1, he⟩ := Option.bind_eq_some_iff.mp he
  obtain ⟨x, e3, he⟩ := Option.map_eq_some_iff.mp he
  cases he
  have q3 := x_int_spec e3
  dsimp only at q3
  subst q3; subst hp
  refine h1 _ _ _ _ e1 st hst (g_if_eq C hd ht ?_)
  unfold r_ne0 at k
  simp only [decide_eq_true_eq] at k
  by_cases hq : ¬ x = 0
  · rw [if_pos hq] at k; rw [if_neg (by simpa [Int32.not_lt, Int32.not_le] using hq)]; exact k
  · rw [if_neg hq] at k; rw [if_pos (by simpa [Int32.not_lt, Int32.not_le] using hq)]; exact k
theorem cc_lneN {a b : XX} {off : Int} {pT pF : Nat} (C : xOK K own cc ini bz fr lo) (h1 : CE K d pc a p1) (h2 : CE K (d + 2) p1 b p2) (hd0 : decode cc p2 = .ok (.lcmp, 1)) (hd : decode cc (p2 + 1) = .ok (.ifCond .eq off, 3)) (ht : ((p2 + 1 : Nat) : Int) + off = (pF : Int)) (hp : p2 + 1 + 3 = pT) : CC K d pc (b_lcmp r_ne0 a b) pT pF := by
  intro env h bv h' he st hst k
  obtain ⟨⟨v1, ha⟩, e1, he⟩ := Option.bind_eq_some_iff.mp he
  obtain ⟨⟨v2, hb⟩, e2, he⟩ := Option.bind_eq_some_iff.mp he
  obtain ⟨x, e3, he⟩ := Option.bind_eq_some_iff.mp he
  obtain ⟨y, e4, he⟩ := Option.map_eq_some_iff.mp he
  cases he
  have q3 := x_long_spec e3
  have q4 := x_long_spec e4
  dsimp only at q3 q4
  subst q3; subst q4; subst hp
  refine h1 _ _ _ _ e1 st hst (h2 _ _ _ _ e2 _ (cat_cons _ hst) (g_lcmp C hd0 (g_if_eq C hd ht ?_)))
  unfold r_ne0 at k
  simp only [decide_eq_true_eq] at k
  by_cases hq : ¬ lg_cmp x y = 0
  · rw [if_pos hq] at k; rw [if_neg (by simpa [Int32.not_lt, Int32.not_le] using hq)]; exact k
  · rw [if_neg hq] at k; rw [if_pos (by simpa [Int32.not_lt, Int32.not_le] using hq)]; exact k
theorem cc_ltJ {a b : XX} {off : Int} {pT pF : Nat} (C : xOK K own cc ini bz fr lo) (h1 : CE K d pc a p1) (h2 : CE K (d + 2) p1 b p2) (hd : decode cc p2 = .ok (.if_icmp .lt off, 3)) (ht : (p2 : Int) + off = (pT : Int)) (hp : p2 + 3 = pF) : CC K d pc (b_cmp r_lt a b) pT pF := by
  intro env h bv h' he st hst k
  obtain ⟨⟨v1, ha⟩, e1, he⟩ := Option.bind_eq_some_iff.mp he
  obtain ⟨⟨v2, hb⟩, e2, he⟩ := Option.bind_eq_some_iff.mp he
  obtain ⟨x, e3, he⟩ := Option.bind_eq_some_iff.mp he
  obtain ⟨y, e4, he⟩ := Option.map_eq_some_iff.mp he
  cases he
  have q3 := x_int_spec e3
  have q4 := x_int_spec e4
  dsimp only at q3 q4
  subst q3; subst q4; subst hp
  refine h1 _ _ _ _ e1 st hst (h2 _ _ _ _ e2 _ (cat_cons _ hst) (g_icmp_lt C hd ht ?_))
  unfold r_lt at k
  simp only [decide_eq_true_eq] at k
  exact k
theorem cc_lt0J {a : XX} {off : Int} {pT pF : Nat} (C : xOK K own cc ini bz fr lo) (h1 : CE K d pc a p1) (hd : decode cc p1 = .ok (.ifCond .lt off, 3)) (ht : (p1 : Int) + off = (pT : Int)) (hp : p1 + 3 = pF) : CC K d pc (b_cmp0 r_lt0 a) pT pF := by
  intro env h bv h' he st hst k
  obtain ⟨⟨v1, ha⟩, e1, he⟩ := Option.bind_eq_some_iff.mp he
  obtain ⟨x, e3, he⟩ := Option.map_eq_some_iff.mp he
  cases he
  have q3 := x_int_spec e3
  dsimp only at q3
  subst q3; subst hp
  refine h1 _ _ _ _ e1 st hst (g_if_lt C hd ht ?_)
  unfold r_lt0 at k
  simp only [decide_eq_true_eq] at k
  exact k
theorem cc_lltJ {a b : XX} {off : Int} {pT pF : Nat} (C : xOK K own cc ini bz fr lo) (h1 : CE K d pc a p1) (h2 : CE K (d + 2) p1 b p2) (hd0 : decode cc p2 = .ok (.lcmp, 1)) (hd : decode cc (p2 + 1) = .ok (.ifCond .lt off, 3)) (ht : ((p2 + 1 : Nat) : Int) + off = (pT : Int)) (hp : p2 + 1 + 3 = pF) : CC K d pc (b_lcmp r_lt0 a b) pT pF := by
  intro env h bv h' he st hst k
  obtain ⟨⟨v1, ha⟩, e1, he⟩ := Option.bind_eq_some_iff.mp he
  obtain ⟨⟨v2, hb⟩, e2, he⟩ := Option.bind_eq_some_iff.mp he
  obtain ⟨x, e3, he⟩ := Option.bind_eq_some_iff.mp he
  obtain ⟨y, e4, he⟩ := Option.map_eq_some_iff.mp he
  cases he
  have q3 := x_long_spec e3
  have q4 := x_long_spec e4
  dsimp only at q3 q4
  subst q3; subst q4; subst hp
  refine h1 _ _ _ _ e1 st hst (h2 _ _ _ _ e2 _ (cat_cons _ hst) (g_lcmp C hd0 (g_if_lt C hd ht ?_)))
  unfold r_lt0 at k
  simp only [decide_eq_true_eq] at k
  exact k
theorem cc_ltN {a b : XX} {off : Int} {pT pF : Nat} (C : xOK K own cc ini bz fr lo) (h1 : CE K d pc a p1) (h2 : CE K (d + 2) p1 b p2) (hd : decode cc p2 = .ok (.if_icmp .ge off, 3)) (ht : (p2 : Int) + off = (pF : Int)) (hp : p2 + 3 = pT) : CC K d pc (b_cmp r_lt a b) pT pF := by
  intro env h bv h' he st hst k
  obtain ⟨⟨v1, ha⟩, e1, he⟩ := Option.bind_eq_some_iff.mp he
  obtain ⟨⟨v2, hb⟩, e2, he⟩ := Option.bind_eq_some_iff.mp he
  obtain ⟨x, e3, he⟩ := Option.bind_eq_some_iff.mp he
  obtain ⟨y, e4, he⟩ := Option.map_eq_some_iff.mp he
  cases he
  have q3 := x_int_spec e3
  have q4 := x_int_spec e4
  dsimp only at q3 q4
  subst q3; subst q4; subst hp
  refine h1 _ _ _ _ e1 st hst (h2 _ _ _ _ e2 _ (cat_cons _ hst) (g_icmp_ge C hd ht ?_))
  unfold r_lt at k
  simp only [decide_eq_true_eq] at k
  by_cases hq : x < y
  · rw [if_pos hq] at k; rw [if_neg (by simpa [Int32.not_lt, Int32.not_le] using hq)]; exact k
  · rw [if_neg hq] at k; rw [if_pos (by simpa [Int32.not_lt, Int32.not_le] using hq)]; exact k
theorem cc_lt0N {a : XX} {off : Int} {pT pF : Nat} (C : xOK K own cc ini bz fr lo) (h1 : CE K d pc a p1) (hd : decode cc p1 = .ok (.ifCond .ge off, 3)) (ht : (p1 : Int) + off = (pF : Int)) (hp : p1 + 3 = pT) : CC K d pc (b_cmp0 r_lt0 a) pT pF := by
  intro env h bv h' he st hst k
  obtain ⟨⟨v1, ha⟩, e1, he⟩ := Option.bind_eq_some_iff.mp he
  obtain ⟨x, e3, he⟩ := Option.map_eq_some_iff.mp he
  cases he
  have q3 := x_int_spec e3
  dsimp only at q3
  subst q3; subst hp
  refine h1 _ _ _ _ e1 st hst (g_if_ge C hd ht ?_)
  unfold r_lt0 at k
  simp only [decide_eq_true_eq] at k
  by_cases hq : x < 0
  · rw [if_pos hq] at k; rw [if_neg (by simpa [Int32.not_lt, Int32.not_le] using hq)]; exact k
  · rw [if_neg hq] at k; rw [if_pos (by simpa [Int32.not_lt, Int32.not_le] using hq)]; exact k
theorem cc_lltN {a b : XX} {off : Int} {pT pF : Nat} (C : xOK K own cc ini bz fr lo) (h1 : CE K d pc a p1) (h2 : CE K (d + 2) p1 b p2) (hd0 : decode cc p2 = .ok (.lcmp, 1)) (hd : decode cc (p2 + 1) = .ok (.ifCond .ge off, 3)) (ht : ((p2 + 1 : Nat) : Int) + off = (pF : Int)) (hp : p2 + 1 + 3 = pT) : CC K d pc (b_lcmp r_lt0 a b) pT pF := by
  intro env h bv h' he st hst k
  obtain ⟨⟨v1, ha⟩, e1, he⟩ := Option.bind_eq_some_iff.mp he
  obtain ⟨⟨v2, hb⟩, e2, he⟩ := Option.bind_eq_some_iff.mp he
  obtain ⟨x, e3, he⟩ := Option.bind_eq_some_iff.mp he
  obtain ⟨y, e4, he⟩ := Option.map_eq_some_iff.mp he
  cases he
  have q3 := x_long_spec e3
  have q4 := x_long_spec e4
  dsimp only at q3 q4
  subst q3; subst q4; subst hp
  refine h1 _ _ _ _ e1 st hst (h2 _ _ _ _ e2 _ (cat_cons _ hst) (g_lcmp C hd0 (g_if_ge C hd ht ?_)))
  unfold r_lt0 at k
  simp only [decide_eq_true_eq] at k
  by_cases hq : lg_cmp x y < 0
  · rw [if_pos hq] at k; rw [if_neg (by simpa [Int32.not_lt, Int32.not_le] using hq)]; exact k
  · rw [if_neg hq] at k; rw [if_pos (by simpa [Int32.not_lt, Int32.not_le] using hq)]; exact k
theorem cc_geJ {a b : XX} {off : Int} {pT pF : Nat} (C : xOK K own cc ini bz fr lo) (h1 : CE K d pc a p1) (h2 : CE K (d + 2) p1 b p2) (hd : decode cc p2 = .ok (.if_icmp .ge off, 3)) (ht : (p2 : Int) + off = (pT : Int)) (hp : p2 + 3 = pF) : CC K d pc (b_cmp r_ge a b) pT pF := by
  intro env h bv h' he st hst k
  obtain ⟨⟨v1, ha⟩, e1, he⟩ := Option.bind_eq_some_iff.mp he
  obtain ⟨⟨v2, hb⟩, e2, he⟩ := Option.bind_eq_some_iff.mp he
  obtain ⟨x, e3, he⟩ := Option.bind_eq_some_iff.mp he
  obtain ⟨y, e4, he⟩ := Option.map_eq_some_iff.mp he
  cases he
  have q3 := x_int_spec e3
  have q4 := x_int_spec e4
  dsimp only at q3 q4
  subst q3; subst q4; subst hp
  refine h1 _ _ _ _ e1 st hst (h2 _ _ _ _ e2 _ (cat_cons _ hst) (g_icmp_ge C hd ht ?_))
  unfold r_ge at k
  simp only [decide_eq_true_eq] at k
  exact k
theorem cc_ge0J {a : XX} {off : Int} {pT pF : Nat} (C : xOK K own cc ini bz fr lo) (h1 : CE K d pc a p1) (hd : decode cc p1 = .ok (.ifCond .ge off, 3)) (ht : (p1 : Int) + off = (pT : Int)) (hp : p1 + 3 = pF) : CC K d pc (b_cmp0 r_ge0 a) pT pF := by
  intro env h bv h' he st hst k
  obtain ⟨⟨v1, ha⟩, e1, he⟩ := Option.bind_eq_some_iff.mp he
  obtain ⟨x, e3, he⟩ := Option.map_eq_some_iff.mp he
  cases he
  have q3 := x_int_spec e3
  dsimp only at q3
  subst q3; subst hp
  refine h1 _ _ _ _ e1 st hst (g_if_ge C hd ht ?_)
  unfold r_ge0 at k
  simp only [decide_eq_true_eq] at k
  exact k
theorem cc_lgeJ {a b : XX} {off : Int} {pT pF : Nat} (C : xOK K own cc ini bz fr lo) (h1 : CE K d pc a p1) (h2 : CE K (d + 2) p1 b p2) (hd0 : decode cc p2 = .ok (.lcmp, 1)) (hd : decode cc (p2 + 1) = .ok (.ifCond .ge off, 3)) (ht : ((p2 + 1 : Nat) : Int) + off = (pT : Int)) (hp : p2 + 1 + 3 = pF) : CC K d pc (b_lcmp r_ge0 a b) pT pF := by
  intro env h bv h' he st hst k
  obtain ⟨⟨v1, ha⟩, e1, he⟩ := Option.bind_eq_some_iff.mp he
  obtain ⟨⟨v2, hb⟩, e2, he⟩ := Option.bind_eq_some_iff.mp he
  obtain ⟨x, e3, he⟩ := Option.bind_eq_some_iff.mp he
  obtain ⟨y, e4, he⟩ := Option.map_eq_some_iff.mp he
  cases he
  have q3 := x_long_spec e3
  have q4 := x_long_spec e4
  dsimp only at q3 q4
  subst q3; subst q4; subst hp
  refine h1 _ _ _ _ e1 st hst (h2 _ _ _ _ e2 _ (cat_cons _ hst) (g_lcmp C hd0 (g_if_ge C hd ht ?_)))
  unfold r_ge0 at k
  simp only [decide_eq_true_eq] at k
  exact k
theorem cc_geN {a b : XX} {off : Int} {pT pF : Nat} (C : xOK K own cc ini bz fr lo) (h1 : CE K d pc a p1) (h2 : CE K (d + 2) p1 b p2) (hd : decode cc p2 = .ok (.if_icmp .lt off, 3)) (ht : (p2 : Int) + off = (pF : Int)) (hp : p2 + 3 = pT) : CC K d pc (b_cmp r_ge a b) pT pF := by
  intro env h bv h' he st hst k
  obtain ⟨⟨v1, ha⟩, e1, he⟩ := Option.bind_eq_some_iff.mp he
  obtain ⟨⟨v2, hb⟩, e2, he⟩ := Option.bind_eq_some_iff.mp he
  obtain ⟨x, e3, he⟩ := Option.bind_eq_some_iff.mp he
  obtain ⟨y, e4, he⟩ := Option.map_eq_some_iff.mp he
  cases he
  have q3 := x_int_spec e3
  have q4 := x_int_spec e4
  dsimp only at q3 q4
  subst q3; subst q4; subst hp
  refine h1 _ _ _ _ e1 st hst (h2 _ _ _ _ e2 _ (cat_cons _ hst) (g_icmp_lt C hd ht ?_))
  unfold r_ge at k
  simp only [decide_eq_true_eq] at k
  by_cases hq : y ≤ x
  · rw [if_pos hq] at k; rw [if_neg (by simpa [Int32.not_lt, Int32.not_le] using hq)]; exact k
  · rw [if_neg hq] at k; rw [if_pos (by simpa [Int32.not_lt, Int32.not_le] using hq)]; exact k
theorem cc_ge0N {a : XX} {off : Int} {pT pF : Nat} (C : xOK K own cc ini bz fr lo) (h1 : CE K d pc a p1) (hd : decode cc p1 = .ok (.ifCond .lt off, 3)) (ht : (p1 : Int) + off = (pF : Int)) (hp : p1 + 3 = pT) : CC K d pc (b_cmp0 r_ge0 a) pT pF := by
  intro env h bv h' he st hst k
  obtain ⟨⟨v1, ha⟩, e1, he⟩ := Option.bind_eq_some_iff.mp he
  obtain ⟨x, e3, he⟩ := Option.map_eq_some_iff.mp he
  cases he
  have q3 := x_int_spec e3
  dsimp only at q3
  subst q3; subst hp
  refine h1 _ _ _ _ e1 st hst (g_if_lt C hd ht ?_)
  unfold r_ge0 at k
  simp only [decide_eq_true_eq] at k
  by_cases hq : 0 ≤ x
  · rw [if_pos hq] at k; rw [if_neg (by simpa [Int32.not_lt, Int32.not_le] using hq)]; exact k
  · rw [if_neg hq] at k; rw [if_pos (by simpa [Int32.not_lt, Int32.not_le] using hq)]; exact k
theorem cc_lgeN {a b : XX} {off : Int} {pT pF : Nat} (C : xOK K own cc ini bz fr lo) (h1 : CE K d pc a p1) (h2 : CE K (d + 2) p1 b p2) (hd0 : decode cc p2 = .ok (.lcmp, 1)) (hd : decode cc (p2 + 1) = .ok (.ifCond .lt off, 3)) (ht : ((p2 + 1 : Nat) : Int) + off = (pF : Int)) (hp : p2 + 1 + 3 = pT) : CC K d pc (b_lcmp r_ge0 a b) pT pF := by
  intro env h bv h' he st hst k
  obtain ⟨⟨v1, ha⟩, e1, he⟩ := Option.bind_eq_some_iff.mp he
  obtain ⟨⟨v2, hb⟩, e2, he⟩ := Option.bind_eq_some_iff.mp he
  obtain ⟨x, e3, he⟩ := Option.bind_eq_some_iff.mp he
  obtain ⟨y, e4, he⟩ := Option.map_eq_some_iff.mp he
  cases he
  have q3 := x_long_spec e3
  have q4 := x_long_spec e4
  dsimp only at q3 q4
  subst q3; subst q4; subst hp
  refine h1 _ _ _ _ e1 st hst (h2 _ _ _ _ e2 _ (cat_cons _ hst) (g_lcmp C hd0 (g_if_lt C hd ht ?_)))
  unfold r_ge0 at k
  simp only [decide_eq_true_eq] at k
  by_cases hq : 0 ≤ lg_cmp x y
  · rw [if_pos hq] at k; rw [if_neg (by simpa [Int32.not_lt, Int32.not_le] using hq)]; exact k
  · rw [if_neg hq] at k; rw [if_pos (by simpa [Int32.not_lt, Int32.not_le] using hq)]; exact k
theorem cc_gtJ {a b : XX} {off : Int} {pT pF : Nat} (C : xOK K own cc ini bz fr lo) (h1 : CE K d pc a p1) (h2 : CE K (d + 2) p1 b p2) (hd : decode cc p2 = .ok (.if_icmp .gt off, 3)) (ht : (p2 : Int) + off = (pT : Int)) (hp : p2 + 3 = pF) : CC K d pc (b_cmp r_gt a b) pT pF := by
  intro env h bv h' he st hst k
  obtain ⟨⟨v1, ha⟩, e1, he⟩ := Option.bind_eq_some_iff.mp he
  obtain ⟨⟨v2, hb⟩, e2, he⟩ := Option.bind_eq_some_iff.mp he
  obtain ⟨x, e3, he⟩ := Option.bind_eq_some_iff.mp he
  obtain ⟨y, e4, he⟩ := Option.map_eq_some_iff.mp he
  cases he
  have q3 := x_int_spec e3
  have q4 := x_int_spec e4
  dsimp only at q3 q4
  subst q3; subst q4; subst hp
  refine h1 _ _ _ _ e1 st hst (h2 _ _ _ _ e2 _ (cat_cons _ hst) (g_icmp_gt C hd ht ?_))
  unfold r_gt at k
  simp only [decide_eq_true_eq] at k
  exact k
theorem cc_gt0J {a : XX} {off : Int} {pT pF : Nat} (C : xOK K own cc ini bz fr lo) (h1 : CE K d pc a p1) (hd : decode cc p1 = .ok (.ifCond .gt off, 3)) (ht : (p1 : Int) + off = (pT : Int)) (hp : p1 + 3 = pF) : CC K d pc (b_cmp0 r_gt0 a) pT pF := by
  intro env h bv h' he st hst k
  obtain ⟨⟨v1, ha⟩, e1, he⟩ := Option.bind_eq_some_iff.mp he
  obtain ⟨x, e3, he⟩ := Option.map_eq_some_iff.mp he
  cases he
  have q3 := x_int_spec e3
  dsimp only at q3
  subst q3; subst hp
  refine h1 _ _ _ _ e1 st hst (g_if_gt C hd ht ?_)
  unfold r_gt0 at k
  simp only [decide_eq_true_eq] at k
  exact k
theorem cc_lgtJ {a b : XX} {off : Int} {pT pF : Nat} (C : xOK K own cc ini bz fr lo) (h1 : CE K d pc a p1) (h2 : CE K (d + 2) p1 b p2) (hd0 : decode cc p2 = .ok (.lcmp, 1)) (hd : decode cc (p2 + 1) = .ok (.ifCond .gt off, 3)) (ht : ((p2 + 1 : Nat) : Int) + off = (pT : Int)) (hp : p2 + 1 + 3 = pF) : CC K d pc (b_lcmp r_gt0 a b) pT pF := by
  intro env h bv h' he st hst k
  obtain ⟨⟨v1, ha⟩, e1, he⟩ := Option.bind_eq_some_iff.mp he
  obtain ⟨⟨v2, hb⟩, e2, he⟩ := Option.bind_eq_some_iff.mp he
  obtain ⟨x, e3, he⟩ := Option.bind_eq_some_iff.mp he
  obtain ⟨y, e4, he⟩ := Option.map_eq_some_iff.mp he
  cases he
  have q3 := x_long_spec e3
  have q4 := x_long_spec e4
  dsimp only at q3 q4
  subst q3; subst q4; subst hp
  refine h1 _ _ _ _ e1 st hst (h2 _ _ _ _ e2 _ (cat_cons _ hst) (g_lcmp C hd0 (g_if_gt C hd ht ?_)))
  unfold r_gt0 at k
  simp only [decide_eq_true_eq] at k
  exact k
theorem cc_gtN {a b : XX} {off : Int} {pT pF : Nat} (C : xOK K own cc ini bz fr lo) (h1 : CE K d pc a p1) (h2 : CE K (d + 2) p1 b p2) (hd : decode cc p2 = .ok (.if_icmp .le off, 3)) (ht : (p2 : Int) + off = (pF : Int)) (hp : p2 + 3 = pT) : CC K d pc (b_cmp r_gt a b) pT pF := by
  intro env h bv h' he st hst k
  obtain ⟨⟨v1, ha⟩, e1, he⟩ := Option.bind_eq_some_iff.mp he
  obtain ⟨⟨v2, hb⟩, e2, he⟩ := Option.bind_eq_some_iff.mp he
  obtain ⟨x, e3, he⟩ := Option.bind_eq_some_iff.mp he
  obtain ⟨y, e4, he⟩ := Option.map_eq_some_iff.mp he
  cases he
  have q3 := x_int_spec e3
  have q4 := x_int_spec e4
  dsimp only at q3 q4
  subst q3; subst q4; subst hp
  refine h1 _ _ _ _ e1 st hst (h2 _ _ _ _ e2 _ (cat_cons _ hst) (g_icmp_le C hd ht ?_))
  unfold r_gt at k
  simp only [decide_eq_true_eq] at k
  by_cases hq : y < x
  · rw [if_pos hq] at k; rw [if_neg (by simpa [Int32.not_lt, Int32.not_le] using hq)]; exact k
  · rw [if_neg hq] at k; rw [if_pos (by simpa [Int32.not_lt, Int32.not_le] using hq)]; exact k
theorem cc_gt0N {a : XX} {off : Int} {pT pF : Nat} (C : xOK K own cc ini bz fr lo) (h1 : CE K d pc a p1) (hd : decode cc p1 = .ok (.ifCond .le off, 3)) (ht : (p1 : Int) + off = (pF : Int)) (hp : p1 + 3 = pT) : CC K d pc (b_cmp0 r_gt0 a) pT pF := by
  intro env h bv h' he st hst k
  obtain ⟨⟨v1, ha⟩, e1, he⟩ := Option.bind_eq_some_iff.mp he
  obtain ⟨x, e3, he⟩ := Option.map_eq_some_iff.mp he
  cases he
  have q3 := x_int_spec e3
  dsimp only at q3
  subst q3; subst hp
  refine h1 _ _ _ _ e1 st hst (g_if_le C hd ht ?_)
  unfold r_gt0 at k
  simp only [decide_eq_true_eq] at k
  by_cases hq : 0 < x
  · rw [if_pos hq] at k; rw [if_neg (by simpa [Int32.not_lt, Int32.not_le] using hq)]; exact k
  · rw [if_neg hq] at k; rw [if_pos (by simpa [Int32.not_lt, Int32.not_le] using hq)]; exact k
theorem cc_lgtN {a b : XX} {off : Int} {pT pF : Nat} (C : xOK K own cc ini bz fr lo) (h1 : CE K d pc a p1) (h2 : CE K (d + 2) p1 b p2) (hd0 : decode cc p2 = .ok (.lcmp, 1)) (hd : decode cc (p2 + 1) = .ok (.ifCond .le off, 3)) (ht : ((p2 + 1 : Nat) : Int) + off = (pF : Int)) (hp : p2 + 1 + 3 = pT) : CC K d pc (b_lcmp r_gt0 a b) pT pF := by
  intro env h bv h' he st hst k
  obtain ⟨⟨v1, ha⟩, e1, he⟩ := Option.bind_eq_some_iff.mp he
  obtain ⟨⟨v2, hb⟩, e2, he⟩ := Option.bind_eq_some_iff.mp he
  obtain ⟨x, e3, he⟩ := Option.bind_eq_some_iff.mp he
  obtain ⟨y, e4, he⟩ := Option.map_eq_some_iff.mp he
  cases he
  have q3 := x_long_spec e3
  have q4 := x_long_spec e4
  dsimp only at q3 q4
  subst q3; subst q4; subst hp
  refine h1 _ _ _ _ e1 st hst (h2 _ _ _ _ e2 _ (cat_cons _ hst) (g_lcmp C hd0 (g_if_le C hd ht ?_)))
  unfold r_gt0 at k
  simp only [decide_eq_true_eq] at k
  by_cases hq : 0 < lg_cmp x y
  · rw [if_pos hq] at k; rw [if_neg (by simpa [Int32.not_lt, Int32.not_le] using hq)]; exact k
  · rw [if_neg hq] at k; rw [if_pos (by simpa [Int32.not_lt, Int32.not_le] using hq)]; exact k
theorem cc_leJ {a b : XX} {off : Int} {pT pF : Nat} (C : xOK K own cc ini bz fr lo) (h1 : CE K d pc a p1) (h2 : CE K (d + 2) p1 b p2) (hd : decode cc p2 = .ok (.if_icmp .le off, 3)) (ht : (p2 : Int) + off = (pT : Int)) (hp : p2 + 3 = pF) : CC K d pc (b_cmp r_le a b) pT pF := by
  intro env h bv h' he st hst k
  obtain ⟨⟨v1, ha⟩, e1, he⟩ := Option.bind_eq_some_iff.mp he
  obtain ⟨⟨v2, hb⟩, e2, he⟩ := Option.bind_eq_some_iff.mp he
  obtain ⟨x, e3, he⟩ := Option.bind_eq_some_iff.mp he
  obtain ⟨y, e4, he⟩ := Option.map_eq_some_iff.mp he
  cases he
  have q3 := x_int_spec e3
  have q4 := x_int_spec e4
  dsimp only at q3 q4
  subst q3; subst q4; subst hp
  refine h1 _ _ _ _ e1 st hst (h2 _ _ _ _ e2 _ (cat_cons _ hst) (g_icmp_le C hd ht ?_))
  unfold r_le at k
  simp only [decide_eq_true_eq] at k
  exact k
theorem cc_le0J {a : XX} {off : Int} {pT pF : Nat} (C : xOK K own cc ini bz fr lo) (h1 : CE K d pc a p1) (hd : decode cc p1 = .ok (.ifCond .le off, 3)) (ht : (p1 : Int) + off = (pT : Int)) (hp : p1 + 3 = pF) : CC K d pc (b_cmp0 r_le0 a) pT pF := by
  intro env h bv h' he st hst k
  obtain ⟨⟨v1, ha⟩, e1, he⟩ := Option.bind_eq_some_iff.mp he
  obtain ⟨x, e3, he⟩ := Option.map_eq_some_iff.mp he
  cases he
  have q3 := x_int_spec e3
  dsimp only at q3
  subst q3; subst hp
  refine h1 _ _ _ _ e1 st hst (g_if_le C hd ht ?_)
  unfold r_le0 at k
  simp only [decide_eq_true_eq] at k
  exact k
theorem cc_lleJ {a b : XX} {off : Int} {pT pF : Nat} (C : xOK K own cc ini bz fr lo) (h1 : CE K d pc a p1) (h2 : CE K (d + 2) p1 b p2) (hd0 : decode cc p2 = .ok (.lcmp, 1)) (hd : decode cc (p2 + 1) = .ok (.ifCond .le off, 3)) (ht : ((p2 + 1 : Nat) : Int) + off = (pT : Int)) (hp : p2 + 1 + 3 = pF) : CC K d pc (b_lcmp r_le0 a b) pT pF := by
  intro env h bv h' he st hst k
  obtain ⟨⟨v1, ha⟩, e1, he⟩ := Option.bind_eq_some_iff.mp he
  obtain ⟨⟨v2, hb⟩, e2, he⟩ := Option.bind_eq_some_iff.mp he
  obtain ⟨x, e3, he⟩ := Option.bind_eq_some_iff.mp he
  obtain ⟨y, e4, he⟩ := Option.map_eq_some_iff.mp he
  cases he
  have q3 := x_long_spec e3
  have q4 := x_long_spec e4
  dsimp only at q3 q4
  subst q3; subst q4; subst hp
  refine h1 _ _ _ _ e1 st hst (h2 _ _ _ _ e2 _ (cat_cons _ hst) (g_lcmp C hd0 (g_if_le C hd ht ?_)))
  unfold r_le0 at k
  simp only [decide_eq_true_eq] at k
  exact k
theorem cc_leN {a b : XX} {off : Int} {pT pF : Nat} (C : xOK K own cc ini bz fr lo) (h1 : CE K d pc a p1) (h2 : CE K (d + 2) p1 b p2) (hd : decode cc p2 = .ok (.if_icmp .gt off, 3)) (ht : (p2 : Int) + off = (pF : Int)) (hp : p2 + 3 = pT) : CC K d pc (b_cmp r_le a b) pT pF := by
  intro env h bv h' he st hst k
  obtain ⟨⟨v1, ha⟩, e1, he⟩ := Option.bind_eq_some_iff.mp he
  obtain ⟨⟨v2, hb⟩, e2, he⟩ := Option.bind_eq_some_iff.mp he
  obtain ⟨x, e3, he⟩ := Option.bind_eq_some_iff.mp he
  obtain ⟨y, e4, he⟩ := Option.map_eq_some_iff.mp he
  cases he
  have q3 := x_int_spec e3
  have q4 := x_int_spec e4
  dsimp only at q3 q4
  subst q3; subst q4; subst hp
  refine h1 _ _ _ _ e1 st hst (h2 _ _ _ _ e2 _ (cat_cons _ hst) (g_icmp_gt C hd ht ?_))
  unfold r_le at k
  simp only [decide_eq_true_eq] at k
  by_cases hq : x ≤ y
  · rw [if_pos hq] at k; rw [if_neg (by simpa [Int32.not_lt, Int32.not_le] using hq)]; exact k
  · rw [if_neg hq] at k; rw [if_pos (by simpa [Int32.not_lt, Int32.not_le] using hq)]; exact k
theorem cc_le0N {a : XX} {off : Int} {pT pF : Nat} (C : xOK K own cc ini bz fr lo) (h1 : CE K d pc a p1) (hd : decode cc p1 = .ok (.ifCond .gt off, 3)) (ht : (p1 : Int) + off = (pF : Int)) (hp : p1 + 3 = pT) : CC K d pc (b_cmp0 r_le0 a) pT pF := by
  intro env h bv h' he st hst k
  obtain ⟨⟨v1, ha⟩, e1, he⟩ := Option.bind_eq_some_iff.mp he
  obtain ⟨x, e3, he⟩ := Option.map_eq_some_iff.mp he
  cases he
  have q3 := x_int_spec e3
  dsimp only at q3
  subst q3; subst hp
  refine h1 _ _ _ _ e1 st hst (g_if_gt C hd ht ?_)
  unfold r_le0 at k
  simp only [decide_eq_true_eq] at k
  by_cases hq : x ≤ 0
  · rw [if_pos hq] at k; rw [if_neg (by simpa [Int32.not_lt, Int32.not_le] using hq)]; exact k
  · rw [if_neg hq] at k; rw [if_pos (by simpa [Int32.not_lt, Int32.not_le] using hq)]; exact k
theorem cc_lleN {a b : XX} {off : Int} {pT pF : Nat} (C : xOK K own cc ini bz fr lo) (h1 : CE K d pc a p1) (h2 : CE K (d + 2) p1 b p2) (hd0 : decode cc p2 = .ok (.lcmp, 1)) (hd : decode cc (p2 + 1) = .ok (.ifCond .gt off, 3)) (ht : ((p2 + 1 : Nat) : Int) + off = (pF : Int)) (hp : p2 + 1 + 3 = pT) : CC K d pc (b_lcmp r_le0 a b) pT pF := by
  intro env h bv h' he st hst k
  obtain ⟨⟨v1, ha⟩, e1, he⟩ := Option.bind_eq_some_iff.mp he
  obtain ⟨⟨v2, hb⟩, e2, he⟩ := Option.bind_eq_some_iff.mp he
  obtain ⟨x, e3, he⟩ := Option.bind_eq_some_iff.mp he
  obtain ⟨y, e4, he⟩ := Option.map_eq_some_iff.mp he
  cases he
  have q3 := x_long_spec e3
  have q4 := x_long_spec e4
  dsimp only at q3 q4
  subst q3; subst q4; subst hp
  refine h1 _ _ _ _ e1 st hst (h2 _ _ _ _ e2 _ (cat_cons _ hst) (g_lcmp C hd0 (g_if_gt C hd ht ?_)))
  unfold r_le0 at k
  simp only [decide_eq_true_eq] at k
  by_cases hq : lg_cmp x y ≤ 0
  · rw [if_pos hq] at k; rw [if_neg (by simpa [Int32.not_lt, Int32.not_le] using hq)]; exact k
  · rw [if_neg hq] at k; rw [if_pos (by simpa [Int32.not_lt, Int32.not_le] using hq)]; exact k
end XL
end
section
/-! STATEMENTS, calls, loops, switches -/
section XT
variable {K : XK} {own : String} {cc : ByteArray} {ini bz : Bool} {fr lo d pc p1 p2 p3 p4 pe bk ct : Nat}
def x_args : List XX → XE → XH → Option (List Value × XH)
  | [], _, h => some ([], h)
  | e :: es, env, h => (e env h).bind fun r => (x_args es env r.2).map fun q => (r.1 :: q.1, q.2)
def CA (K : XK) (d pc : Nat) (es : List XX) (pc' : Nat) : Prop := ∀ (env : XE) (h : XH) (vs : List Value) (h' : XH), x_args es env h = some (vs, h') → ∀ st : List Value, (st.map fun v => v.category).sum ≤ d → xG K pc' env (vs.reverse ++ st) h' → xG K pc env st h
theorem ca_nil : CA K d pc [] pc := by
  intro env h vs h' he st _ k
  cases he
  exact k
theorem ca_cons {e : XX} {es : List XX} (h1 : CE K d pc e p1) (h2 : CA K (d + 2) p1 es p2) : CA K d pc (e :: es) p2 := by
  intro env h vs h' he st hst k
  obtain ⟨⟨v1, ha⟩, e1, he1⟩ := Option.bind_eq_some_iff.mp he
  obtain ⟨⟨ws, hb⟩, e2, he2⟩ := Option.map_eq_some_iff.mp he1
  cases he2
  refine h1 _ _ _ _ e1 st hst (h2 _ _ _ _ e2 _ (cat_cons _ hst) ?_)
  simpa using k
/-- at pc there is a call of f -/
def xCal (K : XK) (pc : Nat) (f : XF) : Prop := ∀ (env : XE) (st args : List Value) (h : XH) (rv : Option Value) (h' : XH), (st.map fun v => v.category).sum ≤ 8 → f args h = some (rv, h') → xG K (pc + 3) env (rv.toList ++ st) h' → xG K pc env (args.reverse ++ st) h
theorem xCal_V {y : MethodName} {bytes : ByteArray} {maxL n idx fr' lo' ci : Nat} {ret : Option FieldType} {f : XF} {r : vw_C} (C : xOK K own cc ini bz fr lo) (hd : decode cc pc = .ok (.invokevirtual idx, 3)) (hW : xCallW y bytes maxL ret n) (hV : xCallV own idx y) (hci : xCl[ci]? = some r) (hcy : r.1 = y.cls) (hG : xGood y bytes maxL ret fr' lo' f) (hrec : xRecv f ci n) (hr1 : fr' + 1 ≤ fr) (hr2 : 8 + (maxL + 11) + lo' ≤ lo) : xCal K pc f :=
  fun _ _ _ _ _ _ hst hf k => g_callV C hd hW hV hci hcy hG hrec hr1 hr2 hst hf k
theorem xCal_S {y : MethodName} {bytes : ByteArray} {maxL n idx fr' lo' : Nat} {ret : Option FieldType} {f : XF} (C : xOK K own cc ini bz fr lo) (hd : decode cc pc = .ok (.invokestatic idx, 3)) (hW : xCallW y bytes maxL ret n) (hV : xCallS own idx y) (hG : xGood y bytes maxL ret fr' lo' f) (hrec : xArgs f n) (hr1 : fr' + 1 ≤ fr) (hr2 : 8 + (maxL + 11) + lo' ≤ lo) : xCal K pc f :=
  fun _ _ _ _ _ _ hst hf k => g_callS (ci := 0) C hd hW hV hG hrec hr1 hr2 hst hf k
theorem xCal_I {y : MethodName} {bytes : ByteArray} {maxL n idx fr' lo' ci : Nat} {f : XF} (C : xOK K own cc ini bz fr lo) (hd : decode cc pc = .ok (.invokespecial idx, 3)) (hW : xCallW y bytes maxL none n) (hV : xCallI own idx y) (hG : xGood y bytes maxL none fr' lo' f) (hrec : xRecv f ci n) (hr1 : fr' + 1 ≤ fr) (hr2 : 8 + (maxL + 11) + lo' ≤ lo) : xCal K pc f :=
  fun _ _ _ _ _ _ hst hf k => g_callI C hd hW hV rfl hG hrec hr1 hr2 hst hf k
def e_call (f : XF) (as : List XX) : XX := fun env h => (x_args as env h).bind fun r => (f r.1 r.2).bind fun q => q.1.map fun v => (v, q.2)
theorem ce_call {f : XF} {as : List XX} (h1 : CA K d pc as p1) (hc : xCal K p1 f) (hd : d ≤ 8) : CE K d pc (e_call f as) (p1 + 3) := by
  intro env h v h' he st hst k
  obtain ⟨⟨vs, ha⟩, e1, he1⟩ := Option.bind_eq_some_iff.mp he
  obtain ⟨⟨rv, hb⟩, e2, he2⟩ := Option.bind_eq_some_iff.mp he1
  obtain ⟨w, e3, he3⟩ := Option.map_eq_some_iff.mp he2
  cases he3
  dsimp only at e2 e3 k
  subst e3
  exact h1 _ _ _ _ e1 st hst (hc _ _ _ _ _ _ (Nat.le_trans hst hd) e2 k)
def e_new (ci : Nat) (f : XF) (as : List XX) : XX := fun env h => (x_args as env (h ++ [.inl (ci, xDf ci)])).bind fun r => (f (.ref h.length :: r.1) r.2).bind fun q => if q.1 = none then some (.ref h.length, q.2) else none
theorem ce_new {ci idx : Nat} {f : XF} {as : List XX} (C : xOK K own cc ini bz fr lo) (hd1 : decode cc pc = .ok (.new idx, 3)) (hN : xNew own idx ci) (hd2 : decode cc (pc + 3) = .ok (.dup, 1)) (h1 : CA K (d + 4) (pc + 4) as p1) (hc : xCal K p1 f) (hd : d + 2 ≤ 8) : CE K d pc (e_new ci f as) (p1 + 3) := by
  intro env h v h' he st hst k
  obtain ⟨⟨vs, ha⟩, e1, he1⟩ := Option.bind_eq_some_iff.mp he
  obtain ⟨⟨rv, hb⟩, e2, he2⟩ := Option.bind_eq_some_iff.mp he1
  dsimp only at e2 he2
  split at he2
  · rename_i hrv
    cases he2
    subst hrv
    refine g_new C hd1 hN (g_dup C hd2 rfl ?_)
    refine h1 _ _ _ _ e1 _ (cat_cons _ (cat_cons _ hst)) ?_
    have k2 := hc env (.ref h.length :: st) (.ref h.length :: vs) ha none _ (Nat.le_trans (cat_cons _ hst) hd) e2 k
    simpa using k2
  · cases he2
def e_newa (t : Nat) (a : XX) : XX := fun env h => (a env h).bind fun r => (x_int r.1).bind fun x => if ¬ x < 0 ∧ x.toNatClampNeg ≤ 100000 then some (.ref r.2.length, r.2 ++ [.inr (.inl (t, List.replicate x.toNatClampNeg 0))]) else none
def e_newr (a : XX) : XX := fun env h => (a env h).bind fun r => (x_int r.1).bind fun x => if ¬ x < 0 ∧ x.toNatClampNeg ≤ 100000 then some (.ref r.2.length, r.2 ++ [.inr (.inr (List.replicate x.toNatClampNeg none))]) else none
theorem ce_newi {a : XX} (C : xOK K own cc ini bz fr lo) (h1 : CE K d pc a p1) (hd : decode cc p1 = .ok (.newarray .int, 2)) (hW : Cond.arrayClass (newarray.typeOf .int) ∈ xBW) : CE K d pc (e_newa 0 a) (p1 + 2) := by
  intro env h v h' he st hst k
  obtain ⟨⟨v1, ha⟩, e1, he1⟩ := Option.bind_eq_some_iff.mp he
  obtain ⟨x, e2, he2⟩ := Option.bind_eq_some_iff.mp he1
  dsimp only at e2 he2
  have q := x_int_spec e2
  subst q
  split at he2
  · rename_i hx
    cases he2
    exact h1 _ _ _ _ e1 st hst (g_newi C hd hW hx.1 hx.2 k)
  · cases he2
theorem ce_newc {a : XX} (C : xOK K own cc ini bz fr lo) (h1 : CE K d pc a p1) (hd : decode cc p1 = .ok (.newarray .char, 2)) (hW : Cond.arrayClass (newarray.typeOf .char) ∈ xBW) : CE K d pc (e_newa 1 a) (p1 + 2) := by
  intro env h v h' he st hst k
  obtain ⟨⟨v1, ha⟩, e1, he1⟩ := Option.bind_eq_some_iff.mp he
  obtain ⟨x, e2, he2⟩ := Option.bind_eq_some_iff.mp he1
  dsimp only at e2 he2
  have q := x_int_spec e2
  subst q
  split at he2
  · rename_i hx
    cases he2
    exact h1 _ _ _ _ e1 st hst (g_newc C hd hW hx.1 hx.2 k)
  · cases he2
theorem ce_newr {a : XX} {idx : Nat} (C : xOK K own cc ini bz fr lo) (h1 : CE K d pc a p1) (hd : decode cc p1 = .ok (.anewarray idx, 3)) (hW : Cond.classLink own idx RX6 ∈ xBW) : CE K d pc (e_newr a) (p1 + 3) := by
  intro env h v h' he st hst k
  obtain ⟨⟨v1, ha⟩, e1, he1⟩ := Option.bind_eq_some_iff.mp he
  obtain ⟨x, e2, he2⟩ := Option.bind_eq_some_iff.mp he1
  dsimp only at e2 he2
  have q := x_int_spec e2
  subst q
  split at he2
  · rename_i hx
    cases he2
    exact h1 _ _ _ _ e1 st hst (g_newr C hd hW hx.1 hx.2 k)
  · cases he2
-- statements
def s_skip : XS := fun env h => some (none, env, h)
theorem cs_skip : CS K pc s_skip pc bk ct := by
  intro env h o env' h' he k
  cases he
  exact k
def s_seq (a b : XS) : XS := fun env h => (a env h).bind fun r => match r.1 with
  | none => b r.2.1 r.2.2
  | some o => some (some o, r.2.1, r.2.2)
theorem cs_seq {a b : XS} (h1 : CS K pc a p1 bk ct) (h2 : CS K p1 b p2 bk ct) : CS K pc (s_seq a b) p2 bk ct := by
  intro env h o env' h' he k
  obtain ⟨⟨o1, env1, ha⟩, e1, he1⟩ := Option.bind_eq_some_iff.mp he
  cases o1 with
  | none => exact h1 _ _ _ _ _ e1 (h2 _ _ _ _ _ he1 k)
  | some o2 =>
    cases he1
    refine h1 _ _ _ _ _ e1 ?_
    rcases o2 with (_ | _) | rv <;> exact k
def s_brk : XS := fun env h => some (some (.inl true), env, h)
def s_cont : XS := fun env h => some (some (.inl false), env, h)
theorem cs_brk {off : Int} {pe : Nat} (C : xOK K own cc ini bz fr lo) (hd : decode cc pc = .ok (.goto off, 3)) (ht : (pc : Int) + off = (bk : Int)) : CS K pc s_brk pe bk ct := by
  intro env h o env' h' he k
  cases he
  exact g_goto C hd ht k
theorem cs_cont {off : Int} {pe : Nat} (C : xOK K own cc ini bz fr lo) (hd : decode cc pc = .ok (.goto off, 3)) (ht : (pc : Int) + off = (ct : Int)) : CS K pc s_cont pe bk ct := by
  intro env h o env' h' he k
  cases he
  exact g_goto C hd ht k
def s_iasg (i : Nat) (e : XX) : XS := fun env h => (e env h).bind fun r => (x_int r.1).bind fun x => (xst1 env i (.int x)).map fun env' => (none, env', r.2)
theorem s_iasg_spec {i : Nat} {e : XX} {env env' : XE} {h h' : XH} {o : XO} (he : s_iasg i e env h = some (o, env', h')) : o = none ∧ ∃ x : Int32, e env h = some (.int x, h') ∧ xst1 env i (.int x) = some env' := by
  obtain ⟨⟨v1, ha⟩, e1, he1⟩ := Option.bind_eq_some_iff.mp he
  obtain ⟨x, e2, he2⟩ := Option.bind_eq_some_iff.mp he1
  obtain ⟨w, e3, he3⟩ := Option.map_eq_some_iff.mp he2
  cases he3
  have q := x_int_spec e2
  dsimp only at q
  subst q
  exact ⟨rfl, x, e1, e3⟩
theorem cs_iasgn {q : Fin 4} {i : Nat} {e : XX} (C : xOK K own cc ini bz fr lo) (h1 : CE K 0 pc e p1) (hd : decode cc p1 = .ok (.istore_n q, 1)) (hi : (q : Nat) = i) : CS K pc (s_iasg i e) (p1 + 1) bk ct := by
  intro env h o env' h' he k
  obtain ⟨rfl, x, e1, e2⟩ := s_iasg_spec he
  exact h1 _ _ _ _ e1 [] (Nat.le_refl _) (g_istore_n C hd hi e2 k)
theorem cs_iasg {i : Nat} {e : XX} (C : xOK K own cc ini bz fr lo) (h1 : CE K 0 pc e p1) (hd : decode cc p1 = .ok (.istore i, 2)) : CS K pc (s_iasg i e) (p1 + 2) bk ct := by
  intro env h o env' h' he k
  obtain ⟨rfl, x, e1, e2⟩ := s_iasg_spec he
  exact h1 _ _ _ _ e1 [] (Nat.le_refl _) (g_istore C hd e2 k)
def s_lasg (i : Nat) (e : XX) : XS := fun env h => (e env h).bind fun r => (x_long r.1).bind fun x => (xst2 env i (.long x)).map fun env' => (none, env', r.2)
theorem s_lasg_spec {i : Nat} {e : XX} {env env' : XE} {h h' : XH} {o : XO} (he : s_lasg i e env h = some (o, env', h')) : o = none ∧ ∃ x : Int64, e env h = some (.long x, h') ∧ xst2 env i (.long x) = some env' := by
  obtain ⟨⟨v1, ha⟩, e1, he1⟩ := Option.bind_eq_some_iff.mp he
  obtain ⟨x, e2, he2⟩ := Option.bind_eq_some_iff.mp he1
  obtain ⟨w, e3, he3⟩ := Option.map_eq_some_iff.mp he2
  cases he3
  have q := x_long_spec e2
  dsimp only at q
  subst q
  exact ⟨rfl, x, e1, e3⟩
theorem cs_lasgn {q : Fin 4} {i : Nat} {e : XX} (C : xOK K own cc ini bz fr lo) (h1 : CE K 0 pc e p1) (hd : decode cc p1 = .ok (.lstore_n q, 1)) (hi : (q : Nat) = i) : CS K pc (s_lasg i e) (p1 + 1) bk ct := by
  intro env h o env' h' he k
  obtain ⟨rfl, x, e1, e2⟩ := s_lasg_spec he
  exact h1 _ _ _ _ e1 [] (Nat.le_refl _) (g_lstore_n C hd hi e2 k)
theorem cs_lasg {i : Nat} {e : XX} (C : xOK K own cc ini bz fr lo) (h1 : CE K 0 pc e p1) (hd : decode cc p1 = .ok (.lstore i, 2)) : CS K pc (s_lasg i e) (p1 + 2) bk ct := by
  intro env h o env' h' he k
  obtain ⟨rfl, x, e1, e2⟩ := s_lasg_spec he
  exact h1 _ _ _ _ e1 [] (Nat.le_refl _) (g_lstore C hd e2 k)
def x_ref : Value → Option Nat
  | .ref x => some x
  | _ => none
theorem x_ref_spec {v : Value} {x : Nat} (h : x_ref v = some x) : v = .ref x := by
  cases v <;> simp_all [x_ref]
def s_aasg (i : Nat) (e : XX) : XS := fun env h => (e env h).bind fun r => (x_ref r.1).bind fun x => (xst1 env i (.ref x)).map fun env' => (none, env', r.2)
theorem s_aasg_spec {i : Nat} {e : XX} {env env' : XE} {h h' : XH} {o : XO} (he : s_aasg i e env h = some (o, env', h')) : o = none ∧ ∃ x : Nat, e env h = some (.ref x, h') ∧ xst1 env i (.ref x) = some env' := by
  obtain ⟨⟨v1, ha⟩, e1, he1⟩ := Option.bind_eq_some_iff.mp he
  obtain ⟨x, e2, he2⟩ := Option.bind_eq_some_iff.mp he1
  obtain ⟨w, e3, he3⟩ := Option.map_eq_some_iff.mp he2
  cases he3
  have q := x_ref_spec e2
  dsimp only at q
  subst q
  exact ⟨rfl, x, e1, e3⟩
theorem cs_aasgn {q : Fin 4} {i : Nat} {e : XX} (C : xOK K own cc ini bz fr lo) (h1 : CE K 0 pc e p1) (hd : decode cc p1 = .ok (.astore_n q, 1)) (hi : (q : Nat) = i) : CS K pc (s_aasg i e) (p1 + 1) bk ct := by
  intro env h o env' h' he k
  obtain ⟨rfl, x, e1, e2⟩ := s_aasg_spec he
  exact h1 _ _ _ _ e1 [] (Nat.le_refl _) (g_astore_n C hd hi e2 k)
theorem cs_aasg {i : Nat} {e : XX} (C : xOK K own cc ini bz fr lo) (h1 : CE K 0 pc e p1) (hd : decode cc p1 = .ok (.astore i, 2)) : CS K pc (s_aasg i e) (p1 + 2) bk ct := by
  intro env h o env' h' he k
  obtain ⟨rfl, x, e1, e2⟩ := s_aasg_spec he
  exact h1 _ _ _ _ e1 [] (Nat.le_refl _) (g_astore C hd e2 k)
def s_inc (i : Nat) (n : Int32) : XS := fun env h => match env[i]? with
  | some (some (.int x)) => (xst1 env i (.int (x + n))).map fun env' => (none, env', h)
  | _ => none
theorem cs_inc {i : Nat} {n : Int} {n' : Int32} (C : xOK K own cc ini bz fr lo) (hd : decode cc pc = .ok (.iinc i n, 3)) (hn : Int32.ofInt n = n') : CS K pc (s_inc i n') (pc + 3) bk ct := by
  intro env h o env' h' he k
  subst hn
  unfold s_inc at he
  split at he
  · rename_i x hx
    obtain ⟨w, e3, hm⟩ := Option.map_eq_some_iff.mp he
    cases hm
    exact g_iinc C hd hx e3 k
  · cases he
def s_put (ci f kd : Nat) (a e : XX) : XS := fun env h => (a env h).bind fun r => (e env r.2).bind fun q => match r.1 with
  | .ref x => (match q.2[x]? with
    | some (.inl (c, fs)) => if c = ci ∧ f < fs.length ∧ xKd kd q.1 = true then some (none, env, q.2.set x (.inl (c, fs.set f q.1))) else none
    | _ => none)
  | _ => none
theorem cs_put {idx ci f kd : Nat} {a e : XX} (C : xOK K own cc ini bz fr lo) (h1 : CE K 0 pc a p1) (h2 : CE K 2 p1 e p2) (hd : decode cc p2 = .ok (.putfield idx, 3)) (hQ : xPut own idx ci f kd ini) : CS K pc (s_put ci f kd a e) (p2 + 3) bk ct := by
  intro env h o env' h' he k
  obtain ⟨⟨v1, ha⟩, e1, he1⟩ := Option.bind_eq_some_iff.mp he
  obtain ⟨⟨v2, hb⟩, e2, he2⟩ := Option.bind_eq_some_iff.mp he1
  dsimp only at he2
  split at he2
  · rename_i x
    split at he2
    · rename_i c fs hh
      split at he2
      · rename_i hq
        obtain ⟨rfl, hl, hk⟩ := hq
        cases he2
        exact h1 _ _ _ _ e1 [] (Nat.le_refl _) (h2 _ _ _ _ e2 _ (cat_cons _ (Nat.le_refl _)) (g_putf C hd hQ hh hl hk k))
      · cases he2
    · cases he2
  · cases he2
/-- a field of an object, changed by an operation on what it was: dup, getfield, e, o, putfield -/
def s_putop (ci f : Nat) (o : Value → Value → Option Value) (a e : XX) : XS := fun env h => (a env h).bind fun r => (x_fld ci f r.1 r.2).bind fun v => (e env r.2).bind fun q => (o v q.1).bind fun w => match r.1 with
  | .ref x => (match q.2[x]? with
    | some (.inl (c, fs)) => if c = ci ∧ f < fs.length ∧ xKd 0 w = true then some (none, env, q.2.set x (.inl (c, fs.set f w))) else none
    | _ => none)
  | _ => none
theorem cs_putop {idx ci f : Nat} {ov : Value → Value → Option Value} {a e : XX} (C : xOK K own cc ini bz fr lo) (h1 : CE K 0 pc a p1) (hd1 : decode cc p1 = .ok (.dup, 1)) (hd2 : decode cc (p1 + 1) = .ok (.getfield idx, 3)) (hF : xFld own idx ci f) (h2 : CE K 4 (p1 + 4) e p2) (ho : xBin K p2 ov) (hd : decode cc (p2 + 1) = .ok (.putfield idx, 3)) (hQ : xPut own idx ci f 0 ini) : CS K pc (s_putop ci f ov a e) (p2 + 4) bk ct := by
  intro env h o env' h' he k
  obtain ⟨⟨v1, ha⟩, e1, he1⟩ := Option.bind_eq_some_iff.mp he
  obtain ⟨v, e0, he2⟩ := Option.bind_eq_some_iff.mp he1
  obtain ⟨⟨v2, hb⟩, e2, he3⟩ := Option.bind_eq_some_iff.mp he2
  obtain ⟨w, e3, he4⟩ := Option.bind_eq_some_iff.mp he3
  obtain ⟨x, fs0, q1, q2, q3⟩ := x_fld_spec e0
  dsimp only at q1 q2 e2 e3 he4
  subst q1
  dsimp only at he4
  split at he4
  · rename_i c fs hh
    split at he4
    · rename_i hq
      obtain ⟨rfl, hl, hk⟩ := hq
      cases he4
      refine h1 _ _ _ _ e1 [] (Nat.le_refl _) (g_dup C hd1 rfl (g_getf C hd2 hF q2 q3 ?_))
      exact h2 _ _ _ _ e2 _ (cat_cons _ (cat_cons _ (Nat.le_refl _))) (ho _ _ _ _ _ _ e3 (g_putf C hd hQ hh hl hk k))
    · cases he4
  · cases he4
def x_nar (t : Nat) (x : Int32) : Int32 := if t = 1 then vp_nar .char x else x
def s_ast (t : Nat) (a i e : XX) : XS := fun env h => (a env h).bind fun r => (i env r.2).bind fun q => (e env q.2).bind fun u => (x_row t r.1 u.2).bind fun w => (x_int q.1).bind fun j => (x_int u.1).bind fun x => (x_ix j w.2.length).map fun jn => (none, env, u.2.set w.1 (.inr (.inl (t, w.2.set jn (x_nar t x)))))
theorem cs_ast_core {t : Nat} {a i e : XX} (h1 : CE K 0 pc a p1) (h2 : CE K 2 p1 i p2) (h3 : CE K 4 p2 e p3) (ho : ∀ (env : XE) (h : XH) (y : Nat) (xs : List Int32) (j x : Int32), h[y]? = some (.inr (.inl (t, xs))) → vp_in j xs.length → xG K (p3 + 1) env [] (h.set y (.inr (.inl (t, xs.set j.toNatClampNeg (x_nar t x))))) → xG K p3 env [.int x, .int j, .ref y] h) : CS K pc (s_ast t a i e) (p3 + 1) bk ct := by
  intro env h o env' h' he k
  obtain ⟨⟨v1, ha⟩, e1, he1⟩ := Option.bind_eq_some_iff.mp he
  obtain ⟨⟨v2, hb⟩, e2, he2⟩ := Option.bind_eq_some_iff.mp he1
  obtain ⟨⟨v3, hc⟩, e3, he3⟩ := Option.bind_eq_some_iff.mp he2
  obtain ⟨⟨y, xs⟩, e4, he4⟩ := Option.bind_eq_some_iff.mp he3
  obtain ⟨j, e5, he5⟩ := Option.bind_eq_some_iff.mp he4
  obtain ⟨x, e6, he6⟩ := Option.bind_eq_some_iff.mp he5
  obtain ⟨jn, e7, he7⟩ := Option.map_eq_some_iff.mp he6
  cases he7
  obtain ⟨q1, q2⟩ := x_row_spec e4
  have q3 := x_int_spec e5
  have q4 := x_int_spec e6
  obtain ⟨q5, q6⟩ := x_ix_spec e7
  dsimp only at q1 q2 q3 q4 q5 k
  subst q1; subst q3; subst q4; subst q6
  exact h1 _ _ _ _ e1 [] (Nat.le_refl _) (h2 _ _ _ _ e2 _ (cat_cons _ (Nat.le_refl _)) (h3 _ _ _ _ e3 _ (cat_cons _ (cat_cons _ (Nat.le_refl _))) (ho _ _ _ _ _ _ q2 q5 k)))
theorem cs_iast {a i e : XX} (C : xOK K own cc ini bz fr lo) (h1 : CE K 0 pc a p1) (h2 : CE K 2 p1 i p2) (h3 : CE K 4 p2 e p3) (hd : decode cc p3 = .ok (.iastore, 1)) : CS K pc (s_ast 0 a i e) (p3 + 1) bk ct := cs_ast_core h1 h2 h3 (fun _ _ _ _ _ _ q1 q2 k => g_iast C hd q1 q2 k)
theorem cs_cast {a i e : XX} (C : xOK K own cc ini bz fr lo) (h1 : CE K 0 pc a p1) (h2 : CE K 2 p1 i p2) (h3 : CE K 4 p2 e p3) (hd : decode cc p3 = .ok (.castore, 1)) : CS K pc (s_ast 1 a i e) (p3 + 1) bk ct := cs_ast_core h1 h2 h3 (fun _ _ _ _ _ _ q1 q2 k => g_cast C hd q1 q2 k)
/-- a place of a row, changed by an operation on what it was: dup2, iaload, e, o, iastore -/
def s_astop (o : Value → Value → Option Value) (a i e : XX) : XS := fun env h => (a env h).bind fun r => (i env r.2).bind fun q => (x_row 0 r.1 q.2).bind fun w0 => (x_int q.1).bind fun j => (x_ix j w0.2.length).bind fun jn => (e env q.2).bind fun u => (o (.int (w0.2.getD jn 0)) u.1).bind fun z => (x_int z).bind fun x => (x_row 0 r.1 u.2).bind fun w => if jn < w.2.length then some (none, env, u.2.set w.1 (.inr (.inl (0, w.2.set jn x)))) else none
theorem cs_astop {ov : Value → Value → Option Value} {a i e : XX} (C : xOK K own cc ini bz fr lo) (h1 : CE K 0 pc a p1) (h2 : CE K 2 p1 i p2) (hd1 : decode cc p2 = .ok (.dup2, 1)) (hd2 : decode cc (p2 + 1) = .ok (.iaload, 1)) (h3 : CE K 6 (p2 + 2) e p3) (ho : xBin K p3 ov) (hd : decode cc (p3 + 1) = .ok (.iastore, 1)) : CS K pc (s_astop ov a i e) (p3 + 2) bk ct := by
  intro env h o env' h' he k
  obtain ⟨⟨v1, ha⟩, e1, he1⟩ := Option.bind_eq_some_iff.mp he
  obtain ⟨⟨v2, hb⟩, e2, he2⟩ := Option.bind_eq_some_iff.mp he1
  obtain ⟨⟨y0, xs0⟩, e3, he3⟩ := Option.bind_eq_some_iff.mp he2
  obtain ⟨j, e4, he4⟩ := Option.bind_eq_some_iff.mp he3
  obtain ⟨jn, e5, he5⟩ := Option.bind_eq_some_iff.mp he4
  obtain ⟨⟨v3, hc⟩, e6, he6⟩ := Option.bind_eq_some_iff.mp he5
  obtain ⟨z, e7, he7⟩ := Option.bind_eq_some_iff.mp he6
  obtain ⟨x, e8, he8⟩ := Option.bind_eq_some_iff.mp he7
  obtain ⟨⟨y, xs⟩, e9, he9⟩ := Option.bind_eq_some_iff.mp he8
  obtain ⟨q1, q2⟩ := x_row_spec e3
  have q3 := x_int_spec e4
  obtain ⟨q5, q6⟩ := x_ix_spec e5
  have q7 := x_int_spec e8
  obtain ⟨q8, q9⟩ := x_row_spec e9
  dsimp only at q1 q2 q3 q5 q7 q8 q9 e6 e7 he9
  subst q1; subst q3; subst q6; subst q7
  cases q8
  split at he9
  · rename_i hlt
    cases he9
    refine h1 _ _ _ _ e1 [] (Nat.le_refl _) (h2 _ _ _ _ e2 _ (cat_cons _ (Nat.le_refl _)) (g_dup2 C hd1 rfl rfl (g_iald C hd2 q2 q5 ?_)))
    refine h3 _ _ _ _ e6 _ ?_ (ho _ _ _ _ _ _ e7 (g_iast C hd q9 ?_ k))
    · exact cat_cons _ (cat_cons _ (cat_cons _ (Nat.le_refl _)))
    · intro w
      rcases w with w | w
      · exact q5 (Or.inl w)
      · exact absurd hlt (Nat.not_lt.mpr w)
  · cases he9
def s_aast (a i e : XX) : XS := fun env h => (a env h).bind fun r => (i env r.2).bind fun q => (e env q.2).bind fun u => (x_rrow r.1 u.2).bind fun w => (x_int q.1).bind fun j => (x_ref u.1).bind fun y => (x_ix j w.2.length).bind fun jn => match u.2[y]? with
  | some (.inl (c, _)) => if c = 6 then some (none, env, u.2.set w.1 (.inr (.inr (w.2.set jn (some y))))) else none
  | _ => none
theorem cs_aast {a i e : XX} (C : xOK K own cc ini bz fr lo) (h1 : CE K 0 pc a p1) (h2 : CE K 2 p1 i p2) (h3 : CE K 4 p2 e p3) (hd : decode cc p3 = .ok (.aastore, 1)) : CS K pc (s_aast a i e) (p3 + 1) bk ct := by
  intro env h o env' h' he k
  obtain ⟨⟨v1, ha⟩, e1, he1⟩ := Option.bind_eq_some_iff.mp he
  obtain ⟨⟨v2, hb⟩, e2, he2⟩ := Option.bind_eq_some_iff.mp he1
  obtain ⟨⟨v3, hc⟩, e3, he3⟩ := Option.bind_eq_some_iff.mp he2
  obtain ⟨⟨y, xs⟩, e4, he4⟩ := Option.bind_eq_some_iff.mp he3
  obtain ⟨j, e5, he5⟩ := Option.bind_eq_some_iff.mp he4
  obtain ⟨x, e6, he6⟩ := Option.bind_eq_some_iff.mp he5
  obtain ⟨jn, e7, he7⟩ := Option.bind_eq_some_iff.mp he6
  obtain ⟨q1, q2⟩ := x_rrow_spec e4
  have q3 := x_int_spec e5
  have q4 := x_ref_spec e6
  obtain ⟨q5, q6⟩ := x_ix_spec e7
  dsimp only at q1 q2 q3 q4 q5 he7
  subst q1; subst q3; subst q4; subst q6
  split at he7
  · rename_i c fs hh
    split at he7
    · rename_i hc6
      subst hc6
      cases he7
      exact h1 _ _ _ _ e1 [] (Nat.le_refl _) (h2 _ _ _ _ e2 _ (cat_cons _ (Nat.le_refl _)) (h3 _ _ _ _ e3 _ (cat_cons _ (cat_cons _ (Nat.le_refl _))) (g_aast (ci := 0) C hd q2 q5 hh k)))
    · cases he7
  · cases he7
/-- System.arraycopy(a, 0, b, 0, e) of a whole row onto another as long -/
def s_copy (a b e : XX) : XS := fun env h => (x_args [a, e_lit 0, b, e_lit 0, e] env h).bind fun r => match r.1 with
  | [.ref a0, .int z0, .ref a1, .int z1, .int n] => (match r.2[a0]?, r.2[a1]? with
    | some (.inr (.inl (t0, xs))), some (.inr (.inl (t1, ys))) => if t0 = 0 ∧ t1 = 0 ∧ z0 = 0 ∧ z1 = 0 ∧ ¬ n < 0 ∧ xs.length = n.toNatClampNeg ∧ ys.length = n.toNatClampNeg ∧ a0 ≠ a1 then some (none, env, r.2.set a1 (.inr (.inl (0, xs)))) else none
    | _, _ => none)
  | _ => none
theorem cs_copy {idx : Nat} {a b e : XX} (C : xOK K own cc ini bz fr lo) (h1 : CA K 0 pc [a, e_lit 0, b, e_lit 0, e] p1) (hd : decode cc p1 = .ok (.invokestatic idx, 3)) (hW : xCopyW own idx) (hr1 : 1 ≤ fr) (hr2 : nativeFrameWords "java/lang/System" "arraycopy" 5 + 11 ≤ lo) : CS K pc (s_copy a b e) (p1 + 3) bk ct := by
  intro env h o env' h' he k
  obtain ⟨⟨vs, ha⟩, e1, he1⟩ := Option.bind_eq_some_iff.mp he
  dsimp only at he1
  split at he1
  · rename_i a0 z0 a1 z1 n
    split at he1
    · rename_i t0 xs t1 ys g0 g1
      split at he1
      · rename_i hq
        obtain ⟨rfl, rfl, rfl, rfl, hn, l0, l1, hne⟩ := hq
        cases he1
        exact h1 _ _ _ _ e1 [] (Nat.le_refl _) (g_copy C hd hW hr1 hr2 hn g0 g1 l0 l1 hne k)
      · cases he1
    · cases he1
  · cases he1
/-- an expression whose int is thrown away -/
def s_exp (e : XX) : XS := fun env h => (e env h).bind fun r => (x_int r.1).map fun _ => (none, env, r.2)
theorem cs_exp {e : XX} (C : xOK K own cc ini bz fr lo) (h1 : CE K 0 pc e p1) (hd : decode cc p1 = .ok (.pop, 1)) : CS K pc (s_exp e) (p1 + 1) bk ct := by
  intro env h o env' h' he k
  obtain ⟨⟨v1, ha⟩, e1, he1⟩ := Option.bind_eq_some_iff.mp he
  obtain ⟨x, e2, he2⟩ := Option.map_eq_some_iff.mp he1
  cases he2
  have q := x_int_spec e2
  dsimp only at q
  subst q
  exact h1 _ _ _ _ e1 [] (Nat.le_refl _) (g_pop C hd rfl k)
def s_call (f : XF) (as : List XX) : XS := fun env h => (x_args as env h).bind fun r => (f r.1 r.2).bind fun q => if q.1 = none then some (none, env, q.2) else none
theorem cs_call {f : XF} {as : List XX} (h1 : CA K 0 pc as p1) (hc : xCal K p1 f) : CS K pc (s_call f as) (p1 + 3) bk ct := by
  intro env h o env' h' he k
  obtain ⟨⟨vs, ha⟩, e1, he1⟩ := Option.bind_eq_some_iff.mp he
  obtain ⟨⟨rv, hb⟩, e2, he2⟩ := Option.bind_eq_some_iff.mp he1
  dsimp only at he2 e2
  split at he2
  · rename_i hrv
    cases he2
    subst hrv
    exact h1 _ _ _ _ e1 [] (Nat.le_refl _) (hc _ _ _ _ _ _ (by simp) e2 k)
  · cases he2
/-- the constructor of Object -/
def s_oinit : XS := fun env h => match env[(0 : Nat)]? with
  | some (some (.ref _)) => some (none, env, h)
  | _ => none
theorem cs_oinit {idx : Nat} (C : xOK K own cc ini bz fr lo) (hd0 : decode cc pc = .ok (.aload_n 0, 1)) (hd : decode cc (pc + 1) = .ok (.invokespecial idx, 3)) (hW : Cond.methodLink own idx Lib.objectInit ∈ xBW) (hW2 : Cond.instanceMethod Lib.objectInit ∈ xBW) (hW3 : Cond.code Lib.objectInit ⟨#[0xb1]⟩ 1 none ∈ xBW) (hf1 : 1 ≤ fr) (hl1 : 12 ≤ lo) : CS K pc s_oinit (pc + 4) bk ct := by
  intro env h o env' h' he k
  unfold s_oinit at he
  split at he
  · rename_i x hx
    cases he
    exact g_aload_n C hd0 rfl hx (g_oinit C hd hW hW2 hW3 hf1 hl1 k)
  · cases he
def s_ite (c : XB) (a b : XS) : XS := fun env h => (c env h).bind fun r => if r.1 = true then a env r.2 else b env r.2
/-- a choice whose first part ends in a jump behind the second, or doesn't come to its end -/
theorem cs_ite {c : XB} {a b : XS} {off : Int} {pT pF : Nat} (C : xOK K own cc ini bz fr lo) (hc : CC K 0 pc c pT pF) (h1 : CS K pT a p1 bk ct) (hd : decode cc p1 = .ok (.goto off, 3)) (ht : (p1 : Int) + off = (p2 : Int)) (h2 : CS K pF b p2 bk ct) : CS K pc (s_ite c a b) p2 bk ct := by
  intro env h o env' h' he k
  obtain ⟨⟨bv, ha⟩, e1, he1⟩ := Option.bind_eq_some_iff.mp he
  refine hc _ _ _ _ e1 [] (Nat.le_refl _) ?_
  cases bv with
  | true =>
    refine h1 _ _ _ _ _ (by simpa using he1) ?_
    rcases o with _ | (_ | _) | rv
    · exact g_goto C hd ht k
    · exact k
    · exact k
    · exact k
  | false => exact h2 _ _ _ _ _ (by simpa using he1) k
theorem cs_itf {c : XB} {a b : XS} {pT pF : Nat} (hc : CC K 0 pc c pT pF) (h1 : CS K pT a p2 bk ct) (h2 : CS K pF b p2 bk ct) : CS K pc (s_ite c a b) p2 bk ct := by
  intro env h o env' h' he k
  obtain ⟨⟨bv, ha⟩, e1, he1⟩ := Option.bind_eq_some_iff.mp he
  refine hc _ _ _ _ e1 [] (Nat.le_refl _) ?_
  cases bv with
  | true => exact h1 _ _ _ _ _ (by simpa using he1) k
  | false => exact h2 _ _ _ _ _ (by simpa using he1) k
/-- a loop: condition, body, what is done behind the body; at most so many rounds -/
def s_loop (n : Nat) (c : XB) (a u : XS) : XS := match n with
  | 0 => fun _ _ => none
  | n + 1 => fun env h => (c env h).bind fun r => if r.1 = true then (a env r.2).bind fun q => (match q.1 with
      | none => (u q.2.1 q.2.2).bind fun w => if w.1 = none then s_loop n c a u w.2.1 w.2.2 else none
      | some (.inl true) => some (none, q.2.1, q.2.2)
      | some (.inl false) => (u q.2.1 q.2.2).bind fun w => if w.1 = none then s_loop n c a u w.2.1 w.2.2 else none
      | some (.inr rv) => some (some (.inr rv), q.2.1, q.2.2)) else some (none, env, r.2)
theorem cs_loop {n : Nat} {c : XB} {a u : XS} {off : Int} {pB pE pu : Nat} (C : xOK K own cc ini bz fr lo) (hc : CC K 0 pc c pB pE) (h1 : CS K pB a pu pE pu) (h2 : CS K pu u p2 0 0) (hd : decode cc p2 = .ok (.goto off, 3)) (ht : (p2 : Int) + off = (pc : Int)) : CS K pc (s_loop n c a u) pE bk ct := by
  induction n with
  | zero =>
    intro env h o env' h' he k
    cases he
  | succ n ih =>
    intro env h o env' h' he k
    unfold s_loop at he
    obtain ⟨⟨bv, ha⟩, e1, he1⟩ := Option.bind_eq_some_iff.mp he
    refine hc _ _ _ _ e1 [] (Nat.le_refl _) ?_
    have step : ∀ (env1 : XE) (hb : XH), ((u env1 hb).bind fun w => if w.1 = none then s_loop n c a u w.2.1 w.2.2 else none) = some (o, env', h') → xG K pu env1 [] hb := by
      intro env1 hb hs
      obtain ⟨⟨o3, env3, hc3⟩, e3, hs2⟩ := Option.bind_eq_some_iff.mp hs
      dsimp only at hs2
      split at hs2
      · rename_i ho3
        subst ho3
        exact h2 _ _ _ _ _ e3 (g_goto C hd ht (ih _ _ _ _ _ hs2 k))
      · cases hs2
    cases bv with
    | false =>
      simp at he1
      obtain ⟨q1, q2, q3⟩ := he1
      subst q1; subst q2; subst q3
      exact k
    | true =>
      simp only [if_true] at he1
      obtain ⟨⟨o2, env2, hb2⟩, e2, he2⟩ := Option.bind_eq_some_iff.mp he1
      refine h1 _ _ _ _ _ e2 ?_
      dsimp only at he2
      rcases o2 with _ | (_ | _) | rv
      · exact step _ _ he2
      · exact step _ _ he2
      · cases he2
        exact k
      · cases he2
        exact k
def s_ret (e : XX) : XS := fun env h => (e env h).bind fun r => (x_int r.1).map fun x => (some (.inr (some (.int x))), env, r.2)
theorem cs_ret {e : XX} (C : xOK K own cc ini false fr lo) (h1 : CE K 0 pc e p1) (hd : decode cc p1 = .ok (.ireturn, 1)) : CS K pc (s_ret e) pe bk ct := by
  intro env h o env' h' he k
  obtain ⟨⟨v1, ha⟩, e1, he1⟩ := Option.bind_eq_some_iff.mp he
  obtain ⟨x, e2, he2⟩ := Option.map_eq_some_iff.mp he1
  cases he2
  have q := x_int_spec e2
  dsimp only at q
  subst q
  refine h1 _ _ _ _ e1 [] (Nat.le_refl _) ?_
  obtain ⟨fl, p, l, e, R, s, m, args, below, meth, c, b, D, cI, n0, s0, rv0, hF, Q⟩ := K
  obtain ⟨k1, k2⟩ := k
  dsimp only [xRv, xHF] at k1 k2
  subst k2
  exact C.2.1 _ _ _ hd k1.symm (fun z => by cases z)
def s_retZ (e : XX) : XS := fun env h => (e env h).bind fun r => (x_int r.1).bind fun x => if x = 0 ∨ x = 1 then some (some (.inr (some (.int x))), env, r.2) else none
theorem cs_retZ {e : XX} (C : xOK K own cc ini bz fr lo) (h1 : CE K 0 pc e p1) (hd : decode cc p1 = .ok (.ireturn, 1)) : CS K pc (s_retZ e) pe bk ct := by
  intro env h o env' h' he k
  obtain ⟨⟨v1, ha⟩, e1, he1⟩ := Option.bind_eq_some_iff.mp he
  obtain ⟨x, e2, he2⟩ := Option.bind_eq_some_iff.mp he1
  split at he2
  · rename_i hx01
    cases he2
    have q := x_int_spec e2
    dsimp only at q
    subst q
    refine h1 _ _ _ _ e1 [] (Nat.le_refl _) ?_
    obtain ⟨fl, p, l, e, R, s, m, args, below, meth, c, b, D, cI, n0, s0, rv0, hF, Q⟩ := K
    obtain ⟨k1, k2⟩ := k
    dsimp only [xRv, xHF] at k1 k2
    subst k2
    exact C.2.1 _ _ _ hd k1.symm (fun _ => hx01)
  · cases he2
def s_retV : XS := fun env h => some (some (.inr none), env, h)
theorem cs_retV (C : xOK K own cc ini bz fr lo) (hd : decode cc pc = .ok (.return_, 1)) : CS K pc s_retV pe bk ct := by
  intro env h o env' h' he k
  cases he
  obtain ⟨fl, p, l, e, R, s, m, args, below, meth, c, b, D, cI, n0, s0, rv0, hF, Q⟩ := K
  obtain ⟨k1, k2⟩ := k
  dsimp only [xRv, xHF] at k1 k2
  subst k2
  exact C.2.2 _ _ hd k1.symm
/-- a switch: by its own number each case, the last one else; the cases end by a jump out, or not at all -/
def x_brk : XO → XO
  | some (.inl true) => none
  | o => o
def s_sel (ks : List (Int × XS)) (dflt : XS) (x : Int32) : XS := match ks.find? (fun (q : Int × XS) => decide (q.1 = x.toInt)) with
  | some q => q.2
  | none => dflt
def s_sw (e : XX) (ks : List (Int × XS)) (dflt : XS) : XS := fun env h => (e env h).bind fun r => (x_int r.1).bind fun x => (s_sel ks dflt x env r.2).map fun w => (x_brk w.1, w.2)
def CW (K : XK) (pe ct : Nat) : List (Int × XS) → List Nat → Prop
  | [], [] => True
  | k :: ks, t :: ts => CS K t k.2 pe pe ct ∧ CW K pe ct ks ts
  | _, _ => False
theorem CW_at {pe ct : Nat} : ∀ {ks : List (Int × XS)} {ts : List Nat}, CW K pe ct ks ts → ∀ (j : Nat) (q : Int × XS) , ks[j]? = some q → ∃ t, ts[j]? = some t ∧ CS K t q.2 pe pe ct
  | [], _, _, j, q, h => by simp at h
  | k :: ks, [], h, _, _, _ => h.elim
  | k :: ks, t :: ts, h, 0, q, hq => by
    simp at hq
    subst hq
    exact ⟨t, by simp, h.1⟩
  | k :: ks, t :: ts, h, j + 1, q, hq => by
    simp at hq
    obtain ⟨t', h1, h2⟩ := CW_at h.2 j q hq
    exact ⟨t', by simpa using h1, h2⟩
theorem cs_sw_core {e : XX} {ks : List (Int × XS)} {ts : List Nat} {dflt : XS} {td : Nat} (h1 : CE K 0 pc e p1) (hw : CW K pe ct ks ts) (hdf : CS K td dflt pe pe ct)
    (hj : ∀ (env : XE) (h : XH) (x : Int32), (∀ (j t : Nat), ks.findIdx? (fun (q : Int × XS) => decide (q.1 = x.toInt)) = some j → ts[j]? = some t → xG K t env [] h → xG K p1 env [.int x] h) ∧ (ks.findIdx? (fun (q : Int × XS) => decide (q.1 = x.toInt)) = none → xG K td env [] h → xG K p1 env [.int x] h)) : CS K pc (s_sw e ks dflt) pe bk ct := by
  intro env h o env' h' he k
  obtain ⟨⟨v1, ha⟩, e1, he1⟩ := Option.bind_eq_some_iff.mp he
  obtain ⟨x, e2, he2⟩ := Option.bind_eq_some_iff.mp he1
  obtain ⟨⟨o2, env2, h2⟩, e3, he3⟩ := Option.map_eq_some_iff.mp he2
  have q := x_int_spec e2
  dsimp only at q e3 he3
  subst q
  refine h1 _ _ _ _ e1 [] (Nat.le_refl _) ?_
  have hfin : x_fin K pe pe ct o2 env2 h2 := by
    rcases o2 with _ | (_ | _) | rv <;> cases he3 <;> exact k
  obtain ⟨j1, j2⟩ := hj env ha x
  cases hfi : ks.findIdx? (fun (q : Int × XS) => decide (q.1 = x.toInt)) with
  | none =>
    have hfn : ks.find? (fun (q : Int × XS) => decide (q.1 = x.toInt)) = none := by
      rw [List.findIdx?_eq_none_iff] at hfi
      rw [List.find?_eq_none]
      intro a ha
      simp [hfi a ha]
    unfold s_sel at e3
    rw [hfn] at e3
    exact j2 hfi (hdf _ _ _ _ _ e3 hfin)
  | some j =>
    have hfs : ∃ q, ks[j]? = some q ∧ ks.find? (fun (q : Int × XS) => decide (q.1 = x.toInt)) = some q := by
      obtain ⟨hl, hp, hn⟩ := List.findIdx?_eq_some_iff_getElem.mp hfi
      refine ⟨ks[j], List.getElem?_eq_getElem hl, ?_⟩
      exact List.find?_eq_some_iff_getElem.mpr ⟨hp, j, hl, rfl, fun m hm => by simpa using hn m hm⟩
    obtain ⟨q, g1, g2⟩ := hfs
    unfold s_sel at e3
    rw [g2] at e3
    obtain ⟨t, t1, t2⟩ := CW_at hw j q g1
    exact j1 j t hfi t1 (t2 _ _ _ _ _ e3 hfin)
theorem cs_table {e : XX} {ks : List (Int × XS)} {ts : List Nat} {dflt : XS} {td len : Nat} {do_ low high : Int} {offs : Array Int} (C : xOK K own cc ini bz fr lo) (h1 : CE K 0 pc e p1) (hd : decode cc p1 = .ok (.tableswitch do_ low high offs, len)) (hlow : ks.map (fun (q : Int × XS) => q.1) = (List.range offs.size).map (fun (j : Nat) => low + (j : Int))) (hhigh : high = low + offs.size - 1) (hts : ts.map (fun (t : Nat) => (t : Int)) = offs.toList.map (fun (o : Int) => (p1 : Int) + o)) (htd : (p1 : Int) + do_ = (td : Int)) (hw : CW K pe ct ks ts) (hdf : CS K td dflt pe pe ct) : CS K pc (s_sw e ks dflt) pe bk ct := by
  refine cs_sw_core h1 hw hdf (fun env h x => ⟨fun j t hj ht k => ?_, fun hj k => ?_⟩)
  · obtain ⟨hl, hp, -⟩ := List.findIdx?_eq_some_iff_getElem.mp hj
    have hkey : (ks.map (fun (q : Int × XS) => q.1))[j]? = some x.toInt := by
      rw [List.getElem?_map, List.getElem?_eq_getElem hl]
      simpa using hp
    rw [hlow, List.getElem?_map] at hkey
    obtain ⟨j', hj', hx⟩ := Option.map_eq_some_iff.mp hkey
    obtain ⟨hjl, hjj⟩ := List.getElem?_eq_some_iff.mp hj'
    simp at hjl hjj
    subst hjj
    have hto : (offs.toList.map (fun (o : Int) => (p1 : Int) + o))[j]? = some (t : Int) := by
      rw [← hts, List.getElem?_map, ht]
      rfl
    rw [List.getElem?_map] at hto
    obtain ⟨o, ho, hto⟩ := Option.map_eq_some_iff.mp hto
    refine g_table C hd ?_ (fun i hi => by omega) k
    rw [if_neg (by omega)]
    rw [show (x.toInt - low).toNat = j by omega]
    rw [Array.getD_eq_getD_getElem?, show offs[j]? = some o by simpa using ho]
    exact hto
  · refine g_table C hd ?_ (fun i hi => by omega) k
    rw [if_pos]
    · exact htd
    · rw [List.findIdx?_eq_none_iff] at hj
      by_cases hq : x.toInt < low ∨ high < x.toInt
      · exact hq
      · exfalso
        have hm : x.toInt ∈ ks.map (fun (q : Int × XS) => q.1) := by
          rw [hlow]
          exact List.mem_map.mpr ⟨(x.toInt - low).toNat, List.mem_range.mpr (by omega), by omega⟩
        obtain ⟨q, hq1, hq2⟩ := List.mem_map.mp hm
        have := hj q hq1
        simp [hq2] at this
theorem cs_lookup {e : XX} {ks : List (Int × XS)} {ts : List Nat} {dflt : XS} {td len : Nat} {do_ : Int} {ps : Array (Int × Int)} (C : xOK K own cc ini bz fr lo) (h1 : CE K 0 pc e p1) (hd : decode cc p1 = .ok (.lookupswitch do_ ps, len)) (hp : (ps.toList.zip (ps.toList.drop 1)).all (fun (a, next) => a.1 < next.1) = true) (hm : ∀ x : Int, (match ks.findIdx? (fun (q : Int × XS) => decide (q.1 = x)) with
    | some j => (ts[j]?).map (fun (t : Nat) => (t : Int))
    | none => some (td : Int)) = some ((p1 : Int) + Op.lookupswitch.offset ps.toList do_ x)) (hw : CW K pe ct ks ts) (hdf : CS K td dflt pe pe ct) : CS K pc (s_sw e ks dflt) pe bk ct := by
  refine cs_sw_core h1 hw hdf (fun env h x => ⟨fun j t hj ht k => ?_, fun hj k => ?_⟩)
  · have := hm x.toInt
    rw [hj] at this
    simp only [ht, Option.map_some, Option.some.injEq] at this
    exact g_lookup C hd hp this.symm k
  · have := hm x.toInt
    rw [hj] at this
    simp only [Option.some.injEq] at this
    exact g_lookup C hd hp this.symm k
end XT
end
