-- ===== PART A: goes FIRST, ahead of the names: the tables' words, and 'selects' of the private methods out of them =====
/-- a private method of a class that the tables say can be made, by its rows of tables_1 -/
def lw_okq (q : MethodName × Nat) : Prop := (q.1.cls ≠ "java/lang/invoke/MethodHandle" ∧ q.1.cls ≠ "java/lang/invoke/VarHandle") ∧ Cond.instantiable q.1.cls q.2 ∈ tables_1 ∧ Cond.privateMethod q.1 ∈ tables_1 ∧ Cond.instanceMethod q.1 ∈ tables_1
theorem lw_p0 : lw_okq (⟨"ProvedTable$Reader", "advance", "()V"⟩, 8) := ⟨⟨by decide +kernel, by decide +kernel⟩, List.mem_of_getElem? (i := 26) (by decide +kernel), List.mem_of_getElem? (i := 324) (by decide +kernel), List.mem_of_getElem? (i := 325) (by decide +kernel)⟩
theorem lw_p1 : lw_okq (⟨"ProvedTable$Reader", "kindAt", "(I)I"⟩, 8) := ⟨⟨by decide +kernel, by decide +kernel⟩, List.mem_of_getElem? (i := 26) (by decide +kernel), List.mem_of_getElem? (i := 328) (by decide +kernel), List.mem_of_getElem? (i := 329) (by decide +kernel)⟩
theorem lw_p2 : lw_okq (⟨"ProvedTable$Reader", "readLine", "(LProvedTable$Table;)Z"⟩, 8) := ⟨⟨by decide +kernel, by decide +kernel⟩, List.mem_of_getElem? (i := 26) (by decide +kernel), List.mem_of_getElem? (i := 336) (by decide +kernel), List.mem_of_getElem? (i := 337) (by decide +kernel)⟩
theorem lw_p3 : lw_okq (⟨"ProvedTable$Reader", "readHead", "(LProvedTable$Table;)Z"⟩, 8) := ⟨⟨by decide +kernel, by decide +kernel⟩, List.mem_of_getElem? (i := 26) (by decide +kernel), List.mem_of_getElem? (i := 340) (by decide +kernel), List.mem_of_getElem? (i := 341) (by decide +kernel)⟩
theorem lw_p4 : lw_okq (⟨"ProvedTable$Reader", "readWord", "(Ljava/lang/String;)Z"⟩, 8) := ⟨⟨by decide +kernel, by decide +kernel⟩, List.mem_of_getElem? (i := 26) (by decide +kernel), List.mem_of_getElem? (i := 345) (by decide +kernel), List.mem_of_getElem? (i := 346) (by decide +kernel)⟩
theorem lw_p5 : lw_okq (⟨"ProvedTable$Reader", "isWord", "(Ljava/lang/String;)Z"⟩, 8) := ⟨⟨by decide +kernel, by decide +kernel⟩, List.mem_of_getElem? (i := 26) (by decide +kernel), List.mem_of_getElem? (i := 349) (by decide +kernel), List.mem_of_getElem? (i := 350) (by decide +kernel)⟩
theorem lw_p6 : lw_okq (⟨"ProvedTable$Reader", "fail", "(I)Z"⟩, 8) := ⟨⟨by decide +kernel, by decide +kernel⟩, List.mem_of_getElem? (i := 26) (by decide +kernel), List.mem_of_getElem? (i := 401) (by decide +kernel), List.mem_of_getElem? (i := 402) (by decide +kernel)⟩
theorem lw_p7 : lw_okq (⟨"ProvedTable$Reader", "readNamed", "(Ljava/lang/String;II)I"⟩, 8) := ⟨⟨by decide +kernel, by decide +kernel⟩, List.mem_of_getElem? (i := 26) (by decide +kernel), List.mem_of_getElem? (i := 406) (by decide +kernel), List.mem_of_getElem? (i := 407) (by decide +kernel)⟩
theorem lw_p8 : lw_okq (⟨"ProvedTable$Reader", "readNumber", "(II)I"⟩, 8) := ⟨⟨by decide +kernel, by decide +kernel⟩, List.mem_of_getElem? (i := 26) (by decide +kernel), List.mem_of_getElem? (i := 410) (by decide +kernel), List.mem_of_getElem? (i := 411) (by decide +kernel)⟩
theorem lw_p9 : lw_okq (⟨"ProvedTable$Reader", "readClaim", "(LProvedTable$Table;)Z"⟩, 8) := ⟨⟨by decide +kernel, by decide +kernel⟩, List.mem_of_getElem? (i := 26) (by decide +kernel), List.mem_of_getElem? (i := 417) (by decide +kernel), List.mem_of_getElem? (i := 418) (by decide +kernel)⟩
theorem lw_p10 : lw_okq (⟨"ProvedTable$Reader", "readForm", "(LProvedTable$Table;I)I"⟩, 8) := ⟨⟨by decide +kernel, by decide +kernel⟩, List.mem_of_getElem? (i := 26) (by decide +kernel), List.mem_of_getElem? (i := 422) (by decide +kernel), List.mem_of_getElem? (i := 423) (by decide +kernel)⟩
theorem lw_p11 : lw_okq (⟨"ProvedTable$Reader", "worldsOfLeaf", "(LProvedTable$Table;)I"⟩, 8) := ⟨⟨by decide +kernel, by decide +kernel⟩, List.mem_of_getElem? (i := 26) (by decide +kernel), List.mem_of_getElem? (i := 426) (by decide +kernel), List.mem_of_getElem? (i := 427) (by decide +kernel)⟩
theorem lw_p12 : lw_okq (⟨"ProvedTable$Reader", "operatorHere", "()I"⟩, 8) := ⟨⟨by decide +kernel, by decide +kernel⟩, List.mem_of_getElem? (i := 26) (by decide +kernel), List.mem_of_getElem? (i := 440) (by decide +kernel), List.mem_of_getElem? (i := 441) (by decide +kernel)⟩
theorem lw_p13 : lw_okq (⟨"ProvedTable$Reader", "readParts", "(LProvedTable$Table;II)I"⟩, 8) := ⟨⟨by decide +kernel, by decide +kernel⟩, List.mem_of_getElem? (i := 26) (by decide +kernel), List.mem_of_getElem? (i := 448) (by decide +kernel), List.mem_of_getElem? (i := 449) (by decide +kernel)⟩
theorem lw_p14 : lw_okq (⟨"ProvedTable$Reader", "readSalt", "(LProvedTable$Table;)Z"⟩, 8) := ⟨⟨by decide +kernel, by decide +kernel⟩, List.mem_of_getElem? (i := 26) (by decide +kernel), List.mem_of_getElem? (i := 453) (by decide +kernel), List.mem_of_getElem? (i := 454) (by decide +kernel)⟩
theorem lw_p15 : lw_okq (⟨"ProvedTable$Reader", "isNumberOf", "(I)Z"⟩, 8) := ⟨⟨by decide +kernel, by decide +kernel⟩, List.mem_of_getElem? (i := 26) (by decide +kernel), List.mem_of_getElem? (i := 457) (by decide +kernel), List.mem_of_getElem? (i := 458) (by decide +kernel)⟩
def lw_privs_1 : List (MethodName × Nat) := [(⟨"ProvedTable$Reader", "advance", "()V"⟩, 8), (⟨"ProvedTable$Reader", "kindAt", "(I)I"⟩, 8), (⟨"ProvedTable$Reader", "readLine", "(LProvedTable$Table;)Z"⟩, 8), (⟨"ProvedTable$Reader", "readHead", "(LProvedTable$Table;)Z"⟩, 8), (⟨"ProvedTable$Reader", "readWord", "(Ljava/lang/String;)Z"⟩, 8), (⟨"ProvedTable$Reader", "isWord", "(Ljava/lang/String;)Z"⟩, 8), (⟨"ProvedTable$Reader", "fail", "(I)Z"⟩, 8), (⟨"ProvedTable$Reader", "readNamed", "(Ljava/lang/String;II)I"⟩, 8), (⟨"ProvedTable$Reader", "readNumber", "(II)I"⟩, 8), (⟨"ProvedTable$Reader", "readClaim", "(LProvedTable$Table;)Z"⟩, 8), (⟨"ProvedTable$Reader", "readForm", "(LProvedTable$Table;I)I"⟩, 8), (⟨"ProvedTable$Reader", "worldsOfLeaf", "(LProvedTable$Table;)I"⟩, 8), (⟨"ProvedTable$Reader", "operatorHere", "()I"⟩, 8), (⟨"ProvedTable$Reader", "readParts", "(LProvedTable$Table;II)I"⟩, 8), (⟨"ProvedTable$Reader", "readSalt", "(LProvedTable$Table;)Z"⟩, 8), (⟨"ProvedTable$Reader", "isNumberOf", "(I)Z"⟩, 8)]
theorem lw_r1 : ∀ q ∈ lw_privs_1, lw_okq q := List.forall_mem_cons.mpr ⟨lw_p0, List.forall_mem_cons.mpr ⟨lw_p1, List.forall_mem_cons.mpr ⟨lw_p2, List.forall_mem_cons.mpr ⟨lw_p3, List.forall_mem_cons.mpr ⟨lw_p4, List.forall_mem_cons.mpr ⟨lw_p5, List.forall_mem_cons.mpr ⟨lw_p6, List.forall_mem_cons.mpr ⟨lw_p7, List.forall_mem_cons.mpr ⟨lw_p8, List.forall_mem_cons.mpr ⟨lw_p9, List.forall_mem_cons.mpr ⟨lw_p10, List.forall_mem_cons.mpr ⟨lw_p11, List.forall_mem_cons.mpr ⟨lw_p12, List.forall_mem_cons.mpr ⟨lw_p13, List.forall_mem_cons.mpr ⟨lw_p14, List.forall_mem_cons.mpr ⟨lw_p15, fun _ h => absurd h List.not_mem_nil⟩⟩⟩⟩⟩⟩⟩⟩⟩⟩⟩⟩⟩⟩⟩⟩
theorem lw_p16 : lw_okq (⟨"ProvedTable$Reader", "readStep", "(LProvedTable$Table;)Z"⟩, 8) := ⟨⟨by decide +kernel, by decide +kernel⟩, List.mem_of_getElem? (i := 26) (by decide +kernel), List.mem_of_getElem? (i := 462) (by decide +kernel), List.mem_of_getElem? (i := 463) (by decide +kernel)⟩
theorem lw_p17 : lw_okq (⟨"ProvedTable$Reader", "readSet", "(II)I"⟩, 8) := ⟨⟨by decide +kernel, by decide +kernel⟩, List.mem_of_getElem? (i := 26) (by decide +kernel), List.mem_of_getElem? (i := 467) (by decide +kernel), List.mem_of_getElem? (i := 468) (by decide +kernel)⟩
theorem lw_p18 : lw_okq (⟨"ProvedTable$Reader", "readGuest", "(LProvedTable$Table;)Z"⟩, 8) := ⟨⟨by decide +kernel, by decide +kernel⟩, List.mem_of_getElem? (i := 26) (by decide +kernel), List.mem_of_getElem? (i := 482) (by decide +kernel), List.mem_of_getElem? (i := 483) (by decide +kernel)⟩
theorem lw_p19 : lw_okq (⟨"ProvedTable$Reader", "readSign", "()Z"⟩, 8) := ⟨⟨by decide +kernel, by decide +kernel⟩, List.mem_of_getElem? (i := 26) (by decide +kernel), List.mem_of_getElem? (i := 488) (by decide +kernel), List.mem_of_getElem? (i := 489) (by decide +kernel)⟩
theorem lw_p20 : lw_okq (⟨"ProvedTable", "provedByAll", "()I"⟩, 12) := ⟨⟨by decide +kernel, by decide +kernel⟩, List.mem_of_getElem? (i := 18) (by decide +kernel), List.mem_of_getElem? (i := 592) (by decide +kernel), List.mem_of_getElem? (i := 593) (by decide +kernel)⟩
theorem lw_p21 : lw_okq (⟨"ProvedTable", "freshProofs", "()LProvedTable$Sheet;"⟩, 12) := ⟨⟨by decide +kernel, by decide +kernel⟩, List.mem_of_getElem? (i := 18) (by decide +kernel), List.mem_of_getElem? (i := 596) (by decide +kernel), List.mem_of_getElem? (i := 597) (by decide +kernel)⟩
theorem lw_p22 : lw_okq (⟨"ProvedTable", "refusalOfSteps", "(I)I"⟩, 12) := ⟨⟨by decide +kernel, by decide +kernel⟩, List.mem_of_getElem? (i := 18) (by decide +kernel), List.mem_of_getElem? (i := 644) (by decide +kernel), List.mem_of_getElem? (i := 645) (by decide +kernel)⟩
theorem lw_p23 : lw_okq (⟨"ProvedTable", "refusalOfSlot", "(I)I"⟩, 12) := ⟨⟨by decide +kernel, by decide +kernel⟩, List.mem_of_getElem? (i := 18) (by decide +kernel), List.mem_of_getElem? (i := 648) (by decide +kernel), List.mem_of_getElem? (i := 649) (by decide +kernel)⟩
theorem lw_p24 : lw_okq (⟨"ProvedTable$Reading", "reasonAgainst", "(LProvedTable$Table;I)I"⟩, 4) := ⟨⟨by decide +kernel, by decide +kernel⟩, List.mem_of_getElem? (i := 195) (by decide +kernel), List.mem_of_getElem? (i := 663) (by decide +kernel), List.mem_of_getElem? (i := 664) (by decide +kernel)⟩
theorem lw_p25 : lw_okq (⟨"ProvedTable$Reading", "usedForAll", "(LProvedTable$Table;I)I"⟩, 4) := ⟨⟨by decide +kernel, by decide +kernel⟩, List.mem_of_getElem? (i := 195) (by decide +kernel), List.mem_of_getElem? (i := 667) (by decide +kernel), List.mem_of_getElem? (i := 668) (by decide +kernel)⟩
theorem lw_p26 : lw_okq (⟨"ProvedTable", "shortestSet", "(I)I"⟩, 12) := ⟨⟨by decide +kernel, by decide +kernel⟩, List.mem_of_getElem? (i := 18) (by decide +kernel), List.mem_of_getElem? (i := 706) (by decide +kernel), List.mem_of_getElem? (i := 707) (by decide +kernel)⟩
theorem lw_p27 : lw_okq (⟨"ProvedTable$Sheet", "isLeast", "(II)Z"⟩, 1) := ⟨⟨by decide +kernel, by decide +kernel⟩, List.mem_of_getElem? (i := 184) (by decide +kernel), List.mem_of_getElem? (i := 737) (by decide +kernel), List.mem_of_getElem? (i := 738) (by decide +kernel)⟩
theorem lw_p28 : lw_okq (⟨"ProvedTable", "provedWithout", "(I)I"⟩, 12) := ⟨⟨by decide +kernel, by decide +kernel⟩, List.mem_of_getElem? (i := 18) (by decide +kernel), List.mem_of_getElem? (i := 745) (by decide +kernel), List.mem_of_getElem? (i := 746) (by decide +kernel)⟩
theorem lw_p29 : lw_okq (⟨"ProvedTable", "menuWorth", "(II)I"⟩, 12) := ⟨⟨by decide +kernel, by decide +kernel⟩, List.mem_of_getElem? (i := 18) (by decide +kernel), List.mem_of_getElem? (i := 757) (by decide +kernel), List.mem_of_getElem? (i := 758) (by decide +kernel)⟩
theorem lw_p30 : lw_okq (⟨"ProvedTable", "menuSet", "(II)I"⟩, 12) := ⟨⟨by decide +kernel, by decide +kernel⟩, List.mem_of_getElem? (i := 18) (by decide +kernel), List.mem_of_getElem? (i := 761) (by decide +kernel), List.mem_of_getElem? (i := 762) (by decide +kernel)⟩
theorem lw_p31 : lw_okq (⟨"ProvedTable", "guestsProving", "(I)I"⟩, 12) := ⟨⟨by decide +kernel, by decide +kernel⟩, List.mem_of_getElem? (i := 18) (by decide +kernel), List.mem_of_getElem? (i := 792) (by decide +kernel), List.mem_of_getElem? (i := 793) (by decide +kernel)⟩
def lw_privs_2 : List (MethodName × Nat) := [(⟨"ProvedTable$Reader", "readStep", "(LProvedTable$Table;)Z"⟩, 8), (⟨"ProvedTable$Reader", "readSet", "(II)I"⟩, 8), (⟨"ProvedTable$Reader", "readGuest", "(LProvedTable$Table;)Z"⟩, 8), (⟨"ProvedTable$Reader", "readSign", "()Z"⟩, 8), (⟨"ProvedTable", "provedByAll", "()I"⟩, 12), (⟨"ProvedTable", "freshProofs", "()LProvedTable$Sheet;"⟩, 12), (⟨"ProvedTable", "refusalOfSteps", "(I)I"⟩, 12), (⟨"ProvedTable", "refusalOfSlot", "(I)I"⟩, 12), (⟨"ProvedTable$Reading", "reasonAgainst", "(LProvedTable$Table;I)I"⟩, 4), (⟨"ProvedTable$Reading", "usedForAll", "(LProvedTable$Table;I)I"⟩, 4), (⟨"ProvedTable", "shortestSet", "(I)I"⟩, 12), (⟨"ProvedTable$Sheet", "isLeast", "(II)Z"⟩, 1), (⟨"ProvedTable", "provedWithout", "(I)I"⟩, 12), (⟨"ProvedTable", "menuWorth", "(II)I"⟩, 12), (⟨"ProvedTable", "menuSet", "(II)I"⟩, 12), (⟨"ProvedTable", "guestsProving", "(I)I"⟩, 12)]
theorem lw_r2 : ∀ q ∈ lw_privs_2, lw_okq q := List.forall_mem_cons.mpr ⟨lw_p16, List.forall_mem_cons.mpr ⟨lw_p17, List.forall_mem_cons.mpr ⟨lw_p18, List.forall_mem_cons.mpr ⟨lw_p19, List.forall_mem_cons.mpr ⟨lw_p20, List.forall_mem_cons.mpr ⟨lw_p21, List.forall_mem_cons.mpr ⟨lw_p22, List.forall_mem_cons.mpr ⟨lw_p23, List.forall_mem_cons.mpr ⟨lw_p24, List.forall_mem_cons.mpr ⟨lw_p25, List.forall_mem_cons.mpr ⟨lw_p26, List.forall_mem_cons.mpr ⟨lw_p27, List.forall_mem_cons.mpr ⟨lw_p28, List.forall_mem_cons.mpr ⟨lw_p29, List.forall_mem_cons.mpr ⟨lw_p30, List.forall_mem_cons.mpr ⟨lw_p31, fun _ h => absurd h List.not_mem_nil⟩⟩⟩⟩⟩⟩⟩⟩⟩⟩⟩⟩⟩⟩⟩⟩
theorem lw_p32 : lw_okq (⟨"ProvedTable", "worthWithLemma", "(II)I"⟩, 12) := ⟨⟨by decide +kernel, by decide +kernel⟩, List.mem_of_getElem? (i := 18) (by decide +kernel), List.mem_of_getElem? (i := 808) (by decide +kernel), List.mem_of_getElem? (i := 809) (by decide +kernel)⟩
theorem lw_p33 : lw_okq (⟨"ProvedTable", "doesTeamProve", "(II)Z"⟩, 12) := ⟨⟨by decide +kernel, by decide +kernel⟩, List.mem_of_getElem? (i := 18) (by decide +kernel), List.mem_of_getElem? (i := 830) (by decide +kernel), List.mem_of_getElem? (i := 831) (by decide +kernel)⟩
theorem lw_p34 : lw_okq (⟨"ProvedTable", "leastTeam", "(I)I"⟩, 12) := ⟨⟨by decide +kernel, by decide +kernel⟩, List.mem_of_getElem? (i := 18) (by decide +kernel), List.mem_of_getElem? (i := 842) (by decide +kernel), List.mem_of_getElem? (i := 843) (by decide +kernel)⟩
theorem lw_p35 : lw_okq (⟨"ProvedTable", "refusalOfPairs", "(I)I"⟩, 12) := ⟨⟨by decide +kernel, by decide +kernel⟩, List.mem_of_getElem? (i := 18) (by decide +kernel), List.mem_of_getElem? (i := 869) (by decide +kernel), List.mem_of_getElem? (i := 870) (by decide +kernel)⟩
theorem lw_p36 : lw_okq (⟨"ProvedTable$Kitchen", "open", "(LProvedTable$Table;)V"⟩, 7) := ⟨⟨by decide +kernel, by decide +kernel⟩, List.mem_of_getElem? (i := 218) (by decide +kernel), List.mem_of_getElem? (i := 881) (by decide +kernel), List.mem_of_getElem? (i := 882) (by decide +kernel)⟩
theorem lw_p37 : lw_okq (⟨"ProvedTable$Kitchen", "cookPair", "(LProvedTable$Table;II)Z"⟩, 7) := ⟨⟨by decide +kernel, by decide +kernel⟩, List.mem_of_getElem? (i := 218) (by decide +kernel), List.mem_of_getElem? (i := 885) (by decide +kernel), List.mem_of_getElem? (i := 886) (by decide +kernel)⟩
theorem lw_p38 : lw_okq (⟨"ProvedTable$Kitchen", "hourOfAll", "(LProvedTable$Table;I)I"⟩, 7) := ⟨⟨by decide +kernel, by decide +kernel⟩, List.mem_of_getElem? (i := 218) (by decide +kernel), List.mem_of_getElem? (i := 889) (by decide +kernel), List.mem_of_getElem? (i := 890) (by decide +kernel)⟩
theorem lw_p39 : lw_okq (⟨"ProvedTable$Kitchen", "give", "(III)V"⟩, 7) := ⟨⟨by decide +kernel, by decide +kernel⟩, List.mem_of_getElem? (i := 218) (by decide +kernel), List.mem_of_getElem? (i := 896) (by decide +kernel), List.mem_of_getElem? (i := 897) (by decide +kernel)⟩
theorem lw_p40 : lw_okq (⟨"ProvedTable", "lengthOfDuel", "()I"⟩, 12) := ⟨⟨by decide +kernel, by decide +kernel⟩, List.mem_of_getElem? (i := 18) (by decide +kernel), List.mem_of_getElem? (i := 916) (by decide +kernel), List.mem_of_getElem? (i := 917) (by decide +kernel)⟩
theorem lw_p41 : lw_okq (⟨"ProvedTable", "coreSet", "()I"⟩, 12) := ⟨⟨by decide +kernel, by decide +kernel⟩, List.mem_of_getElem? (i := 18) (by decide +kernel), List.mem_of_getElem? (i := 936) (by decide +kernel), List.mem_of_getElem? (i := 937) (by decide +kernel)⟩
theorem lw_p42 : lw_okq (⟨"ProvedTable", "leastSaltFor", "(I)I"⟩, 12) := ⟨⟨by decide +kernel, by decide +kernel⟩, List.mem_of_getElem? (i := 18) (by decide +kernel), List.mem_of_getElem? (i := 988) (by decide +kernel), List.mem_of_getElem? (i := 989) (by decide +kernel)⟩
theorem lw_p43 : lw_okq (⟨"ProvedTable", "refusalOfDishes", "(I)I"⟩, 12) := ⟨⟨by decide +kernel, by decide +kernel⟩, List.mem_of_getElem? (i := 18) (by decide +kernel), List.mem_of_getElem? (i := 1012) (by decide +kernel), List.mem_of_getElem? (i := 1013) (by decide +kernel)⟩
theorem lw_p44 : lw_okq (⟨"ProvedTable", "rowsThere", "()I"⟩, 12) := ⟨⟨by decide +kernel, by decide +kernel⟩, List.mem_of_getElem? (i := 18) (by decide +kernel), List.mem_of_getElem? (i := 1074) (by decide +kernel), List.mem_of_getElem? (i := 1075) (by decide +kernel)⟩
theorem lw_p45 : lw_okq (⟨"ProvedTableModel", "advance", "()V"⟩, 34) := ⟨⟨by decide +kernel, by decide +kernel⟩, List.mem_of_getElem? (i := 1107) (by decide +kernel), List.mem_of_getElem? (i := 1243) (by decide +kernel), List.mem_of_getElem? (i := 1244) (by decide +kernel)⟩
theorem lw_p46 : lw_okq (⟨"ProvedTableModel", "see", "(I)I"⟩, 34) := ⟨⟨by decide +kernel, by decide +kernel⟩, List.mem_of_getElem? (i := 1107) (by decide +kernel), List.mem_of_getElem? (i := 1247) (by decide +kernel), List.mem_of_getElem? (i := 1248) (by decide +kernel)⟩
theorem lw_p47 : lw_okq (⟨"ProvedTableModel", "good", "()Z"⟩, 34) := ⟨⟨by decide +kernel, by decide +kernel⟩, List.mem_of_getElem? (i := 1107) (by decide +kernel), List.mem_of_getElem? (i := 1257) (by decide +kernel), List.mem_of_getElem? (i := 1258) (by decide +kernel)⟩
def lw_privs_3 : List (MethodName × Nat) := [(⟨"ProvedTable", "worthWithLemma", "(II)I"⟩, 12), (⟨"ProvedTable", "doesTeamProve", "(II)Z"⟩, 12), (⟨"ProvedTable", "leastTeam", "(I)I"⟩, 12), (⟨"ProvedTable", "refusalOfPairs", "(I)I"⟩, 12), (⟨"ProvedTable$Kitchen", "open", "(LProvedTable$Table;)V"⟩, 7), (⟨"ProvedTable$Kitchen", "cookPair", "(LProvedTable$Table;II)Z"⟩, 7), (⟨"ProvedTable$Kitchen", "hourOfAll", "(LProvedTable$Table;I)I"⟩, 7), (⟨"ProvedTable$Kitchen", "give", "(III)V"⟩, 7), (⟨"ProvedTable", "lengthOfDuel", "()I"⟩, 12), (⟨"ProvedTable", "coreSet", "()I"⟩, 12), (⟨"ProvedTable", "leastSaltFor", "(I)I"⟩, 12), (⟨"ProvedTable", "refusalOfDishes", "(I)I"⟩, 12), (⟨"ProvedTable", "rowsThere", "()I"⟩, 12), (⟨"ProvedTableModel", "advance", "()V"⟩, 34), (⟨"ProvedTableModel", "see", "(I)I"⟩, 34), (⟨"ProvedTableModel", "good", "()Z"⟩, 34)]
theorem lw_r3 : ∀ q ∈ lw_privs_3, lw_okq q := List.forall_mem_cons.mpr ⟨lw_p32, List.forall_mem_cons.mpr ⟨lw_p33, List.forall_mem_cons.mpr ⟨lw_p34, List.forall_mem_cons.mpr ⟨lw_p35, List.forall_mem_cons.mpr ⟨lw_p36, List.forall_mem_cons.mpr ⟨lw_p37, List.forall_mem_cons.mpr ⟨lw_p38, List.forall_mem_cons.mpr ⟨lw_p39, List.forall_mem_cons.mpr ⟨lw_p40, List.forall_mem_cons.mpr ⟨lw_p41, List.forall_mem_cons.mpr ⟨lw_p42, List.forall_mem_cons.mpr ⟨lw_p43, List.forall_mem_cons.mpr ⟨lw_p44, List.forall_mem_cons.mpr ⟨lw_p45, List.forall_mem_cons.mpr ⟨lw_p46, List.forall_mem_cons.mpr ⟨lw_p47, fun _ h => absurd h List.not_mem_nil⟩⟩⟩⟩⟩⟩⟩⟩⟩⟩⟩⟩⟩⟩⟩⟩
theorem lw_p48 : lw_okq (⟨"ProvedTableModel", "readLine", "()V"⟩, 34) := ⟨⟨by decide +kernel, by decide +kernel⟩, List.mem_of_getElem? (i := 1107) (by decide +kernel), List.mem_of_getElem? (i := 1261) (by decide +kernel), List.mem_of_getElem? (i := 1262) (by decide +kernel)⟩
theorem lw_p49 : lw_okq (⟨"ProvedTableModel", "needs", "(Ljava/lang/String;)V"⟩, 34) := ⟨⟨by decide +kernel, by decide +kernel⟩, List.mem_of_getElem? (i := 1107) (by decide +kernel), List.mem_of_getElem? (i := 1266) (by decide +kernel), List.mem_of_getElem? (i := 1267) (by decide +kernel)⟩
theorem lw_p50 : lw_okq (⟨"ProvedTableModel", "takes", "(Ljava/lang/String;)Z"⟩, 34) := ⟨⟨by decide +kernel, by decide +kernel⟩, List.mem_of_getElem? (i := 1107) (by decide +kernel), List.mem_of_getElem? (i := 1270) (by decide +kernel), List.mem_of_getElem? (i := 1271) (by decide +kernel)⟩
theorem lw_p51 : lw_okq (⟨"ProvedTableModel", "is", "(Ljava/lang/String;)Z"⟩, 34) := ⟨⟨by decide +kernel, by decide +kernel⟩, List.mem_of_getElem? (i := 1107) (by decide +kernel), List.mem_of_getElem? (i := 1274) (by decide +kernel), List.mem_of_getElem? (i := 1275) (by decide +kernel)⟩
theorem lw_p52 : lw_okq (⟨"ProvedTableModel", "errs", "(I)V"⟩, 34) := ⟨⟨by decide +kernel, by decide +kernel⟩, List.mem_of_getElem? (i := 1107) (by decide +kernel), List.mem_of_getElem? (i := 1280) (by decide +kernel), List.mem_of_getElem? (i := 1281) (by decide +kernel)⟩
theorem lw_p53 : lw_okq (⟨"ProvedTableModel", "told", "(Ljava/lang/String;II)I"⟩, 34) := ⟨⟨by decide +kernel, by decide +kernel⟩, List.mem_of_getElem? (i := 1107) (by decide +kernel), List.mem_of_getElem? (i := 1285) (by decide +kernel), List.mem_of_getElem? (i := 1286) (by decide +kernel)⟩
theorem lw_p54 : lw_okq (⟨"ProvedTableModel", "number", "(II)I"⟩, 34) := ⟨⟨by decide +kernel, by decide +kernel⟩, List.mem_of_getElem? (i := 1107) (by decide +kernel), List.mem_of_getElem? (i := 1289) (by decide +kernel), List.mem_of_getElem? (i := 1290) (by decide +kernel)⟩
theorem lw_p55 : lw_okq (⟨"ProvedTableModel", "readNext", "()V"⟩, 34) := ⟨⟨by decide +kernel, by decide +kernel⟩, List.mem_of_getElem? (i := 1107) (by decide +kernel), List.mem_of_getElem? (i := 1295) (by decide +kernel), List.mem_of_getElem? (i := 1296) (by decide +kernel)⟩
theorem lw_p56 : lw_okq (⟨"ProvedTableModel", "readClaim", "()V"⟩, 34) := ⟨⟨by decide +kernel, by decide +kernel⟩, List.mem_of_getElem? (i := 1107) (by decide +kernel), List.mem_of_getElem? (i := 1303) (by decide +kernel), List.mem_of_getElem? (i := 1304) (by decide +kernel)⟩
theorem lw_p57 : lw_okq (⟨"ProvedTableModel", "form", "()I"⟩, 34) := ⟨⟨by decide +kernel, by decide +kernel⟩, List.mem_of_getElem? (i := 1107) (by decide +kernel), List.mem_of_getElem? (i := 1308) (by decide +kernel), List.mem_of_getElem? (i := 1309) (by decide +kernel)⟩
theorem lw_p58 : lw_okq (⟨"ProvedTableModel", "formWord", "()I"⟩, 34) := ⟨⟨by decide +kernel, by decide +kernel⟩, List.mem_of_getElem? (i := 1107) (by decide +kernel), List.mem_of_getElem? (i := 1312) (by decide +kernel), List.mem_of_getElem? (i := 1313) (by decide +kernel)⟩
theorem lw_p59 : lw_okq (⟨"ProvedTableModel", "freshAll", "()I"⟩, 34) := ⟨⟨by decide +kernel, by decide +kernel⟩, List.mem_of_getElem? (i := 1107) (by decide +kernel), List.mem_of_getElem? (i := 1321) (by decide +kernel), List.mem_of_getElem? (i := 1322) (by decide +kernel)⟩
theorem lw_p60 : lw_okq (⟨"ProvedTableModel", "atomWorlds", "(I)I"⟩, 34) := ⟨⟨by decide +kernel, by decide +kernel⟩, List.mem_of_getElem? (i := 1107) (by decide +kernel), List.mem_of_getElem? (i := 1326) (by decide +kernel), List.mem_of_getElem? (i := 1327) (by decide +kernel)⟩
theorem lw_p61 : lw_okq (⟨"ProvedTableModel", "joined", "(III)I"⟩, 34) := ⟨⟨by decide +kernel, by decide +kernel⟩, List.mem_of_getElem? (i := 1107) (by decide +kernel), List.mem_of_getElem? (i := 1333) (by decide +kernel), List.mem_of_getElem? (i := 1334) (by decide +kernel)⟩
theorem lw_p62 : lw_okq (⟨"ProvedTableModel", "readSalt", "()V"⟩, 34) := ⟨⟨by decide +kernel, by decide +kernel⟩, List.mem_of_getElem? (i := 1107) (by decide +kernel), List.mem_of_getElem? (i := 1337) (by decide +kernel), List.mem_of_getElem? (i := 1338) (by decide +kernel)⟩
theorem lw_p63 : lw_okq (⟨"ProvedTableModel", "isNextIn", "(I)Z"⟩, 34) := ⟨⟨by decide +kernel, by decide +kernel⟩, List.mem_of_getElem? (i := 1107) (by decide +kernel), List.mem_of_getElem? (i := 1341) (by decide +kernel), List.mem_of_getElem? (i := 1342) (by decide +kernel)⟩
def lw_privs_4 : List (MethodName × Nat) := [(⟨"ProvedTableModel", "readLine", "()V"⟩, 34), (⟨"ProvedTableModel", "needs", "(Ljava/lang/String;)V"⟩, 34), (⟨"ProvedTableModel", "takes", "(Ljava/lang/String;)Z"⟩, 34), (⟨"ProvedTableModel", "is", "(Ljava/lang/String;)Z"⟩, 34), (⟨"ProvedTableModel", "errs", "(I)V"⟩, 34), (⟨"ProvedTableModel", "told", "(Ljava/lang/String;II)I"⟩, 34), (⟨"ProvedTableModel", "number", "(II)I"⟩, 34), (⟨"ProvedTableModel", "readNext", "()V"⟩, 34), (⟨"ProvedTableModel", "readClaim", "()V"⟩, 34), (⟨"ProvedTableModel", "form", "()I"⟩, 34), (⟨"ProvedTableModel", "formWord", "()I"⟩, 34), (⟨"ProvedTableModel", "freshAll", "()I"⟩, 34), (⟨"ProvedTableModel", "atomWorlds", "(I)I"⟩, 34), (⟨"ProvedTableModel", "joined", "(III)I"⟩, 34), (⟨"ProvedTableModel", "readSalt", "()V"⟩, 34), (⟨"ProvedTableModel", "isNextIn", "(I)Z"⟩, 34)]
theorem lw_r4 : ∀ q ∈ lw_privs_4, lw_okq q := List.forall_mem_cons.mpr ⟨lw_p48, List.forall_mem_cons.mpr ⟨lw_p49, List.forall_mem_cons.mpr ⟨lw_p50, List.forall_mem_cons.mpr ⟨lw_p51, List.forall_mem_cons.mpr ⟨lw_p52, List.forall_mem_cons.mpr ⟨lw_p53, List.forall_mem_cons.mpr ⟨lw_p54, List.forall_mem_cons.mpr ⟨lw_p55, List.forall_mem_cons.mpr ⟨lw_p56, List.forall_mem_cons.mpr ⟨lw_p57, List.forall_mem_cons.mpr ⟨lw_p58, List.forall_mem_cons.mpr ⟨lw_p59, List.forall_mem_cons.mpr ⟨lw_p60, List.forall_mem_cons.mpr ⟨lw_p61, List.forall_mem_cons.mpr ⟨lw_p62, List.forall_mem_cons.mpr ⟨lw_p63, fun _ h => absurd h List.not_mem_nil⟩⟩⟩⟩⟩⟩⟩⟩⟩⟩⟩⟩⟩⟩⟩⟩
theorem lw_p64 : lw_okq (⟨"ProvedTableModel", "freshClaim", "()I"⟩, 34) := ⟨⟨by decide +kernel, by decide +kernel⟩, List.mem_of_getElem? (i := 1107) (by decide +kernel), List.mem_of_getElem? (i := 1345) (by decide +kernel), List.mem_of_getElem? (i := 1346) (by decide +kernel)⟩
theorem lw_p65 : lw_okq (⟨"ProvedTableModel", "readStep", "()V"⟩, 34) := ⟨⟨by decide +kernel, by decide +kernel⟩, List.mem_of_getElem? (i := 1107) (by decide +kernel), List.mem_of_getElem? (i := 1349) (by decide +kernel), List.mem_of_getElem? (i := 1350) (by decide +kernel)⟩
theorem lw_p66 : lw_okq (⟨"ProvedTableModel", "readGuest", "()V"⟩, 34) := ⟨⟨by decide +kernel, by decide +kernel⟩, List.mem_of_getElem? (i := 1107) (by decide +kernel), List.mem_of_getElem? (i := 1354) (by decide +kernel), List.mem_of_getElem? (i := 1355) (by decide +kernel)⟩
theorem lw_p67 : lw_okq (⟨"ProvedTableModel", "isClaim", "(J)Z"⟩, 34) := ⟨⟨by decide +kernel, by decide +kernel⟩, List.mem_of_getElem? (i := 1107) (by decide +kernel), List.mem_of_getElem? (i := 1364) (by decide +kernel), List.mem_of_getElem? (i := 1365) (by decide +kernel)⟩
theorem lw_p68 : lw_okq (⟨"ProvedTableModel", "ofClaim", "(II)I"⟩, 34) := ⟨⟨by decide +kernel, by decide +kernel⟩, List.mem_of_getElem? (i := 1107) (by decide +kernel), List.mem_of_getElem? (i := 1368) (by decide +kernel), List.mem_of_getElem? (i := 1369) (by decide +kernel)⟩
theorem lw_p69 : lw_okq (⟨"ProvedTableModel", "isStep", "(J)Z"⟩, 34) := ⟨⟨by decide +kernel, by decide +kernel⟩, List.mem_of_getElem? (i := 1107) (by decide +kernel), List.mem_of_getElem? (i := 1387) (by decide +kernel), List.mem_of_getElem? (i := 1388) (by decide +kernel)⟩
theorem lw_p70 : lw_okq (⟨"ProvedTableModel", "ofStep", "(II)I"⟩, 34) := ⟨⟨by decide +kernel, by decide +kernel⟩, List.mem_of_getElem? (i := 1107) (by decide +kernel), List.mem_of_getElem? (i := 1391) (by decide +kernel), List.mem_of_getElem? (i := 1392) (by decide +kernel)⟩
theorem lw_p71 : lw_okq (⟨"ProvedTableModel", "falseIn", "(I)I"⟩, 34) := ⟨⟨by decide +kernel, by decide +kernel⟩, List.mem_of_getElem? (i := 1107) (by decide +kernel), List.mem_of_getElem? (i := 1395) (by decide +kernel), List.mem_of_getElem? (i := 1396) (by decide +kernel)⟩
theorem lw_p72 : lw_okq (⟨"ProvedTableModel", "saltedBy", "(I)I"⟩, 34) := ⟨⟨by decide +kernel, by decide +kernel⟩, List.mem_of_getElem? (i := 1107) (by decide +kernel), List.mem_of_getElem? (i := 1399) (by decide +kernel), List.mem_of_getElem? (i := 1400) (by decide +kernel)⟩
theorem lw_p73 : lw_okq (⟨"ProvedTableModel", "allWorlds", "()I"⟩, 34) := ⟨⟨by decide +kernel, by decide +kernel⟩, List.mem_of_getElem? (i := 1107) (by decide +kernel), List.mem_of_getElem? (i := 1403) (by decide +kernel), List.mem_of_getElem? (i := 1404) (by decide +kernel)⟩
theorem lw_p74 : lw_okq (⟨"ProvedTableModel", "worlds", "()I"⟩, 34) := ⟨⟨by decide +kernel, by decide +kernel⟩, List.mem_of_getElem? (i := 1107) (by decide +kernel), List.mem_of_getElem? (i := 1407) (by decide +kernel), List.mem_of_getElem? (i := 1408) (by decide +kernel)⟩
theorem lw_p75 : lw_okq (⟨"ProvedTableModel", "isGuest", "(J)Z"⟩, 34) := ⟨⟨by decide +kernel, by decide +kernel⟩, List.mem_of_getElem? (i := 1107) (by decide +kernel), List.mem_of_getElem? (i := 1415) (by decide +kernel), List.mem_of_getElem? (i := 1416) (by decide +kernel)⟩
theorem lw_p76 : lw_okq (⟨"ProvedTableModel", "ofGuest", "(II)I"⟩, 34) := ⟨⟨by decide +kernel, by decide +kernel⟩, List.mem_of_getElem? (i := 1107) (by decide +kernel), List.mem_of_getElem? (i := 1419) (by decide +kernel), List.mem_of_getElem? (i := 1420) (by decide +kernel)⟩
theorem lw_p77 : lw_okq (⟨"ProvedTableModel", "canDo", "(I)I"⟩, 34) := ⟨⟨by decide +kernel, by decide +kernel⟩, List.mem_of_getElem? (i := 1107) (by decide +kernel), List.mem_of_getElem? (i := 1423) (by decide +kernel), List.mem_of_getElem? (i := 1424) (by decide +kernel)⟩
theorem lw_p78 : lw_okq (⟨"ProvedTableModel", "isTable", "()Z"⟩, 34) := ⟨⟨by decide +kernel, by decide +kernel⟩, List.mem_of_getElem? (i := 1107) (by decide +kernel), List.mem_of_getElem? (i := 1431) (by decide +kernel), List.mem_of_getElem? (i := 1432) (by decide +kernel)⟩
theorem lw_p79 : lw_okq (⟨"ProvedTableModel", "saltedNow", "()I"⟩, 34) := ⟨⟨by decide +kernel, by decide +kernel⟩, List.mem_of_getElem? (i := 1107) (by decide +kernel), List.mem_of_getElem? (i := 1435) (by decide +kernel), List.mem_of_getElem? (i := 1436) (by decide +kernel)⟩
def lw_privs_5 : List (MethodName × Nat) := [(⟨"ProvedTableModel", "freshClaim", "()I"⟩, 34), (⟨"ProvedTableModel", "readStep", "()V"⟩, 34), (⟨"ProvedTableModel", "readGuest", "()V"⟩, 34), (⟨"ProvedTableModel", "isClaim", "(J)Z"⟩, 34), (⟨"ProvedTableModel", "ofClaim", "(II)I"⟩, 34), (⟨"ProvedTableModel", "isStep", "(J)Z"⟩, 34), (⟨"ProvedTableModel", "ofStep", "(II)I"⟩, 34), (⟨"ProvedTableModel", "falseIn", "(I)I"⟩, 34), (⟨"ProvedTableModel", "saltedBy", "(I)I"⟩, 34), (⟨"ProvedTableModel", "allWorlds", "()I"⟩, 34), (⟨"ProvedTableModel", "worlds", "()I"⟩, 34), (⟨"ProvedTableModel", "isGuest", "(J)Z"⟩, 34), (⟨"ProvedTableModel", "ofGuest", "(II)I"⟩, 34), (⟨"ProvedTableModel", "canDo", "(I)I"⟩, 34), (⟨"ProvedTableModel", "isTable", "()Z"⟩, 34), (⟨"ProvedTableModel", "saltedNow", "()I"⟩, 34)]
theorem lw_r5 : ∀ q ∈ lw_privs_5, lw_okq q := List.forall_mem_cons.mpr ⟨lw_p64, List.forall_mem_cons.mpr ⟨lw_p65, List.forall_mem_cons.mpr ⟨lw_p66, List.forall_mem_cons.mpr ⟨lw_p67, List.forall_mem_cons.mpr ⟨lw_p68, List.forall_mem_cons.mpr ⟨lw_p69, List.forall_mem_cons.mpr ⟨lw_p70, List.forall_mem_cons.mpr ⟨lw_p71, List.forall_mem_cons.mpr ⟨lw_p72, List.forall_mem_cons.mpr ⟨lw_p73, List.forall_mem_cons.mpr ⟨lw_p74, List.forall_mem_cons.mpr ⟨lw_p75, List.forall_mem_cons.mpr ⟨lw_p76, List.forall_mem_cons.mpr ⟨lw_p77, List.forall_mem_cons.mpr ⟨lw_p78, List.forall_mem_cons.mpr ⟨lw_p79, fun _ h => absurd h List.not_mem_nil⟩⟩⟩⟩⟩⟩⟩⟩⟩⟩⟩⟩⟩⟩⟩⟩
theorem lw_p80 : lw_okq (⟨"ProvedTableModel", "saltNow", "()I"⟩, 34) := ⟨⟨by decide +kernel, by decide +kernel⟩, List.mem_of_getElem? (i := 1107) (by decide +kernel), List.mem_of_getElem? (i := 1439) (by decide +kernel), List.mem_of_getElem? (i := 1440) (by decide +kernel)⟩
theorem lw_p81 : lw_okq (⟨"ProvedTableModel", "isFollowing", "(I)Z"⟩, 34) := ⟨⟨by decide +kernel, by decide +kernel⟩, List.mem_of_getElem? (i := 1107) (by decide +kernel), List.mem_of_getElem? (i := 1447) (by decide +kernel), List.mem_of_getElem? (i := 1448) (by decide +kernel)⟩
theorem lw_p82 : lw_okq (⟨"ProvedTableModel", "provedNow", "()I"⟩, 34) := ⟨⟨by decide +kernel, by decide +kernel⟩, List.mem_of_getElem? (i := 1107) (by decide +kernel), List.mem_of_getElem? (i := 1474) (by decide +kernel), List.mem_of_getElem? (i := 1475) (by decide +kernel)⟩
theorem lw_p83 : lw_okq (⟨"ProvedTableModel", "allSteps", "()I"⟩, 34) := ⟨⟨by decide +kernel, by decide +kernel⟩, List.mem_of_getElem? (i := 1107) (by decide +kernel), List.mem_of_getElem? (i := 1478) (by decide +kernel), List.mem_of_getElem? (i := 1479) (by decide +kernel)⟩
theorem lw_p84 : lw_okq (⟨"ProvedTableModel", "provedBy", "(II)I"⟩, 34) := ⟨⟨by decide +kernel, by decide +kernel⟩, List.mem_of_getElem? (i := 1107) (by decide +kernel), List.mem_of_getElem? (i := 1482) (by decide +kernel), List.mem_of_getElem? (i := 1483) (by decide +kernel)⟩
theorem lw_p85 : lw_okq (⟨"ProvedTableModel", "goes", "(II)Z"⟩, 34) := ⟨⟨by decide +kernel, by decide +kernel⟩, List.mem_of_getElem? (i := 1107) (by decide +kernel), List.mem_of_getElem? (i := 1486) (by decide +kernel), List.mem_of_getElem? (i := 1487) (by decide +kernel)⟩
theorem lw_p86 : lw_okq (⟨"ProvedTableModel", "following", "()I"⟩, 34) := ⟨⟨by decide +kernel, by decide +kernel⟩, List.mem_of_getElem? (i := 1107) (by decide +kernel), List.mem_of_getElem? (i := 1494) (by decide +kernel), List.mem_of_getElem? (i := 1495) (by decide +kernel)⟩
theorem lw_p87 : lw_okq (⟨"ProvedTableModel", "asksRow", "(IZ)I"⟩, 34) := ⟨⟨by decide +kernel, by decide +kernel⟩, List.mem_of_getElem? (i := 1107) (by decide +kernel), List.mem_of_getElem? (i := 1506) (by decide +kernel), List.mem_of_getElem? (i := 1507) (by decide +kernel)⟩
theorem lw_p88 : lw_okq (⟨"ProvedTableModel", "numberAt", "(II)J"⟩, 34) := ⟨⟨by decide +kernel, by decide +kernel⟩, List.mem_of_getElem? (i := 1107) (by decide +kernel), List.mem_of_getElem? (i := 1514) (by decide +kernel), List.mem_of_getElem? (i := 1515) (by decide +kernel)⟩
theorem lw_p89 : lw_okq (⟨"ProvedTableModel", "readRow", "(I)V"⟩, 34) := ⟨⟨by decide +kernel, by decide +kernel⟩, List.mem_of_getElem? (i := 1107) (by decide +kernel), List.mem_of_getElem? (i := 1518) (by decide +kernel), List.mem_of_getElem? (i := 1519) (by decide +kernel)⟩
theorem lw_p90 : lw_okq (⟨"ProvedTableModel", "usedBy", "(II)I"⟩, 34) := ⟨⟨by decide +kernel, by decide +kernel⟩, List.mem_of_getElem? (i := 1107) (by decide +kernel), List.mem_of_getElem? (i := 1538) (by decide +kernel), List.mem_of_getElem? (i := 1539) (by decide +kernel)⟩
theorem lw_p91 : lw_okq (⟨"ProvedTableModel", "proofOf", "(I)I"⟩, 34) := ⟨⟨by decide +kernel, by decide +kernel⟩, List.mem_of_getElem? (i := 1107) (by decide +kernel), List.mem_of_getElem? (i := 1550) (by decide +kernel), List.mem_of_getElem? (i := 1551) (by decide +kernel)⟩
theorem lw_p92 : lw_okq (⟨"ProvedTableModel", "fewestSteps", "(III)I"⟩, 34) := ⟨⟨by decide +kernel, by decide +kernel⟩, List.mem_of_getElem? (i := 1107) (by decide +kernel), List.mem_of_getElem? (i := 1554) (by decide +kernel), List.mem_of_getElem? (i := 1555) (by decide +kernel)⟩
theorem lw_p93 : lw_okq (⟨"ProvedTableModel", "isLeastProof", "(II)Z"⟩, 34) := ⟨⟨by decide +kernel, by decide +kernel⟩, List.mem_of_getElem? (i := 1107) (by decide +kernel), List.mem_of_getElem? (i := 1570) (by decide +kernel), List.mem_of_getElem? (i := 1571) (by decide +kernel)⟩
theorem lw_p94 : lw_okq (⟨"ProvedTableModel", "isProvedBy", "(II)Z"⟩, 34) := ⟨⟨by decide +kernel, by decide +kernel⟩, List.mem_of_getElem? (i := 1107) (by decide +kernel), List.mem_of_getElem? (i := 1574) (by decide +kernel), List.mem_of_getElem? (i := 1575) (by decide +kernel)⟩
theorem lw_p95 : lw_okq (⟨"ProvedTableModel", "menuOf", "(I)I"⟩, 34) := ⟨⟨by decide +kernel, by decide +kernel⟩, List.mem_of_getElem? (i := 1107) (by decide +kernel), List.mem_of_getElem? (i := 1590) (by decide +kernel), List.mem_of_getElem? (i := 1591) (by decide +kernel)⟩
def lw_privs_6 : List (MethodName × Nat) := [(⟨"ProvedTableModel", "saltNow", "()I"⟩, 34), (⟨"ProvedTableModel", "isFollowing", "(I)Z"⟩, 34), (⟨"ProvedTableModel", "provedNow", "()I"⟩, 34), (⟨"ProvedTableModel", "allSteps", "()I"⟩, 34), (⟨"ProvedTableModel", "provedBy", "(II)I"⟩, 34), (⟨"ProvedTableModel", "goes", "(II)Z"⟩, 34), (⟨"ProvedTableModel", "following", "()I"⟩, 34), (⟨"ProvedTableModel", "asksRow", "(IZ)I"⟩, 34), (⟨"ProvedTableModel", "numberAt", "(II)J"⟩, 34), (⟨"ProvedTableModel", "readRow", "(I)V"⟩, 34), (⟨"ProvedTableModel", "usedBy", "(II)I"⟩, 34), (⟨"ProvedTableModel", "proofOf", "(I)I"⟩, 34), (⟨"ProvedTableModel", "fewestSteps", "(III)I"⟩, 34), (⟨"ProvedTableModel", "isLeastProof", "(II)Z"⟩, 34), (⟨"ProvedTableModel", "isProvedBy", "(II)Z"⟩, 34), (⟨"ProvedTableModel", "menuOf", "(I)I"⟩, 34)]
theorem lw_r6 : ∀ q ∈ lw_privs_6, lw_okq q := List.forall_mem_cons.mpr ⟨lw_p80, List.forall_mem_cons.mpr ⟨lw_p81, List.forall_mem_cons.mpr ⟨lw_p82, List.forall_mem_cons.mpr ⟨lw_p83, List.forall_mem_cons.mpr ⟨lw_p84, List.forall_mem_cons.mpr ⟨lw_p85, List.forall_mem_cons.mpr ⟨lw_p86, List.forall_mem_cons.mpr ⟨lw_p87, List.forall_mem_cons.mpr ⟨lw_p88, List.forall_mem_cons.mpr ⟨lw_p89, List.forall_mem_cons.mpr ⟨lw_p90, List.forall_mem_cons.mpr ⟨lw_p91, List.forall_mem_cons.mpr ⟨lw_p92, List.forall_mem_cons.mpr ⟨lw_p93, List.forall_mem_cons.mpr ⟨lw_p94, List.forall_mem_cons.mpr ⟨lw_p95, fun _ h => absurd h List.not_mem_nil⟩⟩⟩⟩⟩⟩⟩⟩⟩⟩⟩⟩⟩⟩⟩⟩
theorem lw_p96 : lw_okq (⟨"ProvedTableModel", "mostBy", "(III)I"⟩, 34) := ⟨⟨by decide +kernel, by decide +kernel⟩, List.mem_of_getElem? (i := 1107) (by decide +kernel), List.mem_of_getElem? (i := 1594) (by decide +kernel), List.mem_of_getElem? (i := 1595) (by decide +kernel)⟩
theorem lw_p97 : lw_okq (⟨"ProvedTableModel", "worthsOf", "(I)I"⟩, 34) := ⟨⟨by decide +kernel, by decide +kernel⟩, List.mem_of_getElem? (i := 1107) (by decide +kernel), List.mem_of_getElem? (i := 1598) (by decide +kernel), List.mem_of_getElem? (i := 1599) (by decide +kernel)⟩
theorem lw_p98 : lw_okq (⟨"ProvedTableModel", "areClaims", "(I)Z"⟩, 34) := ⟨⟨by decide +kernel, by decide +kernel⟩, List.mem_of_getElem? (i := 1107) (by decide +kernel), List.mem_of_getElem? (i := 1614) (by decide +kernel), List.mem_of_getElem? (i := 1615) (by decide +kernel)⟩
theorem lw_p99 : lw_okq (⟨"ProvedTableModel", "allClaims", "()I"⟩, 34) := ⟨⟨by decide +kernel, by decide +kernel⟩, List.mem_of_getElem? (i := 1107) (by decide +kernel), List.mem_of_getElem? (i := 1618) (by decide +kernel), List.mem_of_getElem? (i := 1619) (by decide +kernel)⟩
theorem lw_p100 : lw_okq (⟨"ProvedTableModel", "whoOf", "(I)I"⟩, 34) := ⟨⟨by decide +kernel, by decide +kernel⟩, List.mem_of_getElem? (i := 1107) (by decide +kernel), List.mem_of_getElem? (i := 1626) (by decide +kernel), List.mem_of_getElem? (i := 1627) (by decide +kernel)⟩
theorem lw_p101 : lw_okq (⟨"ProvedTableModel", "canProve", "(II)Z"⟩, 34) := ⟨⟨by decide +kernel, by decide +kernel⟩, List.mem_of_getElem? (i := 1107) (by decide +kernel), List.mem_of_getElem? (i := 1630) (by decide +kernel), List.mem_of_getElem? (i := 1631) (by decide +kernel)⟩
theorem lw_p102 : lw_okq (⟨"ProvedTableModel", "areGuests", "(I)Z"⟩, 34) := ⟨⟨by decide +kernel, by decide +kernel⟩, List.mem_of_getElem? (i := 1107) (by decide +kernel), List.mem_of_getElem? (i := 1638) (by decide +kernel), List.mem_of_getElem? (i := 1639) (by decide +kernel)⟩
theorem lw_p103 : lw_okq (⟨"ProvedTableModel", "allGuests", "()I"⟩, 34) := ⟨⟨by decide +kernel, by decide +kernel⟩, List.mem_of_getElem? (i := 1107) (by decide +kernel), List.mem_of_getElem? (i := 1642) (by decide +kernel), List.mem_of_getElem? (i := 1643) (by decide +kernel)⟩
theorem lw_p104 : lw_okq (⟨"ProvedTableModel", "lemmaOf", "(I)I"⟩, 34) := ⟨⟨by decide +kernel, by decide +kernel⟩, List.mem_of_getElem? (i := 1107) (by decide +kernel), List.mem_of_getElem? (i := 1650) (by decide +kernel), List.mem_of_getElem? (i := 1651) (by decide +kernel)⟩
theorem lw_p105 : lw_okq (⟨"ProvedTableModel", "strengthOf", "(I)I"⟩, 34) := ⟨⟨by decide +kernel, by decide +kernel⟩, List.mem_of_getElem? (i := 1107) (by decide +kernel), List.mem_of_getElem? (i := 1662) (by decide +kernel), List.mem_of_getElem? (i := 1663) (by decide +kernel)⟩
theorem lw_p106 : lw_okq (⟨"ProvedTableModel", "canTogether", "(II)Z"⟩, 34) := ⟨⟨by decide +kernel, by decide +kernel⟩, List.mem_of_getElem? (i := 1107) (by decide +kernel), List.mem_of_getElem? (i := 1670) (by decide +kernel), List.mem_of_getElem? (i := 1671) (by decide +kernel)⟩
theorem lw_p107 : lw_okq (⟨"ProvedTableModel", "teamOf", "(I)I"⟩, 34) := ⟨⟨by decide +kernel, by decide +kernel⟩, List.mem_of_getElem? (i := 1107) (by decide +kernel), List.mem_of_getElem? (i := 1678) (by decide +kernel), List.mem_of_getElem? (i := 1679) (by decide +kernel)⟩
theorem lw_p108 : lw_okq (⟨"ProvedTableModel", "fillDoubt", "(II)V"⟩, 34) := ⟨⟨by decide +kernel, by decide +kernel⟩, List.mem_of_getElem? (i := 1107) (by decide +kernel), List.mem_of_getElem? (i := 1690) (by decide +kernel), List.mem_of_getElem? (i := 1691) (by decide +kernel)⟩
theorem lw_p109 : lw_okq (⟨"ProvedTableModel", "asksKitchen", "(IZ)I"⟩, 34) := ⟨⟨by decide +kernel, by decide +kernel⟩, List.mem_of_getElem? (i := 1107) (by decide +kernel), List.mem_of_getElem? (i := 1702) (by decide +kernel), List.mem_of_getElem? (i := 1703) (by decide +kernel)⟩
theorem lw_p110 : lw_okq (⟨"ProvedTableModel", "goKitchen", "(I)V"⟩, 34) := ⟨⟨by decide +kernel, by decide +kernel⟩, List.mem_of_getElem? (i := 1107) (by decide +kernel), List.mem_of_getElem? (i := 1706) (by decide +kernel), List.mem_of_getElem? (i := 1707) (by decide +kernel)⟩
theorem lw_p111 : lw_okq (⟨"ProvedTableModel", "cooks", "(II)Z"⟩, 34) := ⟨⟨by decide +kernel, by decide +kernel⟩, List.mem_of_getElem? (i := 1107) (by decide +kernel), List.mem_of_getElem? (i := 1710) (by decide +kernel), List.mem_of_getElem? (i := 1711) (by decide +kernel)⟩
def lw_privs_7 : List (MethodName × Nat) := [(⟨"ProvedTableModel", "mostBy", "(III)I"⟩, 34), (⟨"ProvedTableModel", "worthsOf", "(I)I"⟩, 34), (⟨"ProvedTableModel", "areClaims", "(I)Z"⟩, 34), (⟨"ProvedTableModel", "allClaims", "()I"⟩, 34), (⟨"ProvedTableModel", "whoOf", "(I)I"⟩, 34), (⟨"ProvedTableModel", "canProve", "(II)Z"⟩, 34), (⟨"ProvedTableModel", "areGuests", "(I)Z"⟩, 34), (⟨"ProvedTableModel", "allGuests", "()I"⟩, 34), (⟨"ProvedTableModel", "lemmaOf", "(I)I"⟩, 34), (⟨"ProvedTableModel", "strengthOf", "(I)I"⟩, 34), (⟨"ProvedTableModel", "canTogether", "(II)Z"⟩, 34), (⟨"ProvedTableModel", "teamOf", "(I)I"⟩, 34), (⟨"ProvedTableModel", "fillDoubt", "(II)V"⟩, 34), (⟨"ProvedTableModel", "asksKitchen", "(IZ)I"⟩, 34), (⟨"ProvedTableModel", "goKitchen", "(I)V"⟩, 34), (⟨"ProvedTableModel", "cooks", "(II)Z"⟩, 34)]
theorem lw_r7 : ∀ q ∈ lw_privs_7, lw_okq q := List.forall_mem_cons.mpr ⟨lw_p96, List.forall_mem_cons.mpr ⟨lw_p97, List.forall_mem_cons.mpr ⟨lw_p98, List.forall_mem_cons.mpr ⟨lw_p99, List.forall_mem_cons.mpr ⟨lw_p100, List.forall_mem_cons.mpr ⟨lw_p101, List.forall_mem_cons.mpr ⟨lw_p102, List.forall_mem_cons.mpr ⟨lw_p103, List.forall_mem_cons.mpr ⟨lw_p104, List.forall_mem_cons.mpr ⟨lw_p105, List.forall_mem_cons.mpr ⟨lw_p106, List.forall_mem_cons.mpr ⟨lw_p107, List.forall_mem_cons.mpr ⟨lw_p108, List.forall_mem_cons.mpr ⟨lw_p109, List.forall_mem_cons.mpr ⟨lw_p110, List.forall_mem_cons.mpr ⟨lw_p111, fun _ h => absurd h List.not_mem_nil⟩⟩⟩⟩⟩⟩⟩⟩⟩⟩⟩⟩⟩⟩⟩⟩
theorem lw_p112 : lw_okq (⟨"ProvedTableModel", "fillDuel", "()V"⟩, 34) := ⟨⟨by decide +kernel, by decide +kernel⟩, List.mem_of_getElem? (i := 1107) (by decide +kernel), List.mem_of_getElem? (i := 1731) (by decide +kernel), List.mem_of_getElem? (i := 1732) (by decide +kernel)⟩
theorem lw_p113 : lw_okq (⟨"ProvedTableModel", "coreOf", "()I"⟩, 34) := ⟨⟨by decide +kernel, by decide +kernel⟩, List.mem_of_getElem? (i := 1107) (by decide +kernel), List.mem_of_getElem? (i := 1754) (by decide +kernel), List.mem_of_getElem? (i := 1755) (by decide +kernel)⟩
theorem lw_p114 : lw_okq (⟨"ProvedTableModel", "askOf", "()I"⟩, 34) := ⟨⟨by decide +kernel, by decide +kernel⟩, List.mem_of_getElem? (i := 1107) (by decide +kernel), List.mem_of_getElem? (i := 1776) (by decide +kernel), List.mem_of_getElem? (i := 1777) (by decide +kernel)⟩
theorem lw_p115 : lw_okq (⟨"ProvedTableModel", "worstOf", "(I)I"⟩, 34) := ⟨⟨by decide +kernel, by decide +kernel⟩, List.mem_of_getElem? (i := 1107) (by decide +kernel), List.mem_of_getElem? (i := 1780) (by decide +kernel), List.mem_of_getElem? (i := 1781) (by decide +kernel)⟩
theorem lw_p116 : lw_okq (⟨"ProvedTableModel", "spareOf", "(I)I"⟩, 34) := ⟨⟨by decide +kernel, by decide +kernel⟩, List.mem_of_getElem? (i := 1107) (by decide +kernel), List.mem_of_getElem? (i := 1800) (by decide +kernel), List.mem_of_getElem? (i := 1801) (by decide +kernel)⟩
theorem lw_p117 : lw_okq (⟨"ProvedTableModel", "asksEaten", "(IZ)I"⟩, 34) := ⟨⟨by decide +kernel, by decide +kernel⟩, List.mem_of_getElem? (i := 1107) (by decide +kernel), List.mem_of_getElem? (i := 1816) (by decide +kernel), List.mem_of_getElem? (i := 1817) (by decide +kernel)⟩
theorem lw_p118 : lw_okq (⟨"ProvedTableModel", "eatenBy", "(I)I"⟩, 34) := ⟨⟨by decide +kernel, by decide +kernel⟩, List.mem_of_getElem? (i := 1107) (by decide +kernel), List.mem_of_getElem? (i := 1820) (by decide +kernel), List.mem_of_getElem? (i := 1821) (by decide +kernel)⟩
theorem lw_p119 : lw_okq (⟨"ProvedTableModel", "holesBy", "(J)I"⟩, 34) := ⟨⟨by decide +kernel, by decide +kernel⟩, List.mem_of_getElem? (i := 1107) (by decide +kernel), List.mem_of_getElem? (i := 1852) (by decide +kernel), List.mem_of_getElem? (i := 1853) (by decide +kernel)⟩
theorem lw_p120 : lw_okq (⟨"ProvedTableModel", "feastOf", "(JI)I"⟩, 34) := ⟨⟨by decide +kernel, by decide +kernel⟩, List.mem_of_getElem? (i := 1107) (by decide +kernel), List.mem_of_getElem? (i := 1865) (by decide +kernel), List.mem_of_getElem? (i := 1866) (by decide +kernel)⟩
def lw_privs_8 : List (MethodName × Nat) := [(⟨"ProvedTableModel", "fillDuel", "()V"⟩, 34), (⟨"ProvedTableModel", "coreOf", "()I"⟩, 34), (⟨"ProvedTableModel", "askOf", "()I"⟩, 34), (⟨"ProvedTableModel", "worstOf", "(I)I"⟩, 34), (⟨"ProvedTableModel", "spareOf", "(I)I"⟩, 34), (⟨"ProvedTableModel", "asksEaten", "(IZ)I"⟩, 34), (⟨"ProvedTableModel", "eatenBy", "(I)I"⟩, 34), (⟨"ProvedTableModel", "holesBy", "(J)I"⟩, 34), (⟨"ProvedTableModel", "feastOf", "(JI)I"⟩, 34)]
theorem lw_r8 : ∀ q ∈ lw_privs_8, lw_okq q := List.forall_mem_cons.mpr ⟨lw_p112, List.forall_mem_cons.mpr ⟨lw_p113, List.forall_mem_cons.mpr ⟨lw_p114, List.forall_mem_cons.mpr ⟨lw_p115, List.forall_mem_cons.mpr ⟨lw_p116, List.forall_mem_cons.mpr ⟨lw_p117, List.forall_mem_cons.mpr ⟨lw_p118, List.forall_mem_cons.mpr ⟨lw_p119, List.forall_mem_cons.mpr ⟨lw_p120, fun _ h => absurd h List.not_mem_nil⟩⟩⟩⟩⟩⟩⟩⟩⟩
def lw_privs : List (MethodName × Nat) := lw_privs_1 ++ (lw_privs_2 ++ (lw_privs_3 ++ (lw_privs_4 ++ (lw_privs_5 ++ (lw_privs_6 ++ (lw_privs_7 ++ (lw_privs_8)))))))
def lw_tbl : List Cond := k2_sels lw_privs ++ tables_1
theorem lw_privs_ok : ∀ q ∈ lw_privs, lw_okq q := by
  show ∀ q ∈ lw_privs_1 ++ (lw_privs_2 ++ (lw_privs_3 ++ (lw_privs_4 ++ (lw_privs_5 ++ (lw_privs_6 ++ (lw_privs_7 ++ (lw_privs_8))))))), lw_okq q
  exact List.forall_mem_append.mpr ⟨lw_r1, List.forall_mem_append.mpr ⟨lw_r2, List.forall_mem_append.mpr ⟨lw_r3, List.forall_mem_append.mpr ⟨lw_r4, List.forall_mem_append.mpr ⟨lw_r5, List.forall_mem_append.mpr ⟨lw_r6, List.forall_mem_append.mpr ⟨lw_r7, lw_r8⟩⟩⟩⟩⟩⟩⟩
def RX0 : String := "ProvedTable$Doubt"
def TX0 : u_T := fun k => match k with
  | _ => ("ProvedTable$Doubt", "worldFrom", "[I", true)
def tyX0 : Nat → FieldType := fun k => match k with
  | _ => .array .int
theorem nmX0 : ∀ a, a < 1 → ∀ b, b < 1 → a ≠ b → (TX0 a).2.1 ≠ (TX0 b).2.1 := by decide +kernel
theorem tyX0_ok : ∀ k, k < 1 → parseFieldDescriptor (TX0 k).2.2.1 = some (tyX0 k) := by decide +kernel
abbrev cX0_init : ByteArray := prog_2_method_1_code
def yX0_init : MethodName := ⟨RX0, "<init>", "()V"⟩
abbrev cX0_worldThatComes : ByteArray := prog_2_method_2_code
def yX0_worldThatComes : MethodName := ⟨RX0, "worldThatComes", "(LProvedTable$Table;II)I"⟩
def RX1 : String := "ProvedTable$Kitchen"
def TX1 : u_T := fun k => match k with
  | 0 => ("ProvedTable$Kitchen", "pairs", "I", false)
  | 1 => ("ProvedTable$Kitchen", "lastHour", "I", false)
  | 2 => ("ProvedTable$Kitchen", "given", "I", false)
  | 3 => ("ProvedTable$Kitchen", "hourOf", "[I", true)
  | 4 => ("ProvedTable$Kitchen", "giversOf", "[I", true)
  | 5 => ("ProvedTable$Kitchen", "throughAt", "[I", true)
  | _ => ("ProvedTable$Kitchen", "workOf", "[I", true)
def tyX1 : Nat → FieldType := fun k => match k with
  | 0 => .int
  | 1 => .int
  | 2 => .int
  | 3 => .array .int
  | 4 => .array .int
  | 5 => .array .int
  | _ => .array .int
theorem nmX1 : ∀ a, a < 7 → ∀ b, b < 7 → a ≠ b → (TX1 a).2.1 ≠ (TX1 b).2.1 := by decide +kernel
theorem tyX1_ok : ∀ k, k < 7 → parseFieldDescriptor (TX1 k).2.2.1 = some (tyX1 k) := by decide +kernel
abbrev cX1_init : ByteArray := prog_3_method_1_code
def yX1_init : MethodName := ⟨RX1, "<init>", "()V"⟩
abbrev cX1_cook : ByteArray := prog_3_method_2_code
def yX1_cook : MethodName := ⟨RX1, "cook", "(LProvedTable$Table;LProvedTable$Row;)V"⟩
abbrev cX1_open : ByteArray := prog_3_method_3_code
def yX1_open : MethodName := ⟨RX1, "open", "(LProvedTable$Table;)V"⟩
abbrev cX1_cookPair : ByteArray := prog_3_method_4_code
def yX1_cookPair : MethodName := ⟨RX1, "cookPair", "(LProvedTable$Table;II)Z"⟩
abbrev cX1_hourOfAll : ByteArray := prog_3_method_5_code
def yX1_hourOfAll : MethodName := ⟨RX1, "hourOfAll", "(LProvedTable$Table;I)I"⟩
abbrev cX1_give : ByteArray := prog_3_method_6_code
def yX1_give : MethodName := ⟨RX1, "give", "(III)V"⟩
def RX2 : String := "ProvedTable$Reader"
def TX2 : u_T := fun k => match k with
  | 0 => ("ProvedTable$Reader", "bytes", "[B", true)
  | 1 => ("ProvedTable$Reader", "length", "I", false)
  | 2 => ("ProvedTable$Reader", "fault", "I", false)
  | 3 => ("ProvedTable$Reader", "place", "I", false)
  | 4 => ("ProvedTable$Reader", "kind", "I", false)
  | 5 => ("ProvedTable$Reader", "start", "I", false)
  | 6 => ("ProvedTable$Reader", "stop", "I", false)
  | _ => ("ProvedTable$Reader", "value", "I", false)
def tyX2 : Nat → FieldType := fun k => match k with
  | 0 => .array .byte
  | 1 => .int
  | 2 => .int
  | 3 => .int
  | 4 => .int
  | 5 => .int
  | 6 => .int
  | _ => .int
theorem nmX2 : ∀ a, a < 8 → ∀ b, b < 8 → a ≠ b → (TX2 a).2.1 ≠ (TX2 b).2.1 := by decide +kernel
theorem tyX2_ok : ∀ k, k < 8 → parseFieldDescriptor (TX2 k).2.2.1 = some (tyX2 k) := by decide +kernel
abbrev cX2_init : ByteArray := prog_4_method_1_code
def yX2_init : MethodName := ⟨RX2, "<init>", "()V"⟩
abbrev cX2_append : ByteArray := prog_4_method_2_code
def yX2_append : MethodName := ⟨RX2, "append", "(I)V"⟩
abbrev cX2_readTable : ByteArray := prog_4_method_3_code
def yX2_readTable : MethodName := ⟨RX2, "readTable", "(LProvedTable$Table;)Z"⟩
abbrev cX2_readLine : ByteArray := prog_4_method_4_code
def yX2_readLine : MethodName := ⟨RX2, "readLine", "(LProvedTable$Table;)Z"⟩
abbrev cX2_readHead : ByteArray := prog_4_method_5_code
def yX2_readHead : MethodName := ⟨RX2, "readHead", "(LProvedTable$Table;)Z"⟩
abbrev cX2_readClaim : ByteArray := prog_4_method_6_code
def yX2_readClaim : MethodName := ⟨RX2, "readClaim", "(LProvedTable$Table;)Z"⟩
abbrev cX2_readSalt : ByteArray := prog_4_method_7_code
def yX2_readSalt : MethodName := ⟨RX2, "readSalt", "(LProvedTable$Table;)Z"⟩
abbrev cX2_readStep : ByteArray := prog_4_method_8_code
def yX2_readStep : MethodName := ⟨RX2, "readStep", "(LProvedTable$Table;)Z"⟩
abbrev cX2_readGuest : ByteArray := prog_4_method_9_code
def yX2_readGuest : MethodName := ⟨RX2, "readGuest", "(LProvedTable$Table;)Z"⟩
abbrev cX2_readSet : ByteArray := prog_4_method_10_code
def yX2_readSet : MethodName := ⟨RX2, "readSet", "(II)I"⟩
abbrev cX2_readForm : ByteArray := prog_4_method_11_code
def yX2_readForm : MethodName := ⟨RX2, "readForm", "(LProvedTable$Table;I)I"⟩
abbrev cX2_readParts : ByteArray := prog_4_method_12_code
def yX2_readParts : MethodName := ⟨RX2, "readParts", "(LProvedTable$Table;II)I"⟩
abbrev cX2_worldsOfLeaf : ByteArray := prog_4_method_13_code
def yX2_worldsOfLeaf : MethodName := ⟨RX2, "worldsOfLeaf", "(LProvedTable$Table;)I"⟩
abbrev cX2_operatorHere : ByteArray := prog_4_method_14_code
def yX2_operatorHere : MethodName := ⟨RX2, "operatorHere", "()I"⟩
abbrev cX2_readSign : ByteArray := prog_4_method_15_code
def yX2_readSign : MethodName := ⟨RX2, "readSign", "()Z"⟩
abbrev cX2_readWord : ByteArray := prog_4_method_16_code
def yX2_readWord : MethodName := ⟨RX2, "readWord", "(Ljava/lang/String;)Z"⟩
abbrev cX2_readNamed : ByteArray := prog_4_method_17_code
def yX2_readNamed : MethodName := ⟨RX2, "readNamed", "(Ljava/lang/String;II)I"⟩
abbrev cX2_readNumber : ByteArray := prog_4_method_18_code
def yX2_readNumber : MethodName := ⟨RX2, "readNumber", "(II)I"⟩
abbrev cX2_isNumberOf : ByteArray := prog_4_method_19_code
def yX2_isNumberOf : MethodName := ⟨RX2, "isNumberOf", "(I)Z"⟩
abbrev cX2_isWord : ByteArray := prog_4_method_20_code
def yX2_isWord : MethodName := ⟨RX2, "isWord", "(Ljava/lang/String;)Z"⟩
abbrev cX2_fail : ByteArray := prog_4_method_21_code
def yX2_fail : MethodName := ⟨RX2, "fail", "(I)Z"⟩
abbrev cX2_advance : ByteArray := prog_4_method_22_code
def yX2_advance : MethodName := ⟨RX2, "advance", "()V"⟩
abbrev cX2_kindAt : ByteArray := prog_4_method_23_code
def yX2_kindAt : MethodName := ⟨RX2, "kindAt", "(I)I"⟩
def RX3 : String := "ProvedTable$Reading"
def TX3 : u_T := fun k => match k with
  | 0 => ("ProvedTable$Reading", "going", "I", false)
  | 1 => ("ProvedTable$Reading", "reason", "I", false)
  | 2 => ("ProvedTable$Reading", "proved", "I", false)
  | _ => ("ProvedTable$Reading", "usedFor", "[I", true)
def tyX3 : Nat → FieldType := fun k => match k with
  | 0 => .int
  | 1 => .int
  | 2 => .int
  | _ => .array .int
theorem nmX3 : ∀ a, a < 4 → ∀ b, b < 4 → a ≠ b → (TX3 a).2.1 ≠ (TX3 b).2.1 := by decide +kernel
theorem tyX3_ok : ∀ k, k < 4 → parseFieldDescriptor (TX3 k).2.2.1 = some (tyX3 k) := by decide +kernel
abbrev cX3_init : ByteArray := prog_5_method_1_code
def yX3_init : MethodName := ⟨RX3, "<init>", "()V"⟩
abbrev cX3_read : ByteArray := prog_5_method_2_code
def yX3_read : MethodName := ⟨RX3, "read", "(LProvedTable$Table;LProvedTable$Row;)V"⟩
abbrev cX3_reasonAgainst : ByteArray := prog_5_method_3_code
def yX3_reasonAgainst : MethodName := ⟨RX3, "reasonAgainst", "(LProvedTable$Table;I)I"⟩
abbrev cX3_usedForAll : ByteArray := prog_5_method_4_code
def yX3_usedForAll : MethodName := ⟨RX3, "usedForAll", "(LProvedTable$Table;I)I"⟩
abbrev cX3_worthEaten : ByteArray := prog_5_method_5_code
def yX3_worthEaten : MethodName := ⟨RX3, "worthEaten", "(LProvedTable$Table;LProvedTable$Row;I)I"⟩
def RX4 : String := "ProvedTable$Row"
def TX4 : u_T := fun k => match k with
  | 0 => ("ProvedTable$Row", "isThere", "Z", false)
  | 1 => ("ProvedTable$Row", "width", "I", false)
  | 2 => ("ProvedTable$Row", "n", "I", false)
  | _ => ("ProvedTable$Row", "numbers", "[J", true)
def tyX4 : Nat → FieldType := fun k => match k with
  | 0 => .boolean
  | 1 => .int
  | 2 => .int
  | _ => .array .long
theorem nmX4 : ∀ a, a < 4 → ∀ b, b < 4 → a ≠ b → (TX4 a).2.1 ≠ (TX4 b).2.1 := by decide +kernel
theorem tyX4_ok : ∀ k, k < 4 → parseFieldDescriptor (TX4 k).2.2.1 = some (tyX4 k) := by decide +kernel
abbrev cX4_init : ByteArray := prog_6_method_1_code
def yX4_init : MethodName := ⟨RX4, "<init>", "()V"⟩
abbrev cX4_begin : ByteArray := prog_6_method_2_code
def yX4_begin : MethodName := ⟨RX4, "begin", "(II)V"⟩
abbrev cX4_cut : ByteArray := prog_6_method_3_code
def yX4_cut : MethodName := ⟨RX4, "cut", "(J)J"⟩
abbrev cX4_areAllBelow : ByteArray := prog_6_method_4_code
def yX4_areAllBelow : MethodName := ⟨RX4, "areAllBelow", "(I)Z"⟩
abbrev cX4_arePairsBelow : ByteArray := prog_6_method_5_code
def yX4_arePairsBelow : MethodName := ⟨RX4, "arePairsBelow", "(II)Z"⟩
abbrev cX4_asSet : ByteArray := prog_6_method_6_code
def yX4_asSet : MethodName := ⟨RX4, "asSet", "()I"⟩
def RX5 : String := "ProvedTable$Sheet"
def TX5 : u_T := fun k => match k with
  | _ => ("ProvedTable$Sheet", "at", "[I", true)
def tyX5 : Nat → FieldType := fun k => match k with
  | _ => .array .int
theorem nmX5 : ∀ a, a < 1 → ∀ b, b < 1 → a ≠ b → (TX5 a).2.1 ≠ (TX5 b).2.1 := by decide +kernel
theorem tyX5_ok : ∀ k, k < 1 → parseFieldDescriptor (TX5 k).2.2.1 = some (tyX5 k) := by decide +kernel
abbrev cX5_init : ByteArray := prog_7_method_1_code
def yX5_init : MethodName := ⟨RX5, "<init>", "()V"⟩
abbrev cX5_subsetsOf : ByteArray := prog_7_method_2_code
def yX5_subsetsOf : MethodName := ⟨RX5, "subsetsOf", "(I)I"⟩
abbrev cX5_subsetBehind : ByteArray := prog_7_method_3_code
def yX5_subsetBehind : MethodName := ⟨RX5, "subsetBehind", "(II)I"⟩
abbrev cX5_withoutLowest : ByteArray := prog_7_method_4_code
def yX5_withoutLowest : MethodName := ⟨RX5, "withoutLowest", "(I)I"⟩
abbrev cX5_fillWithProofs : ByteArray := prog_7_method_5_code
def yX5_fillWithProofs : MethodName := ⟨RX5, "fillWithProofs", "(LProvedTable$Table;II)V"⟩
abbrev cX5_fillWithSaltProofs : ByteArray := prog_7_method_6_code
def yX5_fillWithSaltProofs : MethodName := ⟨RX5, "fillWithSaltProofs", "(LProvedTable$Table;)V"⟩
abbrev cX5_fillWithRuledOut : ByteArray := prog_7_method_7_code
def yX5_fillWithRuledOut : MethodName := ⟨RX5, "fillWithRuledOut", "(LProvedTable$Table;)V"⟩
abbrev cX5_leastSet : ByteArray := prog_7_method_8_code
def yX5_leastSet : MethodName := ⟨RX5, "leastSet", "(II)I"⟩
abbrev cX5_countLeast : ByteArray := prog_7_method_9_code
def yX5_countLeast : MethodName := ⟨RX5, "countLeast", "(II)I"⟩
abbrev cX5_isLeast : ByteArray := prog_7_method_10_code
def yX5_isLeast : MethodName := ⟨RX5, "isLeast", "(II)Z"⟩
abbrev cX5_menuSet : ByteArray := prog_7_method_11_code
def yX5_menuSet : MethodName := ⟨RX5, "menuSet", "(LProvedTable$Table;II)I"⟩
def RX6 : String := "ProvedTable$Table"
def TX6 : u_T := fun k => match k with
  | 0 => ("ProvedTable$Table", "lines", "I", false)
  | 1 => ("ProvedTable$Table", "atoms", "I", false)
  | 2 => ("ProvedTable$Table", "hours", "I", false)
  | 3 => ("ProvedTable$Table", "holes", "I", false)
  | 4 => ("ProvedTable$Table", "claims", "I", false)
  | 5 => ("ProvedTable$Table", "steps", "I", false)
  | 6 => ("ProvedTable$Table", "guests", "I", false)
  | 7 => ("ProvedTable$Table", "salt", "I", false)
  | 8 => ("ProvedTable$Table", "worth", "[I", true)
  | 9 => ("ProvedTable$Table", "holds", "[I", true)
  | 10 => ("ProvedTable$Table", "gives", "[I", true)
  | 11 => ("ProvedTable$Table", "premises", "[I", true)
  | 12 => ("ProvedTable$Table", "speed", "[I", true)
  | _ => ("ProvedTable$Table", "knows", "[I", true)
def tyX6 : Nat → FieldType := fun k => match k with
  | 0 => .int
  | 1 => .int
  | 2 => .int
  | 3 => .int
  | 4 => .int
  | 5 => .int
  | 6 => .int
  | 7 => .int
  | 8 => .array .int
  | 9 => .array .int
  | 10 => .array .int
  | 11 => .array .int
  | 12 => .array .int
  | _ => .array .int
theorem nmX6 : ∀ a, a < 14 → ∀ b, b < 14 → a ≠ b → (TX6 a).2.1 ≠ (TX6 b).2.1 := by decide +kernel
theorem tyX6_ok : ∀ k, k < 14 → parseFieldDescriptor (TX6 k).2.2.1 = some (tyX6 k) := by decide +kernel
abbrev cX6_init : ByteArray := prog_8_method_1_code
def yX6_init : MethodName := ⟨RX6, "<init>", "()V"⟩
abbrev cX6_clear : ByteArray := prog_8_method_2_code
def yX6_clear : MethodName := ⟨RX6, "clear", "()V"⟩
abbrev cX6_copyFrom : ByteArray := prog_8_method_3_code
def yX6_copyFrom : MethodName := ⟨RX6, "copyFrom", "(LProvedTable$Table;)V"⟩
abbrev cX6_isTold : ByteArray := prog_8_method_4_code
def yX6_isTold : MethodName := ⟨RX6, "isTold", "()Z"⟩
abbrev cX6_hasClaim : ByteArray := prog_8_method_5_code
def yX6_hasClaim : MethodName := ⟨RX6, "hasClaim", "(I)Z"⟩
abbrev cX6_hasStep : ByteArray := prog_8_method_6_code
def yX6_hasStep : MethodName := ⟨RX6, "hasStep", "(I)Z"⟩
abbrev cX6_hasGuest : ByteArray := prog_8_method_7_code
def yX6_hasGuest : MethodName := ⟨RX6, "hasGuest", "(I)Z"⟩
abbrev cX6_isClaimSet : ByteArray := prog_8_method_8_code
def yX6_isClaimSet : MethodName := ⟨RX6, "isClaimSet", "(I)Z"⟩
abbrev cX6_isGuestSet : ByteArray := prog_8_method_9_code
def yX6_isGuestSet : MethodName := ⟨RX6, "isGuestSet", "(I)Z"⟩
abbrev cX6_allSteps : ByteArray := prog_8_method_10_code
def yX6_allSteps : MethodName := ⟨RX6, "allSteps", "()I"⟩
abbrev cX6_allWorlds : ByteArray := prog_8_method_11_code
def yX6_allWorlds : MethodName := ⟨RX6, "allWorlds", "()I"⟩
abbrev cX6_worldsOfAtom : ByteArray := prog_8_method_12_code
def yX6_worldsOfAtom : MethodName := ⟨RX6, "worldsOfAtom", "(I)I"⟩
abbrev cX6_worldsOf : ByteArray := prog_8_method_13_code
def yX6_worldsOf : MethodName := ⟨RX6, "worldsOf", "(I)I"⟩
abbrev cX6_followsFrom : ByteArray := prog_8_method_14_code
def yX6_followsFrom : MethodName := ⟨RX6, "followsFrom", "(II)Z"⟩
abbrev cX6_following : ByteArray := prog_8_method_15_code
def yX6_following : MethodName := ⟨RX6, "following", "()I"⟩
abbrev cX6_claimsHoldingIn : ByteArray := prog_8_method_16_code
def yX6_claimsHoldingIn : MethodName := ⟨RX6, "claimsHoldingIn", "(I)I"⟩
abbrev cX6_falseWorlds : ByteArray := prog_8_method_17_code
def yX6_falseWorlds : MethodName := ⟨RX6, "falseWorlds", "(I)I"⟩
abbrev cX6_leftAtWorst : ByteArray := prog_8_method_18_code
def yX6_leftAtWorst : MethodName := ⟨RX6, "leftAtWorst", "(I)I"⟩
abbrev cX6_goes : ByteArray := prog_8_method_19_code
def yX6_goes : MethodName := ⟨RX6, "goes", "(II)Z"⟩
abbrev cX6_firstGoing : ByteArray := prog_8_method_20_code
def yX6_firstGoing : MethodName := ⟨RX6, "firstGoing", "(II)I"⟩
abbrev cX6_spread : ByteArray := prog_8_method_21_code
def yX6_spread : MethodName := ⟨RX6, "spread", "(II)I"⟩
abbrev cX6_worthOf : ByteArray := prog_8_method_22_code
def yX6_worthOf : MethodName := ⟨RX6, "worthOf", "(I)I"⟩
abbrev cX6_canDo : ByteArray := prog_8_method_23_code
def yX6_canDo : MethodName := ⟨RX6, "canDo", "(I)I"⟩
abbrev cX6_teamCanDo : ByteArray := prog_8_method_24_code
def yX6_teamCanDo : MethodName := ⟨RX6, "teamCanDo", "(I)I"⟩
abbrev cX6_teamKnows : ByteArray := prog_8_method_25_code
def yX6_teamKnows : MethodName := ⟨RX6, "teamKnows", "(I)I"⟩
abbrev cX6_addStep : ByteArray := prog_8_method_26_code
def yX6_addStep : MethodName := ⟨RX6, "addStep", "(II)V"⟩
abbrev cX6_dropStep : ByteArray := prog_8_method_27_code
def yX6_dropStep : MethodName := ⟨RX6, "dropStep", "()V"⟩
abbrev cX6_holedSteps : ByteArray := prog_8_method_28_code
def yX6_holedSteps : MethodName := ⟨RX6, "holedSteps", "(I)I"⟩
def RX7 : String := "ProvedTable"
def TX7 : u_T := fun k => match k with
  | 0 => ("ProvedTable", "reader", "LProvedTable$Reader;", true)
  | 1 => ("ProvedTable", "table", "LProvedTable$Table;", true)
  | 2 => ("ProvedTable", "draft", "LProvedTable$Table;", true)
  | 3 => ("ProvedTable", "images", "[LProvedTable$Table;", true)
  | 4 => ("ProvedTable", "isKept", "[Z", true)
  | 5 => ("ProvedTable", "rows", "[LProvedTable$Row;", true)
  | 6 => ("ProvedTable", "proofSheet", "LProvedTable$Sheet;", true)
  | 7 => ("ProvedTable", "isProofSheetStale", "Z", false)
  | 8 => ("ProvedTable", "scratch", "LProvedTable$Sheet;", true)
  | 9 => ("ProvedTable", "reading", "LProvedTable$Reading;", true)
  | 10 => ("ProvedTable", "kitchenRun", "LProvedTable$Kitchen;", true)
  | _ => ("ProvedTable", "doubt", "LProvedTable$Doubt;", true)
def tyX7 : Nat → FieldType := fun k => match k with
  | 0 => .object "ProvedTable$Reader"
  | 1 => .object "ProvedTable$Table"
  | 2 => .object "ProvedTable$Table"
  | 3 => .array (.object "ProvedTable$Table")
  | 4 => .array .boolean
  | 5 => .array (.object "ProvedTable$Row")
  | 6 => .object "ProvedTable$Sheet"
  | 7 => .boolean
  | 8 => .object "ProvedTable$Sheet"
  | 9 => .object "ProvedTable$Reading"
  | 10 => .object "ProvedTable$Kitchen"
  | _ => .object "ProvedTable$Doubt"
theorem nmX7 : ∀ a, a < 12 → ∀ b, b < 12 → a ≠ b → (TX7 a).2.1 ≠ (TX7 b).2.1 := by decide +kernel
theorem tyX7_ok : ∀ k, k < 12 → parseFieldDescriptor (TX7 k).2.2.1 = some (tyX7 k) := by decide +kernel
abbrev cX7_init : ByteArray := prog_1_method_1_code
def yX7_init : MethodName := ⟨RX7, "<init>", "()V"⟩
abbrev cX7_feed : ByteArray := prog_1_method_2_code
def yX7_feed : MethodName := ⟨RX7, "feed", "(IIIII)I"⟩
abbrev cX7_end : ByteArray := prog_1_method_3_code
def yX7_end : MethodName := ⟨RX7, "end", "(I)I"⟩
abbrev cX7_table : ByteArray := prog_1_method_4_code
def yX7_table : MethodName := ⟨RX7, "table", "()I"⟩
abbrev cX7_fault : ByteArray := prog_1_method_5_code
def yX7_fault : MethodName := ⟨RX7, "fault", "(I)I"⟩
abbrev cX7_claim : ByteArray := prog_1_method_6_code
def yX7_claim : MethodName := ⟨RX7, "claim", "(II)I"⟩
abbrev cX7_holds : ByteArray := prog_1_method_7_code
def yX7_holds : MethodName := ⟨RX7, "holds", "(I)I"⟩
abbrev cX7_step : ByteArray := prog_1_method_8_code
def yX7_step : MethodName := ⟨RX7, "step", "(II)I"⟩
abbrev cX7_guest : ByteArray := prog_1_method_9_code
def yX7_guest : MethodName := ⟨RX7, "guest", "(II)I"⟩
abbrev cX7_salted : ByteArray := prog_1_method_10_code
def yX7_salted : MethodName := ⟨RX7, "salted", "()I"⟩
abbrev cX7_follows : ByteArray := prog_1_method_11_code
def yX7_follows : MethodName := ⟨RX7, "follows", "(I)I"⟩
abbrev cX7_counter : ByteArray := prog_1_method_12_code
def yX7_counter : MethodName := ⟨RX7, "counter", "(I)I"⟩
abbrev cX7_entails : ByteArray := prog_1_method_13_code
def yX7_entails : MethodName := ⟨RX7, "entails", "(II)I"⟩
abbrev cX7_alike : ByteArray := prog_1_method_14_code
def yX7_alike : MethodName := ⟨RX7, "alike", "(I)I"⟩
abbrev cX7_falsity : ByteArray := prog_1_method_15_code
def yX7_falsity : MethodName := ⟨RX7, "falsity", "(I)I"⟩
abbrev cX7_proved : ByteArray := prog_1_method_16_code
def yX7_proved : MethodName := ⟨RX7, "proved", "()I"⟩
abbrev cX7_wrong : ByteArray := prog_1_method_17_code
def yX7_wrong : MethodName := ⟨RX7, "wrong", "()I"⟩
abbrev cX7_covered : ByteArray := prog_1_method_18_code
def yX7_covered : MethodName := ⟨RX7, "covered", "()I"⟩
abbrev cX7_reads : ByteArray := prog_1_method_19_code
def yX7_reads : MethodName := ⟨RX7, "reads", "(I)I"⟩
abbrev cX7_why : ByteArray := prog_1_method_20_code
def yX7_why : MethodName := ⟨RX7, "why", "(I)I"⟩
abbrev cX7_reached : ByteArray := prog_1_method_21_code
def yX7_reached : MethodName := ⟨RX7, "reached", "(I)I"⟩
abbrev cX7_eats : ByteArray := prog_1_method_22_code
def yX7_eats : MethodName := ⟨RX7, "eats", "(II)I"⟩
abbrev cX7_used : ByteArray := prog_1_method_23_code
def yX7_used : MethodName := ⟨RX7, "used", "(II)I"⟩
abbrev cX7_same : ByteArray := prog_1_method_24_code
def yX7_same : MethodName := ⟨RX7, "same", "(III)I"⟩
abbrev cX7_shortest : ByteArray := prog_1_method_25_code
def yX7_shortest : MethodName := ⟨RX7, "shortest", "(I)I"⟩
abbrev cX7_proof : ByteArray := prog_1_method_26_code
def yX7_proof : MethodName := ⟨RX7, "proof", "(I)I"⟩
abbrev cX7_bite : ByteArray := prog_1_method_27_code
def yX7_bite : MethodName := ⟨RX7, "bite", "(II)I"⟩
abbrev cX7_proofs : ByteArray := prog_1_method_28_code
def yX7_proofs : MethodName := ⟨RX7, "proofs", "(I)I"⟩
abbrev cX7_needs : ByteArray := prog_1_method_29_code
def yX7_needs : MethodName := ⟨RX7, "needs", "(I)I"⟩
abbrev cX7_rests : ByteArray := prog_1_method_30_code
def yX7_rests : MethodName := ⟨RX7, "rests", "(I)I"⟩
abbrev cX7_menu : ByteArray := prog_1_method_31_code
def yX7_menu : MethodName := ⟨RX7, "menu", "(I)I"⟩
abbrev cX7_course : ByteArray := prog_1_method_32_code
def yX7_course : MethodName := ⟨RX7, "course", "(I)I"⟩
abbrev cX7_dishes : ByteArray := prog_1_method_33_code
def yX7_dishes : MethodName := ⟨RX7, "dishes", "(I)I"⟩
abbrev cX7_takes : ByteArray := prog_1_method_34_code
def yX7_takes : MethodName := ⟨RX7, "takes", "(II)I"⟩
abbrev cX7_who : ByteArray := prog_1_method_35_code
def yX7_who : MethodName := ⟨RX7, "who", "(I)I"⟩
abbrev cX7_host : ByteArray := prog_1_method_36_code
def yX7_host : MethodName := ⟨RX7, "host", "(I)I"⟩
abbrev cX7_lemma : ByteArray := prog_1_method_37_code
def yX7_lemma : MethodName := ⟨RX7, "lemma", "(I)I"⟩
abbrev cX7_brings : ByteArray := prog_1_method_38_code
def yX7_brings : MethodName := ⟨RX7, "brings", "(I)I"⟩
abbrev cX7_strength : ByteArray := prog_1_method_39_code
def yX7_strength : MethodName := ⟨RX7, "strength", "(I)I"⟩
abbrev cX7_together : ByteArray := prog_1_method_40_code
def yX7_together : MethodName := ⟨RX7, "together", "(II)I"⟩
abbrev cX7_fewest : ByteArray := prog_1_method_41_code
def yX7_fewest : MethodName := ⟨RX7, "fewest", "(I)I"⟩
abbrev cX7_team : ByteArray := prog_1_method_42_code
def yX7_team : MethodName := ⟨RX7, "team", "(I)I"⟩
abbrev cX7_claims : ByteArray := prog_1_method_43_code
def yX7_claims : MethodName := ⟨RX7, "claims", "(II)I"⟩
abbrev cX7_outcome : ByteArray := prog_1_method_44_code
def yX7_outcome : MethodName := ⟨RX7, "outcome", "(II)I"⟩
abbrev cX7_kitchen : ByteArray := prog_1_method_45_code
def yX7_kitchen : MethodName := ⟨RX7, "kitchen", "(II)I"⟩
abbrev cX7_when : ByteArray := prog_1_method_46_code
def yX7_when : MethodName := ⟨RX7, "when", "(II)I"⟩
abbrev cX7_shares : ByteArray := prog_1_method_47_code
def yX7_shares : MethodName := ⟨RX7, "shares", "(II)I"⟩
abbrev cX7_busy : ByteArray := prog_1_method_48_code
def yX7_busy : MethodName := ⟨RX7, "busy", "(III)I"⟩
abbrev cX7_duel : ByteArray := prog_1_method_49_code
def yX7_duel : MethodName := ⟨RX7, "duel", "()I"⟩
abbrev cX7_move : ByteArray := prog_1_method_50_code
def yX7_move : MethodName := ⟨RX7, "move", "()I"⟩
abbrev cX7_lasts : ByteArray := prog_1_method_51_code
def yX7_lasts : MethodName := ⟨RX7, "lasts", "()I"⟩
abbrev cX7_idle : ByteArray := prog_1_method_52_code
def yX7_idle : MethodName := ⟨RX7, "idle", "()I"⟩
abbrev cX7_core : ByteArray := prog_1_method_53_code
def yX7_core : MethodName := ⟨RX7, "core", "()I"⟩
abbrev cX7_cored : ByteArray := prog_1_method_54_code
def yX7_cored : MethodName := ⟨RX7, "cored", "()I"⟩
abbrev cX7_likely : ByteArray := prog_1_method_55_code
def yX7_likely : MethodName := ⟨RX7, "likely", "(II)I"⟩
abbrev cX7_ask : ByteArray := prog_1_method_56_code
def yX7_ask : MethodName := ⟨RX7, "ask", "()I"⟩
abbrev cX7_leaves : ByteArray := prog_1_method_57_code
def yX7_leaves : MethodName := ⟨RX7, "leaves", "()I"⟩
abbrev cX7_unlike : ByteArray := prog_1_method_58_code
def yX7_unlike : MethodName := ⟨RX7, "unlike", "()I"⟩
abbrev cX7_falls : ByteArray := prog_1_method_59_code
def yX7_falls : MethodName := ⟨RX7, "falls", "(I)I"⟩
abbrev cX7_spare : ByteArray := prog_1_method_60_code
def yX7_spare : MethodName := ⟨RX7, "spare", "(I)I"⟩
abbrev cX7_spared : ByteArray := prog_1_method_61_code
def yX7_spared : MethodName := ⟨RX7, "spared", "(I)I"⟩
abbrev cX7_salt : ByteArray := prog_1_method_62_code
def yX7_salt : MethodName := ⟨RX7, "salt", "(II)I"⟩
abbrev cX7_ate : ByteArray := prog_1_method_63_code
def yX7_ate : MethodName := ⟨RX7, "ate", "(I)I"⟩
abbrev cX7_borrowed : ByteArray := prog_1_method_64_code
def yX7_borrowed : MethodName := ⟨RX7, "borrowed", "(II)I"⟩
abbrev cX7_lent : ByteArray := prog_1_method_65_code
def yX7_lent : MethodName := ⟨RX7, "lent", "(II)I"⟩
abbrev cX7_adds : ByteArray := prog_1_method_66_code
def yX7_adds : MethodName := ⟨RX7, "adds", "(II)I"⟩
abbrev cX7_drops : ByteArray := prog_1_method_67_code
def yX7_drops : MethodName := ⟨RX7, "drops", "()I"⟩
abbrev cX7_teach : ByteArray := prog_1_method_68_code
def yX7_teach : MethodName := ⟨RX7, "teach", "(III)I"⟩
abbrev cX7_drawn : ByteArray := prog_1_method_69_code
def yX7_drawn : MethodName := ⟨RX7, "drawn", "(I)I"⟩
abbrev cX7_feast : ByteArray := prog_1_method_70_code
def yX7_feast : MethodName := ⟨RX7, "feast", "(II)I"⟩
abbrev cX7_mean : ByteArray := prog_1_method_71_code
def yX7_mean : MethodName := ⟨RX7, "mean", "(IIII)I"⟩
abbrev cX7_count : ByteArray := prog_1_method_72_code
def yX7_count : MethodName := ⟨RX7, "count", "(I)I"⟩
abbrev cX7_image : ByteArray := prog_1_method_73_code
def yX7_image : MethodName := ⟨RX7, "image", "(I)I"⟩
abbrev cX7_back : ByteArray := prog_1_method_74_code
def yX7_back : MethodName := ⟨RX7, "back", "(I)I"⟩
abbrev cX7_row : ByteArray := prog_1_method_75_code
def yX7_row : MethodName := ⟨RX7, "row", "(III)I"⟩
abbrev cX7_write : ByteArray := prog_1_method_76_code
def yX7_write : MethodName := ⟨RX7, "write", "(IIJ)I"⟩
abbrev cX7_paste : ByteArray := prog_1_method_77_code
def yX7_paste : MethodName := ⟨RX7, "paste", "(IIIII)I"⟩
abbrev cX7_bit : ByteArray := prog_1_method_78_code
def yX7_bit : MethodName := ⟨RX7, "bit", "(Z)I"⟩
abbrev cX7_isBit : ByteArray := prog_1_method_79_code
def yX7_isBit : MethodName := ⟨RX7, "isBit", "(I)Z"⟩
abbrev cX7_withBit : ByteArray := prog_1_method_80_code
def yX7_withBit : MethodName := ⟨RX7, "withBit", "(III)I"⟩
abbrev cX7_lowestBit : ByteArray := prog_1_method_81_code
def yX7_lowestBit : MethodName := ⟨RX7, "lowestBit", "(I)I"⟩
abbrev cX7_sizeOrNone : ByteArray := prog_1_method_82_code
def yX7_sizeOrNone : MethodName := ⟨RX7, "sizeOrNone", "(I)I"⟩
abbrev cX7_isSlot : ByteArray := prog_1_method_83_code
def yX7_isSlot : MethodName := ⟨RX7, "isSlot", "(I)Z"⟩
abbrev cX7_isSeed : ByteArray := prog_1_method_84_code
def yX7_isSeed : MethodName := ⟨RX7, "isSeed", "(I)Z"⟩
abbrev cX7_greatestDivisor : ByteArray := prog_1_method_85_code
def yX7_greatestDivisor : MethodName := ⟨RX7, "greatestDivisor", "(II)I"⟩
abbrev cX7_partOfFraction : ByteArray := prog_1_method_86_code
def yX7_partOfFraction : MethodName := ⟨RX7, "partOfFraction", "(III)I"⟩
abbrev cX7_rowsThere : ByteArray := prog_1_method_87_code
def yX7_rowsThere : MethodName := ⟨RX7, "rowsThere", "()I"⟩
abbrev cX7_refusalOfSlot : ByteArray := prog_1_method_88_code
def yX7_refusalOfSlot : MethodName := ⟨RX7, "refusalOfSlot", "(I)I"⟩
abbrev cX7_refusalOfSteps : ByteArray := prog_1_method_89_code
def yX7_refusalOfSteps : MethodName := ⟨RX7, "refusalOfSteps", "(I)I"⟩
abbrev cX7_refusalOfPairs : ByteArray := prog_1_method_90_code
def yX7_refusalOfPairs : MethodName := ⟨RX7, "refusalOfPairs", "(I)I"⟩
abbrev cX7_refusalOfDishes : ByteArray := prog_1_method_91_code
def yX7_refusalOfDishes : MethodName := ⟨RX7, "refusalOfDishes", "(I)I"⟩
abbrev cX7_freshProofs : ByteArray := prog_1_method_92_code
def yX7_freshProofs : MethodName := ⟨RX7, "freshProofs", "()LProvedTable$Sheet;"⟩
abbrev cX7_provedByAll : ByteArray := prog_1_method_93_code
def yX7_provedByAll : MethodName := ⟨RX7, "provedByAll", "()I"⟩
abbrev cX7_provedWithout : ByteArray := prog_1_method_94_code
def yX7_provedWithout : MethodName := ⟨RX7, "provedWithout", "(I)I"⟩
abbrev cX7_shortestSet : ByteArray := prog_1_method_95_code
def yX7_shortestSet : MethodName := ⟨RX7, "shortestSet", "(I)I"⟩
abbrev cX7_menuSet : ByteArray := prog_1_method_96_code
def yX7_menuSet : MethodName := ⟨RX7, "menuSet", "(II)I"⟩
abbrev cX7_menuWorth : ByteArray := prog_1_method_97_code
def yX7_menuWorth : MethodName := ⟨RX7, "menuWorth", "(II)I"⟩
abbrev cX7_worthWithLemma : ByteArray := prog_1_method_98_code
def yX7_worthWithLemma : MethodName := ⟨RX7, "worthWithLemma", "(II)I"⟩
abbrev cX7_guestsProving : ByteArray := prog_1_method_99_code
def yX7_guestsProving : MethodName := ⟨RX7, "guestsProving", "(I)I"⟩
abbrev cX7_doesTeamProve : ByteArray := prog_1_method_100_code
def yX7_doesTeamProve : MethodName := ⟨RX7, "doesTeamProve", "(II)Z"⟩
abbrev cX7_leastTeam : ByteArray := prog_1_method_101_code
def yX7_leastTeam : MethodName := ⟨RX7, "leastTeam", "(I)I"⟩
abbrev cX7_lengthOfDuel : ByteArray := prog_1_method_102_code
def yX7_lengthOfDuel : MethodName := ⟨RX7, "lengthOfDuel", "()I"⟩
abbrev cX7_coreSet : ByteArray := prog_1_method_103_code
def yX7_coreSet : MethodName := ⟨RX7, "coreSet", "()I"⟩
abbrev cX7_leastSaltFor : ByteArray := prog_1_method_104_code
def yX7_leastSaltFor : MethodName := ⟨RX7, "leastSaltFor", "(I)I"⟩
def RX8 : String := "ProvedTableModel"
def TX8 : u_T := fun k => match k with
  | 0 => ("ProvedTableModel", "thrown", "I", false)
  | 1 => ("ProvedTableModel", "world", "[I", true)
  | 2 => ("ProvedTableModel", "images", "[I", true)
  | 3 => ("ProvedTableModel", "hasImage", "[Z", true)
  | 4 => ("ProvedTableModel", "tape", "[B", true)
  | 5 => ("ProvedTableModel", "taped", "I", false)
  | 6 => ("ProvedTableModel", "five", "[I", true)
  | 7 => ("ProvedTableModel", "size", "I", false)
  | 8 => ("ProvedTableModel", "at", "I", false)
  | 9 => ("ProvedTableModel", "from", "I", false)
  | 10 => ("ProvedTableModel", "token", "I", false)
  | 11 => ("ProvedTableModel", "value", "I", false)
  | 12 => ("ProvedTableModel", "faultKind", "I", false)
  | 13 => ("ProvedTableModel", "faultPlace", "I", false)
  | 14 => ("ProvedTableModel", "fresh", "[I", true)
  | 15 => ("ProvedTableModel", "openWord", "[I", true)
  | 16 => ("ProvedTableModel", "hasFirst", "[Z", true)
  | 17 => ("ProvedTableModel", "firstPart", "[I", true)
  | 18 => ("ProvedTableModel", "leaf", "I", false)
  | 19 => ("ProvedTableModel", "readMany", "I", false)
  | 20 => ("ProvedTableModel", "readProved", "I", false)
  | 21 => ("ProvedTableModel", "menuSet", "I", false)
  | 22 => ("ProvedTableModel", "bringsAbout", "[Z", true)
  | 23 => ("ProvedTableModel", "provedAt", "[I", true)
  | 24 => ("ProvedTableModel", "gaveIt", "[I", true)
  | 25 => ("ProvedTableModel", "throughAt", "[I", true)
  | 26 => ("ProvedTableModel", "worked", "[I", true)
  | 27 => ("ProvedTableModel", "pairsGone", "I", false)
  | 28 => ("ProvedTableModel", "allThrough", "I", false)
  | 29 => ("ProvedTableModel", "duels", "[I", true)
  | 30 => ("ProvedTableModel", "many", "[I", true)
  | 31 => ("ProvedTableModel", "width", "[I", true)
  | 32 => ("ProvedTableModel", "numbers", "[J", true)
  | _ => ("ProvedTableModel", "moving", "[J", true)
def tyX8 : Nat → FieldType := fun k => match k with
  | 0 => .int
  | 1 => .array .int
  | 2 => .array .int
  | 3 => .array .boolean
  | 4 => .array .byte
  | 5 => .int
  | 6 => .array .int
  | 7 => .int
  | 8 => .int
  | 9 => .int
  | 10 => .int
  | 11 => .int
  | 12 => .int
  | 13 => .int
  | 14 => .array .int
  | 15 => .array .int
  | 16 => .array .boolean
  | 17 => .array .int
  | 18 => .int
  | 19 => .int
  | 20 => .int
  | 21 => .int
  | 22 => .array .boolean
  | 23 => .array .int
  | 24 => .array .int
  | 25 => .array .int
  | 26 => .array .int
  | 27 => .int
  | 28 => .int
  | 29 => .array .int
  | 30 => .array .int
  | 31 => .array .int
  | 32 => .array .long
  | _ => .array .long
theorem nmX8 : ∀ a, a < 34 → ∀ b, b < 34 → a ≠ b → (TX8 a).2.1 ≠ (TX8 b).2.1 := by decide +kernel
theorem tyX8_ok : ∀ k, k < 34 → parseFieldDescriptor (TX8 k).2.2.1 = some (tyX8 k) := by decide +kernel
abbrev cX8_init : ByteArray := prog_10_method_1_code
def yX8_init : MethodName := ⟨RX8, "<init>", "()V"⟩
abbrev cX8_in : ByteArray := prog_10_method_3_code
def yX8_in : MethodName := ⟨RX8, "in", "(JJJ)Z"⟩
abbrev cX8_bits : ByteArray := prog_10_method_4_code
def yX8_bits : MethodName := ⟨RX8, "bits", "(I)I"⟩
abbrev cX8_bit : ByteArray := prog_10_method_5_code
def yX8_bit : MethodName := ⟨RX8, "bit", "(II)I"⟩
abbrev cX8_image : ByteArray := prog_10_method_6_code
def yX8_image : MethodName := ⟨RX8, "image", "(I)I"⟩
abbrev cX8_back : ByteArray := prog_10_method_7_code
def yX8_back : MethodName := ⟨RX8, "back", "(I)I"⟩
abbrev cX8_isTable : ByteArray := prog_10_method_8_code
def yX8_isTable : MethodName := ⟨RX8, "isTable", "()Z"⟩
abbrev cX8_isClaim : ByteArray := prog_10_method_9_code
def yX8_isClaim : MethodName := ⟨RX8, "isClaim", "(J)Z"⟩
abbrev cX8_isStep : ByteArray := prog_10_method_10_code
def yX8_isStep : MethodName := ⟨RX8, "isStep", "(J)Z"⟩
abbrev cX8_isGuest : ByteArray := prog_10_method_11_code
def yX8_isGuest : MethodName := ⟨RX8, "isGuest", "(J)Z"⟩
abbrev cX8_ofClaim : ByteArray := prog_10_method_12_code
def yX8_ofClaim : MethodName := ⟨RX8, "ofClaim", "(II)I"⟩
abbrev cX8_ofStep : ByteArray := prog_10_method_13_code
def yX8_ofStep : MethodName := ⟨RX8, "ofStep", "(II)I"⟩
abbrev cX8_ofGuest : ByteArray := prog_10_method_14_code
def yX8_ofGuest : MethodName := ⟨RX8, "ofGuest", "(II)I"⟩
abbrev cX8_allClaims : ByteArray := prog_10_method_15_code
def yX8_allClaims : MethodName := ⟨RX8, "allClaims", "()I"⟩
abbrev cX8_allSteps : ByteArray := prog_10_method_16_code
def yX8_allSteps : MethodName := ⟨RX8, "allSteps", "()I"⟩
abbrev cX8_allGuests : ByteArray := prog_10_method_17_code
def yX8_allGuests : MethodName := ⟨RX8, "allGuests", "()I"⟩
abbrev cX8_worlds : ByteArray := prog_10_method_18_code
def yX8_worlds : MethodName := ⟨RX8, "worlds", "()I"⟩
abbrev cX8_allWorlds : ByteArray := prog_10_method_19_code
def yX8_allWorlds : MethodName := ⟨RX8, "allWorlds", "()I"⟩
abbrev cX8_saltNow : ByteArray := prog_10_method_20_code
def yX8_saltNow : MethodName := ⟨RX8, "saltNow", "()I"⟩
abbrev cX8_feed : ByteArray := prog_10_method_21_code
def yX8_feed : MethodName := ⟨RX8, "feed", "(IIIII)I"⟩
abbrev cX8_end : ByteArray := prog_10_method_22_code
def yX8_end : MethodName := ⟨RX8, "end", "(I)I"⟩
abbrev cX8_see : ByteArray := prog_10_method_23_code
def yX8_see : MethodName := ⟨RX8, "see", "(I)I"⟩
abbrev cX8_advance : ByteArray := prog_10_method_24_code
def yX8_advance : MethodName := ⟨RX8, "advance", "()V"⟩
abbrev cX8_good : ByteArray := prog_10_method_25_code
def yX8_good : MethodName := ⟨RX8, "good", "()Z"⟩
abbrev cX8_errs : ByteArray := prog_10_method_26_code
def yX8_errs : MethodName := ⟨RX8, "errs", "(I)V"⟩
abbrev cX8_is : ByteArray := prog_10_method_27_code
def yX8_is : MethodName := ⟨RX8, "is", "(Ljava/lang/String;)Z"⟩
abbrev cX8_takes : ByteArray := prog_10_method_28_code
def yX8_takes : MethodName := ⟨RX8, "takes", "(Ljava/lang/String;)Z"⟩
abbrev cX8_needs : ByteArray := prog_10_method_29_code
def yX8_needs : MethodName := ⟨RX8, "needs", "(Ljava/lang/String;)V"⟩
abbrev cX8_number : ByteArray := prog_10_method_30_code
def yX8_number : MethodName := ⟨RX8, "number", "(II)I"⟩
abbrev cX8_told : ByteArray := prog_10_method_31_code
def yX8_told : MethodName := ⟨RX8, "told", "(Ljava/lang/String;II)I"⟩
abbrev cX8_fault : ByteArray := prog_10_method_32_code
def yX8_fault : MethodName := ⟨RX8, "fault", "(I)I"⟩
abbrev cX8_freshAll : ByteArray := prog_10_method_33_code
def yX8_freshAll : MethodName := ⟨RX8, "freshAll", "()I"⟩
abbrev cX8_atomWorlds : ByteArray := prog_10_method_34_code
def yX8_atomWorlds : MethodName := ⟨RX8, "atomWorlds", "(I)I"⟩
abbrev cX8_formWord : ByteArray := prog_10_method_35_code
def yX8_formWord : MethodName := ⟨RX8, "formWord", "()I"⟩
abbrev cX8_joined : ByteArray := prog_10_method_36_code
def yX8_joined : MethodName := ⟨RX8, "joined", "(III)I"⟩
abbrev cX8_form : ByteArray := prog_10_method_37_code
def yX8_form : MethodName := ⟨RX8, "form", "()I"⟩
abbrev cX8_freshClaim : ByteArray := prog_10_method_38_code
def yX8_freshClaim : MethodName := ⟨RX8, "freshClaim", "()I"⟩
abbrev cX8_readClaim : ByteArray := prog_10_method_39_code
def yX8_readClaim : MethodName := ⟨RX8, "readClaim", "()V"⟩
abbrev cX8_isNextIn : ByteArray := prog_10_method_40_code
def yX8_isNextIn : MethodName := ⟨RX8, "isNextIn", "(I)Z"⟩
abbrev cX8_readSalt : ByteArray := prog_10_method_41_code
def yX8_readSalt : MethodName := ⟨RX8, "readSalt", "()V"⟩
abbrev cX8_readStep : ByteArray := prog_10_method_42_code
def yX8_readStep : MethodName := ⟨RX8, "readStep", "()V"⟩
abbrev cX8_readGuest : ByteArray := prog_10_method_43_code
def yX8_readGuest : MethodName := ⟨RX8, "readGuest", "()V"⟩
abbrev cX8_readNext : ByteArray := prog_10_method_44_code
def yX8_readNext : MethodName := ⟨RX8, "readNext", "()V"⟩
abbrev cX8_readLine : ByteArray := prog_10_method_45_code
def yX8_readLine : MethodName := ⟨RX8, "readLine", "()V"⟩
abbrev cX8_table : ByteArray := prog_10_method_46_code
def yX8_table : MethodName := ⟨RX8, "table", "()I"⟩
abbrev cX8_saltedBy : ByteArray := prog_10_method_47_code
def yX8_saltedBy : MethodName := ⟨RX8, "saltedBy", "(I)I"⟩
abbrev cX8_saltedNow : ByteArray := prog_10_method_48_code
def yX8_saltedNow : MethodName := ⟨RX8, "saltedNow", "()I"⟩
abbrev cX8_lowest : ByteArray := prog_10_method_49_code
def yX8_lowest : MethodName := ⟨RX8, "lowest", "(I)I"⟩
abbrev cX8_falseIn : ByteArray := prog_10_method_50_code
def yX8_falseIn : MethodName := ⟨RX8, "falseIn", "(I)I"⟩
abbrev cX8_isFollowing : ByteArray := prog_10_method_51_code
def yX8_isFollowing : MethodName := ⟨RX8, "isFollowing", "(I)Z"⟩
abbrev cX8_claim : ByteArray := prog_10_method_52_code
def yX8_claim : MethodName := ⟨RX8, "claim", "(II)I"⟩
abbrev cX8_holds : ByteArray := prog_10_method_53_code
def yX8_holds : MethodName := ⟨RX8, "holds", "(I)I"⟩
abbrev cX8_step : ByteArray := prog_10_method_54_code
def yX8_step : MethodName := ⟨RX8, "step", "(II)I"⟩
abbrev cX8_canDo : ByteArray := prog_10_method_55_code
def yX8_canDo : MethodName := ⟨RX8, "canDo", "(I)I"⟩
abbrev cX8_guest : ByteArray := prog_10_method_56_code
def yX8_guest : MethodName := ⟨RX8, "guest", "(II)I"⟩
abbrev cX8_salted : ByteArray := prog_10_method_57_code
def yX8_salted : MethodName := ⟨RX8, "salted", "()I"⟩
abbrev cX8_follows : ByteArray := prog_10_method_58_code
def yX8_follows : MethodName := ⟨RX8, "follows", "(I)I"⟩
abbrev cX8_counter : ByteArray := prog_10_method_59_code
def yX8_counter : MethodName := ⟨RX8, "counter", "(I)I"⟩
abbrev cX8_entails : ByteArray := prog_10_method_60_code
def yX8_entails : MethodName := ⟨RX8, "entails", "(II)I"⟩
abbrev cX8_alike : ByteArray := prog_10_method_61_code
def yX8_alike : MethodName := ⟨RX8, "alike", "(I)I"⟩
abbrev cX8_falsity : ByteArray := prog_10_method_62_code
def yX8_falsity : MethodName := ⟨RX8, "falsity", "(I)I"⟩
abbrev cX8_goes : ByteArray := prog_10_method_63_code
def yX8_goes : MethodName := ⟨RX8, "goes", "(II)Z"⟩
abbrev cX8_provedBy : ByteArray := prog_10_method_64_code
def yX8_provedBy : MethodName := ⟨RX8, "provedBy", "(II)I"⟩
abbrev cX8_provedNow : ByteArray := prog_10_method_65_code
def yX8_provedNow : MethodName := ⟨RX8, "provedNow", "()I"⟩
abbrev cX8_following : ByteArray := prog_10_method_66_code
def yX8_following : MethodName := ⟨RX8, "following", "()I"⟩
abbrev cX8_proved : ByteArray := prog_10_method_67_code
def yX8_proved : MethodName := ⟨RX8, "proved", "()I"⟩
abbrev cX8_wrong : ByteArray := prog_10_method_68_code
def yX8_wrong : MethodName := ⟨RX8, "wrong", "()I"⟩
abbrev cX8_covered : ByteArray := prog_10_method_69_code
def yX8_covered : MethodName := ⟨RX8, "covered", "()I"⟩
abbrev cX8_numberAt : ByteArray := prog_10_method_70_code
def yX8_numberAt : MethodName := ⟨RX8, "numberAt", "(II)J"⟩
abbrev cX8_asksRow : ByteArray := prog_10_method_71_code
def yX8_asksRow : MethodName := ⟨RX8, "asksRow", "(IZ)I"⟩
abbrev cX8_readRow : ByteArray := prog_10_method_72_code
def yX8_readRow : MethodName := ⟨RX8, "readRow", "(I)V"⟩
abbrev cX8_reads : ByteArray := prog_10_method_73_code
def yX8_reads : MethodName := ⟨RX8, "reads", "(I)I"⟩
abbrev cX8_why : ByteArray := prog_10_method_74_code
def yX8_why : MethodName := ⟨RX8, "why", "(I)I"⟩
abbrev cX8_reached : ByteArray := prog_10_method_75_code
def yX8_reached : MethodName := ⟨RX8, "reached", "(I)I"⟩
abbrev cX8_eats : ByteArray := prog_10_method_76_code
def yX8_eats : MethodName := ⟨RX8, "eats", "(II)I"⟩
abbrev cX8_usedBy : ByteArray := prog_10_method_77_code
def yX8_usedBy : MethodName := ⟨RX8, "usedBy", "(II)I"⟩
abbrev cX8_used : ByteArray := prog_10_method_78_code
def yX8_used : MethodName := ⟨RX8, "used", "(II)I"⟩
abbrev cX8_same : ByteArray := prog_10_method_79_code
def yX8_same : MethodName := ⟨RX8, "same", "(III)I"⟩
abbrev cX8_fewestSteps : ByteArray := prog_10_method_80_code
def yX8_fewestSteps : MethodName := ⟨RX8, "fewestSteps", "(III)I"⟩
abbrev cX8_proofOf : ByteArray := prog_10_method_81_code
def yX8_proofOf : MethodName := ⟨RX8, "proofOf", "(I)I"⟩
abbrev cX8_shortest : ByteArray := prog_10_method_82_code
def yX8_shortest : MethodName := ⟨RX8, "shortest", "(I)I"⟩
abbrev cX8_proof : ByteArray := prog_10_method_83_code
def yX8_proof : MethodName := ⟨RX8, "proof", "(I)I"⟩
abbrev cX8_bite : ByteArray := prog_10_method_84_code
def yX8_bite : MethodName := ⟨RX8, "bite", "(II)I"⟩
abbrev cX8_isProvedBy : ByteArray := prog_10_method_85_code
def yX8_isProvedBy : MethodName := ⟨RX8, "isProvedBy", "(II)Z"⟩
abbrev cX8_isLeastProof : ByteArray := prog_10_method_86_code
def yX8_isLeastProof : MethodName := ⟨RX8, "isLeastProof", "(II)Z"⟩
abbrev cX8_proofs : ByteArray := prog_10_method_87_code
def yX8_proofs : MethodName := ⟨RX8, "proofs", "(I)I"⟩
abbrev cX8_needs_ : ByteArray := prog_10_method_88_code
def yX8_needs_ : MethodName := ⟨RX8, "needs", "(I)I"⟩
abbrev cX8_rests : ByteArray := prog_10_method_89_code
def yX8_rests : MethodName := ⟨RX8, "rests", "(I)I"⟩
abbrev cX8_worthsOf : ByteArray := prog_10_method_90_code
def yX8_worthsOf : MethodName := ⟨RX8, "worthsOf", "(I)I"⟩
abbrev cX8_mostBy : ByteArray := prog_10_method_91_code
def yX8_mostBy : MethodName := ⟨RX8, "mostBy", "(III)I"⟩
abbrev cX8_menuOf : ByteArray := prog_10_method_92_code
def yX8_menuOf : MethodName := ⟨RX8, "menuOf", "(I)I"⟩
abbrev cX8_menu : ByteArray := prog_10_method_93_code
def yX8_menu : MethodName := ⟨RX8, "menu", "(I)I"⟩
abbrev cX8_course : ByteArray := prog_10_method_94_code
def yX8_course : MethodName := ⟨RX8, "course", "(I)I"⟩
abbrev cX8_dishes : ByteArray := prog_10_method_95_code
def yX8_dishes : MethodName := ⟨RX8, "dishes", "(I)I"⟩
abbrev cX8_areClaims : ByteArray := prog_10_method_96_code
def yX8_areClaims : MethodName := ⟨RX8, "areClaims", "(I)Z"⟩
abbrev cX8_takes_ : ByteArray := prog_10_method_97_code
def yX8_takes_ : MethodName := ⟨RX8, "takes", "(II)I"⟩
abbrev cX8_canProve : ByteArray := prog_10_method_98_code
def yX8_canProve : MethodName := ⟨RX8, "canProve", "(II)Z"⟩
abbrev cX8_whoOf : ByteArray := prog_10_method_99_code
def yX8_whoOf : MethodName := ⟨RX8, "whoOf", "(I)I"⟩
abbrev cX8_who : ByteArray := prog_10_method_100_code
def yX8_who : MethodName := ⟨RX8, "who", "(I)I"⟩
abbrev cX8_areGuests : ByteArray := prog_10_method_101_code
def yX8_areGuests : MethodName := ⟨RX8, "areGuests", "(I)Z"⟩
abbrev cX8_host : ByteArray := prog_10_method_102_code
def yX8_host : MethodName := ⟨RX8, "host", "(I)I"⟩
abbrev cX8_lemmaOf : ByteArray := prog_10_method_103_code
def yX8_lemmaOf : MethodName := ⟨RX8, "lemmaOf", "(I)I"⟩
abbrev cX8_lemma : ByteArray := prog_10_method_104_code
def yX8_lemma : MethodName := ⟨RX8, "lemma", "(I)I"⟩
abbrev cX8_brings : ByteArray := prog_10_method_105_code
def yX8_brings : MethodName := ⟨RX8, "brings", "(I)I"⟩
abbrev cX8_strengthOf : ByteArray := prog_10_method_106_code
def yX8_strengthOf : MethodName := ⟨RX8, "strengthOf", "(I)I"⟩
abbrev cX8_canTogether : ByteArray := prog_10_method_107_code
def yX8_canTogether : MethodName := ⟨RX8, "canTogether", "(II)Z"⟩
abbrev cX8_strength : ByteArray := prog_10_method_108_code
def yX8_strength : MethodName := ⟨RX8, "strength", "(I)I"⟩
abbrev cX8_together : ByteArray := prog_10_method_109_code
def yX8_together : MethodName := ⟨RX8, "together", "(II)I"⟩
abbrev cX8_teamOf : ByteArray := prog_10_method_110_code
def yX8_teamOf : MethodName := ⟨RX8, "teamOf", "(I)I"⟩
abbrev cX8_fewest : ByteArray := prog_10_method_111_code
def yX8_fewest : MethodName := ⟨RX8, "fewest", "(I)I"⟩
abbrev cX8_team : ByteArray := prog_10_method_112_code
def yX8_team : MethodName := ⟨RX8, "team", "(I)I"⟩
abbrev cX8_fillDoubt : ByteArray := prog_10_method_113_code
def yX8_fillDoubt : MethodName := ⟨RX8, "fillDoubt", "(II)V"⟩
abbrev cX8_claims : ByteArray := prog_10_method_114_code
def yX8_claims : MethodName := ⟨RX8, "claims", "(II)I"⟩
abbrev cX8_outcome : ByteArray := prog_10_method_115_code
def yX8_outcome : MethodName := ⟨RX8, "outcome", "(II)I"⟩
abbrev cX8_asksKitchen : ByteArray := prog_10_method_116_code
def yX8_asksKitchen : MethodName := ⟨RX8, "asksKitchen", "(IZ)I"⟩
abbrev cX8_cooks : ByteArray := prog_10_method_117_code
def yX8_cooks : MethodName := ⟨RX8, "cooks", "(II)Z"⟩
abbrev cX8_goKitchen : ByteArray := prog_10_method_118_code
def yX8_goKitchen : MethodName := ⟨RX8, "goKitchen", "(I)V"⟩
abbrev cX8_kitchen : ByteArray := prog_10_method_119_code
def yX8_kitchen : MethodName := ⟨RX8, "kitchen", "(II)I"⟩
abbrev cX8_when : ByteArray := prog_10_method_120_code
def yX8_when : MethodName := ⟨RX8, "when", "(II)I"⟩
abbrev cX8_shares : ByteArray := prog_10_method_121_code
def yX8_shares : MethodName := ⟨RX8, "shares", "(II)I"⟩
abbrev cX8_busy : ByteArray := prog_10_method_122_code
def yX8_busy : MethodName := ⟨RX8, "busy", "(III)I"⟩
abbrev cX8_mine : ByteArray := prog_10_method_123_code
def yX8_mine : MethodName := ⟨RX8, "mine", "(I)I"⟩
abbrev cX8_fillDuel : ByteArray := prog_10_method_124_code
def yX8_fillDuel : MethodName := ⟨RX8, "fillDuel", "()V"⟩
abbrev cX8_duel : ByteArray := prog_10_method_125_code
def yX8_duel : MethodName := ⟨RX8, "duel", "()I"⟩
abbrev cX8_move : ByteArray := prog_10_method_126_code
def yX8_move : MethodName := ⟨RX8, "move", "()I"⟩
abbrev cX8_lasts : ByteArray := prog_10_method_127_code
def yX8_lasts : MethodName := ⟨RX8, "lasts", "()I"⟩
abbrev cX8_idle : ByteArray := prog_10_method_128_code
def yX8_idle : MethodName := ⟨RX8, "idle", "()I"⟩
abbrev cX8_coreOf : ByteArray := prog_10_method_129_code
def yX8_coreOf : MethodName := ⟨RX8, "coreOf", "()I"⟩
abbrev cX8_core : ByteArray := prog_10_method_130_code
def yX8_core : MethodName := ⟨RX8, "core", "()I"⟩
abbrev cX8_cored : ByteArray := prog_10_method_131_code
def yX8_cored : MethodName := ⟨RX8, "cored", "()I"⟩
abbrev cX8_divisor : ByteArray := prog_10_method_132_code
def yX8_divisor : MethodName := ⟨RX8, "divisor", "(II)I"⟩
abbrev cX8_part : ByteArray := prog_10_method_133_code
def yX8_part : MethodName := ⟨RX8, "part", "(III)I"⟩
abbrev cX8_likely : ByteArray := prog_10_method_134_code
def yX8_likely : MethodName := ⟨RX8, "likely", "(II)I"⟩
abbrev cX8_worstOf : ByteArray := prog_10_method_135_code
def yX8_worstOf : MethodName := ⟨RX8, "worstOf", "(I)I"⟩
abbrev cX8_askOf : ByteArray := prog_10_method_136_code
def yX8_askOf : MethodName := ⟨RX8, "askOf", "()I"⟩
abbrev cX8_ask : ByteArray := prog_10_method_137_code
def yX8_ask : MethodName := ⟨RX8, "ask", "()I"⟩
abbrev cX8_leaves : ByteArray := prog_10_method_138_code
def yX8_leaves : MethodName := ⟨RX8, "leaves", "()I"⟩
abbrev cX8_unlike : ByteArray := prog_10_method_139_code
def yX8_unlike : MethodName := ⟨RX8, "unlike", "()I"⟩
abbrev cX8_falls : ByteArray := prog_10_method_140_code
def yX8_falls : MethodName := ⟨RX8, "falls", "(I)I"⟩
abbrev cX8_spareOf : ByteArray := prog_10_method_141_code
def yX8_spareOf : MethodName := ⟨RX8, "spareOf", "(I)I"⟩
abbrev cX8_spare : ByteArray := prog_10_method_142_code
def yX8_spare : MethodName := ⟨RX8, "spare", "(I)I"⟩
abbrev cX8_spared : ByteArray := prog_10_method_143_code
def yX8_spared : MethodName := ⟨RX8, "spared", "(I)I"⟩
abbrev cX8_salt : ByteArray := prog_10_method_144_code
def yX8_salt : MethodName := ⟨RX8, "salt", "(II)I"⟩
abbrev cX8_asksEaten : ByteArray := prog_10_method_145_code
def yX8_asksEaten : MethodName := ⟨RX8, "asksEaten", "(IZ)I"⟩
abbrev cX8_eatenBy : ByteArray := prog_10_method_146_code
def yX8_eatenBy : MethodName := ⟨RX8, "eatenBy", "(I)I"⟩
abbrev cX8_ate : ByteArray := prog_10_method_147_code
def yX8_ate : MethodName := ⟨RX8, "ate", "(I)I"⟩
abbrev cX8_borrowed : ByteArray := prog_10_method_148_code
def yX8_borrowed : MethodName := ⟨RX8, "borrowed", "(II)I"⟩
abbrev cX8_lent : ByteArray := prog_10_method_149_code
def yX8_lent : MethodName := ⟨RX8, "lent", "(II)I"⟩
abbrev cX8_adds : ByteArray := prog_10_method_150_code
def yX8_adds : MethodName := ⟨RX8, "adds", "(II)I"⟩
abbrev cX8_drops : ByteArray := prog_10_method_151_code
def yX8_drops : MethodName := ⟨RX8, "drops", "()I"⟩
abbrev cX8_teach : ByteArray := prog_10_method_152_code
def yX8_teach : MethodName := ⟨RX8, "teach", "(III)I"⟩
abbrev cX8_holesBy : ByteArray := prog_10_method_153_code
def yX8_holesBy : MethodName := ⟨RX8, "holesBy", "(J)I"⟩
abbrev cX8_isSeed : ByteArray := prog_10_method_154_code
def yX8_isSeed : MethodName := ⟨RX8, "isSeed", "(I)Z"⟩
abbrev cX8_drawn : ByteArray := prog_10_method_155_code
def yX8_drawn : MethodName := ⟨RX8, "drawn", "(I)I"⟩
abbrev cX8_feastOf : ByteArray := prog_10_method_156_code
def yX8_feastOf : MethodName := ⟨RX8, "feastOf", "(JI)I"⟩
abbrev cX8_feast : ByteArray := prog_10_method_157_code
def yX8_feast : MethodName := ⟨RX8, "feast", "(II)I"⟩
abbrev cX8_mean : ByteArray := prog_10_method_158_code
def yX8_mean : MethodName := ⟨RX8, "mean", "(IIII)I"⟩
abbrev cX8_count : ByteArray := prog_10_method_159_code
def yX8_count : MethodName := ⟨RX8, "count", "(I)I"⟩
abbrev cX8_isSlot : ByteArray := prog_10_method_160_code
def yX8_isSlot : MethodName := ⟨RX8, "isSlot", "(I)Z"⟩
abbrev cX8_cut : ByteArray := prog_10_method_161_code
def yX8_cut : MethodName := ⟨RX8, "cut", "(JI)J"⟩
abbrev cX8_row : ByteArray := prog_10_method_162_code
def yX8_row : MethodName := ⟨RX8, "row", "(III)I"⟩
abbrev cX8_write : ByteArray := prog_10_method_163_code
def yX8_write : MethodName := ⟨RX8, "write", "(IIJ)I"⟩
abbrev cX8_paste : ByteArray := prog_10_method_164_code
def yX8_paste : MethodName := ⟨RX8, "paste", "(IIIII)I"⟩
def RJ6 : String := "java/lang/Integer"
def TJ6 : u_T := fun k => match k with
  | _ => ("", "", "", false)
def tyJ6 : Nat → FieldType := fun k => match k with
  | _ => .int
theorem nmJ6 : ∀ a, a < 0 → ∀ b, b < 0 → a ≠ b → (TJ6 a).2.1 ≠ (TJ6 b).2.1 := by decide +kernel
theorem tyJ6_ok : ∀ k, k < 0 → parseFieldDescriptor (TJ6 k).2.2.1 = some (tyJ6 k) := by decide +kernel
abbrev cJ6_bitCount_0f7a4 : ByteArray := prog_11_method_49_code
def yJ6_bitCount_0f7a4 : MethodName := ⟨RJ6, "bitCount", "(I)I"⟩
def RJ9 : String := "java/lang/Math"
def TJ9 : u_T := fun k => match k with
  | _ => ("", "", "", false)
def tyJ9 : Nat → FieldType := fun k => match k with
  | _ => .int
theorem nmJ9 : ∀ a, a < 0 → ∀ b, b < 0 → a ≠ b → (TJ9 a).2.1 ≠ (TJ9 b).2.1 := by decide +kernel
theorem tyJ9_ok : ∀ k, k < 0 → parseFieldDescriptor (TJ9 k).2.2.1 = some (tyJ9 k) := by decide +kernel
abbrev cJ9_max_7cf53 : ByteArray := prog_12_method_65_code
def yJ9_max_7cf53 : MethodName := ⟨RJ9, "max", "(II)I"⟩
abbrev cJ9_min_7cf53 : ByteArray := prog_12_method_69_code
def yJ9_min_7cf53 : MethodName := ⟨RJ9, "min", "(II)I"⟩
def RJ0 : String := "java/lang/String"
def TJ0 : u_T := fun k => match k with
  | _ => ("", "", "", false)
def tyJ0 : Nat → FieldType := fun k => match k with
  | _ => .int
theorem nmJ0 : ∀ a, a < 0 → ∀ b, b < 0 → a ≠ b → (TJ0 a).2.1 ≠ (TJ0 b).2.1 := by decide +kernel
theorem tyJ0_ok : ∀ k, k < 0 → parseFieldDescriptor (TJ0 k).2.2.1 = some (tyJ0 k) := by decide +kernel
abbrev cJ0_length_8abf5 : ByteArray := prog_13_method_54_code
def yJ0_length_8abf5 : MethodName := ⟨RJ0, "length", "()I"⟩
abbrev cJ0_charAt_5068e : ByteArray := prog_13_method_56_code
def yJ0_charAt_5068e : MethodName := ⟨RJ0, "charAt", "(I)C"⟩
abbrev cJ0_coder_7d493 : ByteArray := prog_13_method_152_code
def yJ0_coder_7d493 : MethodName := ⟨RJ0, "coder", "()B"⟩
abbrev cJ0_isLatin1_aae02 : ByteArray := prog_13_method_154_code
def yJ0_isLatin1_aae02 : MethodName := ⟨RJ0, "isLatin1", "()Z"⟩
abbrev cJ0_checkIndex_df160 : ByteArray := prog_13_method_155_code
def yJ0_checkIndex_df160 : MethodName := ⟨RJ0, "checkIndex", "(II)V"⟩
def RJ1 : String := "java/lang/StringLatin1"
def TJ1 : u_T := fun k => match k with
  | _ => ("", "", "", false)
def tyJ1 : Nat → FieldType := fun k => match k with
  | _ => .int
theorem nmJ1 : ∀ a, a < 0 → ∀ b, b < 0 → a ≠ b → (TJ1 a).2.1 ≠ (TJ1 b).2.1 := by decide +kernel
theorem tyJ1_ok : ∀ k, k < 0 → parseFieldDescriptor (TJ1 k).2.2.1 = some (tyJ1 k) := by decide +kernel
abbrev cJ1_charAt_3b067 : ByteArray := prog_14_method_2_code
def yJ1_charAt_3b067 : MethodName := ⟨RJ1, "charAt", "([BI)C"⟩
def RJ2 : String := "java/lang/StringUTF16"
def TJ2 : u_T := fun k => match k with
  | _ => ("", "", "", false)
def tyJ2 : Nat → FieldType := fun k => match k with
  | _ => .int
theorem nmJ2 : ∀ a, a < 0 → ∀ b, b < 0 → a ≠ b → (TJ2 a).2.1 ≠ (TJ2 b).2.1 := by decide +kernel
theorem tyJ2_ok : ∀ k, k < 0 → parseFieldDescriptor (TJ2 k).2.2.1 = some (tyJ2 k) := by decide +kernel
abbrev cJ2_getChar_3b067 : ByteArray := prog_15_method_5_code
def yJ2_getChar_3b067 : MethodName := ⟨RJ2, "getChar", "([BI)C"⟩
abbrev cJ2_length_9d52b : ByteArray := prog_15_method_6_code
def yJ2_length_9d52b : MethodName := ⟨RJ2, "length", "([B)I"⟩
abbrev cJ2_charAt_3b067 : ByteArray := prog_15_method_83_code
def yJ2_charAt_3b067 : MethodName := ⟨RJ2, "charAt", "([BI)C"⟩
abbrev cJ2_checkIndex_2214a : ByteArray := prog_15_method_91_code
def yJ2_checkIndex_2214a : MethodName := ⟨RJ2, "checkIndex", "(I[B)V"⟩
def RJ10 : String := "java/lang/System"
def TJ10 : u_T := fun k => match k with
  | _ => ("", "", "", false)
def tyJ10 : Nat → FieldType := fun k => match k with
  | _ => .int
theorem nmJ10 : ∀ a, a < 0 → ∀ b, b < 0 → a ≠ b → (TJ10 a).2.1 ≠ (TJ10 b).2.1 := by decide +kernel
theorem tyJ10_ok : ∀ k, k < 0 → parseFieldDescriptor (TJ10 k).2.2.1 = some (tyJ10 k) := by decide +kernel
def RJ3 : String := "jdk/internal/util/Preconditions"
def TJ3 : u_T := fun k => match k with
  | _ => ("", "", "", false)
def tyJ3 : Nat → FieldType := fun k => match k with
  | _ => .int
theorem nmJ3 : ∀ a, a < 0 → ∀ b, b < 0 → a ≠ b → (TJ3 a).2.1 ≠ (TJ3 b).2.1 := by decide +kernel
theorem tyJ3_ok : ∀ k, k < 0 → parseFieldDescriptor (TJ3 k).2.2.1 = some (tyJ3 k) := by decide +kernel
abbrev cJ3_checkIndex_8e157 : ByteArray := prog_17_method_11_code
def yJ3_checkIndex_8e157 : MethodName := ⟨RJ3, "checkIndex", "(IILjava/util/function/BiFunction;)I"⟩
def RL : String := "ProvedTableLaw"
abbrev cL_law : ByteArray := code
def yL_law : MethodName := ⟨RL, "law", "([I)Z"⟩

/-- the words of the tables that hold at every call -/
def TBL : List Cond := lw_tbl.filter goodWord
theorem tbl_lw : ∀ w ∈ TBL, w ∈ lw_tbl := fun _ h => (List.mem_filter.mp h).1
theorem tbl_good : ∀ w ∈ TBL, (w.onTables && w.keeps) = true ∨ ∃ ty, w = .arrayClass ty := fun _ h => good_of_word (List.mem_filter.mp h).2
theorem tm {w : Cond} (i : Nat) (h : lw_tbl[i]? = some w) (g : goodWord w = true) : w ∈ TBL := List.mem_filter.mpr ⟨List.mem_of_getElem? h, g⟩
