section
-- ===== PART A: goes FIRST, ahead of the names: the tables' words, and 'selects' of the private methods out of them =====
/-- a private method of a class that the tables say can be made, by its rows of tables_1 -/
def lw_okq (q : MethodName × Nat) : Prop := (q.1.cls ≠ "java/lang/invoke/MethodHandle" ∧ q.1.cls ≠ "java/lang/invoke/VarHandle") ∧ Cond.instantiable q.1.cls q.2 ∈ tables_1 ∧ Cond.privateMethod q.1 ∈ tables_1 ∧ Cond.instanceMethod q.1 ∈ tables_1
theorem lw_p0 : lw_okq (⟨"ProvedTable$Reader", "advance", "()V"⟩, 8) := ⟨⟨by decide +kernel, by decide +kernel⟩, List.mem_of_getElem? (i := 26) (by decide +kernel), List.mem_of_getElem? (i := 324) (by decide +kernel), List.mem_of_getElem? (i := 325) (by decide +kernel)⟩
theorem lw_p1 : lw_okq (⟨"ProvedTable$Reader", "kindAt", "(I)I"⟩, 8) := ⟨⟨by decide +kernel, by decide +kernel⟩, List.mem_of_getElem? (i := 26) (by decide +kernel), List.mem_of_getElem? (i := 328) (by decide +kernel), List.mem_of_getElem? (i := 329) (by decide +kernel)⟩
theorem lw_p2 : lw_okq (⟨"ProvedTable$Reader", "readLine", "(LProvedTable$Table;)Z"⟩, 8) := ⟨⟨by decide +kernel, by decide +kernel⟩, List.mem_of_getElem? (i := 26) (by decide +kernel), List.mem_of_getElem? (i := 336) (by decide +kernel), List.mem_of_getElem? (i := 337) (by decide +kernel)⟩
theorem lw_p3 : lw_okq (⟨"ProvedTable$Reader", "readHead", "(LProvedTable$Table;)Z"⟩, 8) := ⟨⟨by decide +kernel, by decide +kernel⟩, List.mem_of_getElem? (i := 26) (by decide +kernel), List.mem_of_getElem? (i := 340) (by decide +kernel), List.mem_of_getElem? (i := 341) (by decide +kernel)⟩
theorem lw_p4 : lw_okq (⟨"ProvedTable$Reader", "readWord", "(Ljava/lang/String;)Z"⟩, 8) := ⟨⟨by decide +kernel, by decide +kernel⟩, List.mem_of_getElem? (i := 26) (by decide +kernel), List.mem_of_getElem? (i := 345) (by decide +kernel), List.mem_of_getElem? (i := 346) (by decide +kernel)⟩
theorem lw_p5 : lw_okq (⟨"ProvedTable$Reader", "isWord", "(Ljava/lang/String;)Z"⟩, 8) := ⟨⟨by decide +kernel, by decide +kernel⟩, List.mem_of_getElem? (i := 26) (by decide +kernel), List.mem_of_getElem? (i := 349) (by decide +kernel), List.mem_of_getElem? (i := 350) (by decide +kernel)⟩
theorem lw_p6 : lw_okq (⟨"ProvedTable$Reader", "fail", "(I)Z"⟩, 8) := ⟨⟨by decide +kernel, by decide +kernel⟩, List.mem_of_getElem? (i := 26) (by decide +kernel), List.mem_of_getElem? (i := 401) (by decide +kernel), List.mem_of_getElem? (i := 402) (by decide +kernel)⟩
theorem lw_p7 : lw_okq (⟨"ProvedTable$Reader", "readNamed", "(Ljava/lang/String;II)I"⟩, 8) := ⟨⟨by decide +kernel, by decide +kernel⟩, List.mem_of_getElem? (i := 26) (by decide +kernel), List.mem_of_getElem? (i := 406) (by decide +kernel), List.mem_of_getElem? (i := 407) (by decide +kernel)⟩
theorem lw_p8 : lw_okq (⟨"ProvedTable$Reader", "readNumber", "(II)I"⟩, 8) := ⟨⟨by decide +kernel, by decide +kernel⟩, List.mem_of_getElem? (i := 26) (by decide +kernel), List.mem_of_getElem? (i := 410) (by decide +kernel), List.mem_of_getElem? (i := 411) (by decide +kernel)⟩
theorem lw_p9 : lw_okq (⟨"ProvedTable$Reader", "readClaim", "(LProvedTable$Table;)Z"⟩, 8) := ⟨⟨by decide +kernel, by decide +kernel⟩, List.mem_of_getElem? (i := 26) (by decide +kernel), List.mem_of_getElem? (i := 417) (by decide +kernel), List.mem_of_getElem? (i := 418) (by decide +kernel)⟩
theorem lw_p10 : lw_okq (⟨"ProvedTable$Reader", "readForm", "(LProvedTable$Table;I)I"⟩, 8) := ⟨⟨by decide +kernel, by decide +kernel⟩, List.mem_of_getElem? (i := 26) (by decide +kernel), List.mem_of_getElem? (i := 422) (by decide +kernel), List.mem_of_getElem? (i := 423) (by decide +kernel)⟩
theorem lw_p11 : lw_okq (⟨"ProvedTable$Reader", "worldsOfLeaf", "(LProvedTable$Table;)I"⟩, 8) := ⟨⟨by decide +kernel, by decide +kernel⟩, List.mem_of_getElem? (i := 26) (by decide +kernel), List.mem_of_getElem? (i := 426) (by decide +kernel), List.mem_of_getElem? (i := 427) (by decide +kernel)⟩
theorem lw_p12 : lw_okq (⟨"ProvedTable$Reader", "operatorHere", "()I"⟩, 8) := ⟨⟨by decide +kernel, by decide +kernel⟩, List.mem_of_getElem? (i := 26) (by decide +kernel), List.mem_of_getElem? (i := 440) (by decide +kernel), List.mem_of_getElem? (i := 441) (by decide +kernel)⟩
theorem lw_p13 : lw_okq (⟨"ProvedTable$Reader", "readParts", "(LProvedTable$Table;II)I"⟩, 8) := ⟨⟨by decide +kernel, by decide +kernel⟩, List.mem_of_getElem? (i := 26) (by decide +kernel), List.mem_of_getElem? (i := 448) (by decide +kernel), List.mem_of_getElem? (i := 449) (by decide +kernel)⟩
theorem lw_p14 : lw_okq (⟨"ProvedTable$Reader", "readSalt", "(LProvedTable$Table;)Z"⟩, 8) := ⟨⟨by decide +kernel, by decide +kernel⟩, List.mem_of_getElem? (i := 26) (by decide +kernel), List.mem_of_getElem? (i := 453) (by decide +kernel), List.mem_of_getElem? (i := 454) (by decide +kernel)⟩
theorem lw_p15 : lw_okq (⟨"ProvedTable$Reader", "isNumberOf", "(I)Z"⟩, 8) := ⟨⟨by decide +kernel, by decide +kernel⟩, List.mem_of_getElem? (i := 26) (by decide +kernel), List.mem_of_getElem? (i := 457) (by decide +kernel), List.mem_of_getElem? (i := 458) (by decide +kernel)⟩
def lw_privs_1 : List (MethodName × Nat) := [(⟨"ProvedTable$Reader", "advance", "()V"⟩, 8), (⟨"ProvedTable$Reader", "kindAt", "(I)I"⟩, 8), (⟨"ProvedTable$Reader", "readLine", "(LProvedTable$Table;)Z"⟩, 8), (⟨"ProvedTable$Reader", "readHead", "(LProvedTable$Table;)Z"⟩, 8), (⟨"ProvedTable$Reader", "readWord", "(Ljava/lang/String;)Z"⟩, 8), (⟨"ProvedTable$Reader", "isWord", "(Ljava/lang/String;)Z"⟩, 8), (⟨"ProvedTable$Reader", "fail", "(I)Z"⟩, 8), (⟨"ProvedTable$Reader", "readNamed", "(Ljava/lang/String;II)I"⟩, 8), (⟨"ProvedTable$Reader", "readNumber", "(II)I"⟩, 8), (⟨"ProvedTable$Reader", "readClaim", "(LProvedTable$Table;)Z"⟩, 8), (⟨"ProvedTable$Reader", "readForm", "(LProvedTable$Table;I)I"⟩, 8), (⟨"ProvedTable$Reader", "worldsOfLeaf", "(LProvedTable$Table;)I"⟩, 8), (⟨"ProvedTable$Reader", "operatorHere", "()I"⟩, 8), (⟨"ProvedTable$Reader", "readParts", "(LProvedTable$Table;II)I"⟩, 8), (⟨"ProvedTable$Reader", "readSalt", "(LProvedTable$Table;)Z"⟩, 8), (⟨"ProvedTable$Reader", "isNumberOf", "(I)Z"⟩, 8)]
theorem lw_r1 : ∀ q ∈ lw_privs_1, lw_okq q := List.forall_mem_cons.mpr ⟨lw_p0, List.forall_mem_cons.mpr ⟨lw_p1, List.forall_mem_cons.mpr ⟨lw_p2, List.forall_mem_cons.mpr ⟨lw_p3, List.forall_mem_cons.mpr ⟨lw_p4, List.forall_mem_cons.mpr ⟨lw_p5, List.forall_mem_cons.mpr ⟨lw_p6, List.forall_mem_cons.mpr ⟨lw_p7, List.forall_mem_cons.mpr ⟨lw_p8, List.forall_mem_cons.mpr ⟨lw_p9, List.forall_mem_cons.mpr ⟨lw_p10, List.forall_mem_cons.mpr ⟨lw_p11, List.forall_mem_cons.mpr ⟨lw_p12, List.forall_mem_cons.mpr ⟨lw_p13, List.forall_mem_cons.mpr ⟨lw_p14, List.forall_mem_cons.mpr ⟨lw_p15, fun _ h => absurd h List.not_mem_nil⟩⟩⟩⟩⟩⟩⟩⟩⟩⟩⟩⟩⟩⟩⟩⟩
theorem lw_p16 : lw_okq (⟨"ProvedTable$Reader", "readStep", "(LProvedTable$Table;)Z"⟩, 8) := ⟨⟨by decide +kernel, by decide +kernel⟩, List.mem_of_getElem? (i := 26) (by decide +kernel), List.mem_of_getElem? (i := 462) (by decide +kernel), List.mem_of_getElem? (i := 463) (by decide +kernel)⟩
theorem lw_p17 : lw_okq (⟨"ProvedTable$Reader", "readSet", "(II)I"⟩, 8) := ⟨⟨by decide +kernel, by decide +kernel⟩, List.mem_of_getElem? (i := 26) (by decide +kernel), List.mem_of_getElem? (i := 467) (by decide +kernel), List.mem_of_getElem? (i := 468) (by decide +kernel)⟩
theorem lw_p18 : lw_okq (⟨"ProvedTable$Reader", "readGuest", "(LProvedTable$Table;)Z"⟩, 8) := ⟨⟨by decide +kernel, by decide +kernel⟩, List.mem_of_getElem? (i := 26) (by decide +kernel), List.mem_of_getElem? (i := 482) (by decide +kernel), List.mem_of_getElem? (i := 483) (by decide +kernel)⟩
theorem lw_p19 : lw_okq (⟨"ProvedTable$Reader", "readSign", "()Z"⟩, 8) := ⟨⟨by decide +kernel, by decide +kernel⟩, List.mem_of_getElem? (i := 26) (by decide +kernel), List.mem_of_getElem? (i := 488) (by decide +kernel), List.mem_of_getElem? (i := 489) (by decide +kernel)⟩
theorem lw_p20 : lw_okq (⟨"ProvedTable", "provedByAll", "()I"⟩, 12) := ⟨⟨by decide +kernel, by decide +kernel⟩, List.mem_of_getElem? (i := 18) (by decide +kernel), List.mem_of_getElem? (i := 592) (by decide +kernel), List.mem_of_getElem? (i := 593) (by decide +kernel)⟩
theorem lw_p21 : lw_okq (⟨"ProvedTable", "freshProofs", "()LProvedTable$Sheet;"⟩, 12) := ⟨⟨by decide +kernel, by decide +kernel⟩, List.mem_of_getElem? (i := 18) (by decide +kernel), List.mem_of_getElem? (i := 596) (by decide +kernel), List.mem_of_getElem? (i := 597) (by decide +kernel)⟩
theorem lw_p22 : lw_okq (⟨"ProvedTable", "refusalOfSteps", "(I)I"⟩, 12) := ⟨⟨by decide +kernel, by decide +kernel⟩, List.mem_of_getElem? (i := 18) (by decide +kernel), List.mem_of_getElem? (i := 644) (by decide +kernel), List.mem_of_getElem? (i := 645) (by decide +kernel)⟩
theorem lw_p23 : lw_okq (⟨"ProvedTable", "refusalOfSlot", "(I)I"⟩, 12) := ⟨⟨by decide +kernel, by decide +kernel⟩, List.mem_of_getElem? (i := 18) (by decide +kernel), List.mem_of_getElem? (i := 648) (by decide +kernel), List.mem_of_getElem? (i := 649) (by decide +kernel)⟩
theorem lw_p24 : lw_okq (⟨"ProvedTable$Reading", "reasonAgainst", "(LProvedTable$Table;I)I"⟩, 4) := ⟨⟨by decide +kernel, by decide +kernel⟩, List.mem_of_getElem? (i := 195) (by decide +kernel), List.mem_of_getElem? (i := 663) (by decide +kernel), List.mem_of_getElem? (i := 664) (by decide +kernel)⟩
theorem lw_p25 : lw_okq (⟨"ProvedTable$Reading", "usedForAll", "(LProvedTable$Table;I)I"⟩, 4) := ⟨⟨by decide +kernel, by decide +kernel⟩, List.mem_of_getElem? (i := 195) (by decide +kernel), List.mem_of_getElem? (i := 667) (by decide +kernel), List.mem_of_getElem? (i := 668) (by decide +kernel)⟩
theorem lw_p26 : lw_okq (⟨"ProvedTable", "shortestSet", "(I)I"⟩, 12) := ⟨⟨by decide +kernel, by decide +kernel⟩, List.mem_of_getElem? (i := 18) (by decide +kernel), List.mem_of_getElem? (i := 706) (by decide +kernel), List.mem_of_getElem? (i := 707) (by decide +kernel)⟩
theorem lw_p27 : lw_okq (⟨"ProvedTable$Sheet", "isLeast", "(II)Z"⟩, 1) := ⟨⟨by decide +kernel, by decide +kernel⟩, List.mem_of_getElem? (i := 184) (by decide +kernel), List.mem_of_getElem? (i := 737) (by decide +kernel), List.mem_of_getElem? (i := 738) (by decide +kernel)⟩
theorem lw_p28 : lw_okq (⟨"ProvedTable", "provedWithout", "(I)I"⟩, 12) := ⟨⟨by decide +kernel, by decide +kernel⟩, List.mem_of_getElem? (i := 18) (by decide +kernel), List.mem_of_getElem? (i := 745) (by decide +kernel), List.mem_of_getElem? (i := 746) (by decide +kernel)⟩
theorem lw_p29 : lw_okq (⟨"ProvedTable", "menuWorth", "(II)I"⟩, 12) := ⟨⟨by decide +kernel, by decide +kernel⟩, List.mem_of_getElem? (i := 18) (by decide +kernel), List.mem_of_getElem? (i := 757) (by decide +kernel), List.mem_of_getElem? (i := 758) (by decide +kernel)⟩
theorem lw_p30 : lw_okq (⟨"ProvedTable", "menuSet", "(II)I"⟩, 12) := ⟨⟨by decide +kernel, by decide +kernel⟩, List.mem_of_getElem? (i := 18) (by decide +kernel), List.mem_of_getElem? (i := 761) (by decide +kernel), List.mem_of_getElem? (i := 762) (by decide +kernel)⟩
theorem lw_p31 : lw_okq (⟨"ProvedTable", "guestsProving", "(I)I"⟩, 12) := ⟨⟨by decide +kernel, by decide +kernel⟩, List.mem_of_getElem? (i := 18) (by decide +kernel), List.mem_of_getElem? (i := 792) (by decide +kernel), List.mem_of_getElem? (i := 793) (by decide +kernel)⟩
def lw_privs_2 : List (MethodName × Nat) := [(⟨"ProvedTable$Reader", "readStep", "(LProvedTable$Table;)Z"⟩, 8), (⟨"ProvedTable$Reader", "readSet", "(II)I"⟩, 8), (⟨"ProvedTable$Reader", "readGuest", "(LProvedTable$Table;)Z"⟩, 8), (⟨"ProvedTable$Reader", "readSign", "()Z"⟩, 8), (⟨"ProvedTable", "provedByAll", "()I"⟩, 12), (⟨"ProvedTable", "freshProofs", "()LProvedTable$Sheet;"⟩, 12), (⟨"ProvedTable", "refusalOfSteps", "(I)I"⟩, 12), (⟨"ProvedTable", "refusalOfSlot", "(I)I"⟩, 12), (⟨"ProvedTable$Reading", "reasonAgainst", "(LProvedTable$Table;I)I"⟩, 4), (⟨"ProvedTable$Reading", "usedForAll", "(LProvedTable$Table;I)I"⟩, 4), (⟨"ProvedTable", "shortestSet", "(I)I"⟩, 12), (⟨"ProvedTable$Sheet", "isLeast", "(II)Z"⟩, 1), (⟨"ProvedTable", "provedWithout", "(I)I"⟩, 12), (⟨"ProvedTable", "menuWorth", "(II)I"⟩, 12), (⟨"ProvedTable", "menuSet", "(II)I"⟩, 12), (⟨"ProvedTable", "guestsProving", "(I)I"⟩, 12)]
theorem lw_r2 : ∀ q ∈ lw_privs_2, lw_okq q := List.forall_mem_cons.mpr ⟨lw_p16, List.forall_mem_cons.mpr ⟨lw_p17, List.forall_mem_cons.mpr ⟨lw_p18, List.forall_mem_cons.mpr ⟨lw_p19, List.forall_mem_cons.mpr ⟨lw_p20, List.forall_mem_cons.mpr ⟨lw_p21, List.forall_mem_cons.mpr ⟨lw_p22, List.forall_mem_cons.mpr ⟨lw_p23, List.forall_mem_cons.mpr ⟨lw_p24, List.forall_mem_cons.mpr ⟨lw_p25, List.forall_mem_cons.mpr ⟨lw_p26, List.forall_mem_cons.mpr ⟨lw_p27, List.forall_mem_cons.mpr ⟨lw_p28, List.forall_mem_cons.mpr ⟨lw_p29, List.forall_mem_cons.mpr ⟨lw_p30, List.forall_mem_cons.mpr ⟨lw_p31, fun _ h => absurd h List.not_mem_nil⟩⟩⟩⟩⟩⟩⟩⟩⟩⟩⟩⟩⟩⟩⟩⟩
theorem lw_p32 : lw_okq (⟨"ProvedTable", "worthWithLemma", "(II)I"⟩, 12) := ⟨⟨by decide +kernel, by decide +kernel⟩, List.mem_of_getElem? (i := 18) (by decide +kernel), List.mem_of_getElem? (i := 808) (by decide +kernel), List.mem_of_getElem? (i := 809) (by decide +kernel)⟩
theorem lw_p33 : lw_okq (⟨"ProvedTable", "doesTeamProve", "(II)Z"⟩, 12) := ⟨⟨by decide +kernel, by decide +kernel⟩, List.mem_of_getElem? (i := 18) (by decide +kernel), List.mem_of_getElem? (i := 830) (by decide +kernel), List.mem_of_getElem? (i := 831) (by decide +kernel)⟩
theorem lw_p34 : lw_okq (⟨"ProvedTable", "leastTeam", "(I)I"⟩, 12) := ⟨⟨by decide +kernel, by decide +kernel⟩, List.mem_of_getElem? (i := 18) (by decide +kernel), List.mem_of_getElem? (i := 842) (by decide +kernel), List.mem_of_getElem? (i := 843) (by decide +kernel)⟩
theorem lw_p35 : lw_okq (⟨"ProvedTable", "refusalOfPairs", "(I)I"⟩, 12) := ⟨⟨by decide +kernel, by decide +kernel⟩, List.mem_of_getElem? (i := 18) (by decide +kernel), List.mem_of_getElem? (i := 869) (by decide +kernel), List.mem_of_getElem? (i := 870) (by decide +kernel)⟩
theorem lw_p36 : lw_okq (⟨"ProvedTable$Kitchen", "open", "(LProvedTable$Table;)V"⟩, 7) := ⟨⟨by decide +kernel, by decide +kernel⟩, List.mem_of_getElem? (i := 218) (by decide +kernel), List.mem_of_getElem? (i := 881) (by decide +kernel), List.mem_of_getElem? (i := 882) (by decide +kernel)⟩
theorem lw_p37 : lw_okq (⟨"ProvedTable$Kitchen", "cookPair", "(LProvedTable$Table;II)Z"⟩, 7) := ⟨⟨by decide +kernel, by decide +kernel⟩, List.mem_of_getElem? (i := 218) (by decide +kernel), List.mem_of_getElem? (i := 885) (by decide +kernel), List.mem_of_getElem? (i := 886) (by decide +kernel)⟩
theorem lw_p38 : lw_okq (⟨"ProvedTable$Kitchen", "hourOfAll", "(LProvedTable$Table;I)I"⟩, 7) := ⟨⟨by decide +kernel, by decide +kernel⟩, List.mem_of_getElem? (i := 218) (by decide +kernel), List.mem_of_getElem? (i := 889) (by decide +kernel), List.mem_of_getElem? (i := 890) (by decide +kernel)⟩
theorem lw_p39 : lw_okq (⟨"ProvedTable$Kitchen", "give", "(III)V"⟩, 7) := ⟨⟨by decide +kernel, by decide +kernel⟩, List.mem_of_getElem? (i := 218) (by decide +kernel), List.mem_of_getElem? (i := 896) (by decide +kernel), List.mem_of_getElem? (i := 897) (by decide +kernel)⟩
theorem lw_p40 : lw_okq (⟨"ProvedTable", "lengthOfDuel", "()I"⟩, 12) := ⟨⟨by decide +kernel, by decide +kernel⟩, List.mem_of_getElem? (i := 18) (by decide +kernel), List.mem_of_getElem? (i := 916) (by decide +kernel), List.mem_of_getElem? (i := 917) (by decide +kernel)⟩
theorem lw_p41 : lw_okq (⟨"ProvedTable", "coreSet", "()I"⟩, 12) := ⟨⟨by decide +kernel, by decide +kernel⟩, List.mem_of_getElem? (i := 18) (by decide +kernel), List.mem_of_getElem? (i := 936) (by decide +kernel), List.mem_of_getElem? (i := 937) (by decide +kernel)⟩
theorem lw_p42 : lw_okq (⟨"ProvedTable", "leastSaltFor", "(I)I"⟩, 12) := ⟨⟨by decide +kernel, by decide +kernel⟩, List.mem_of_getElem? (i := 18) (by decide +kernel), List.mem_of_getElem? (i := 988) (by decide +kernel), List.mem_of_getElem? (i := 989) (by decide +kernel)⟩
theorem lw_p43 : lw_okq (⟨"ProvedTable", "refusalOfDishes", "(I)I"⟩, 12) := ⟨⟨by decide +kernel, by decide +kernel⟩, List.mem_of_getElem? (i := 18) (by decide +kernel), List.mem_of_getElem? (i := 1012) (by decide +kernel), List.mem_of_getElem? (i := 1013) (by decide +kernel)⟩
theorem lw_p44 : lw_okq (⟨"ProvedTable", "rowsThere", "()I"⟩, 12) := ⟨⟨by decide +kernel, by decide +kernel⟩, List.mem_of_getElem? (i := 18) (by decide +kernel), List.mem_of_getElem? (i := 1074) (by decide +kernel), List.mem_of_getElem? (i := 1075) (by decide +kernel)⟩
theorem lw_p45 : lw_okq (⟨"ProvedTableModel", "advance", "()V"⟩, 34) := ⟨⟨by decide +kernel, by decide +kernel⟩, List.mem_of_getElem? (i := 1107) (by decide +kernel), List.mem_of_getElem? (i := 1243) (by decide +kernel), List.mem_of_getElem? (i := 1244) (by decide +kernel)⟩
theorem lw_p46 : lw_okq (⟨"ProvedTableModel", "see", "(I)I"⟩, 34) := ⟨⟨by decide +kernel, by decide +kernel⟩, List.mem_of_getElem? (i := 1107) (by decide +kernel), List.mem_of_getElem? (i := 1247) (by decide +kernel), List.mem_of_getElem? (i := 1248) (by decide +kernel)⟩
theorem lw_p47 : lw_okq (⟨"ProvedTableModel", "good", "()Z"⟩, 34) := ⟨⟨by decide +kernel, by decide +kernel⟩, List.mem_of_getElem? (i := 1107) (by decide +kernel), List.mem_of_getElem? (i := 1257) (by decide +kernel), List.mem_of_getElem? (i := 1258) (by decide +kernel)⟩
def lw_privs_3 : List (MethodName × Nat) := [(⟨"ProvedTable", "worthWithLemma", "(II)I"⟩, 12), (⟨"ProvedTable", "doesTeamProve", "(II)Z"⟩, 12), (⟨"ProvedTable", "leastTeam", "(I)I"⟩, 12), (⟨"ProvedTable", "refusalOfPairs", "(I)I"⟩, 12), (⟨"ProvedTable$Kitchen", "open", "(LProvedTable$Table;)V"⟩, 7), (⟨"ProvedTable$Kitchen", "cookPair", "(LProvedTable$Table;II)Z"⟩, 7), (⟨"ProvedTable$Kitchen", "hourOfAll", "(LProvedTable$Table;I)I"⟩, 7), (⟨"ProvedTable$Kitchen", "give", "(III)V"⟩, 7), (⟨"ProvedTable", "lengthOfDuel", "()I"⟩, 12), (⟨"ProvedTable", "coreSet", "()I"⟩, 12), (⟨"ProvedTable", "leastSaltFor", "(I)I"⟩, 12), (⟨"ProvedTable", "refusalOfDishes", "(I)I"⟩, 12), (⟨"ProvedTable", "rowsThere", "()I"⟩, 12), (⟨"ProvedTableModel", "advance", "()V"⟩, 34), (⟨"ProvedTableModel", "see", "(I)I"⟩, 34), (⟨"ProvedTableModel", "good", "()Z"⟩, 34)]
theorem lw_r3 : ∀ q ∈ lw_privs_3, lw_okq q := List.forall_mem_cons.mpr ⟨lw_p32, List.forall_mem_cons.mpr ⟨lw_p33, List.forall_mem_cons.mpr ⟨lw_p34, List.forall_mem_cons.mpr ⟨lw_p35, List.forall_mem_cons.mpr ⟨lw_p36, List.forall_mem_cons.mpr ⟨lw_p37, List.forall_mem_cons.mpr ⟨lw_p38, List.forall_mem_cons.mpr ⟨lw_p39, List.forall_mem_cons.mpr ⟨lw_p40, List.forall_mem_cons.mpr ⟨lw_p41, List.forall_mem_cons.mpr ⟨lw_p42, List.forall_mem_cons.mpr ⟨lw_p43, List.forall_mem_cons.mpr ⟨lw_p44, List.forall_mem_cons.mpr ⟨lw_p45, List.forall_mem_cons.mpr ⟨lw_p46, List.forall_mem_cons.mpr ⟨lw_p47, fun _ h => absurd h List.not_mem_nil⟩⟩⟩⟩⟩⟩⟩⟩⟩⟩⟩⟩⟩⟩⟩⟩
theorem lw_p48 : lw_okq (⟨"ProvedTableModel", "readLine", "()V"⟩, 34) := ⟨⟨by decide +kernel, by decide +kernel⟩, List.mem_of_getElem? (i := 1107) (by decide +kernel), List.mem_of_getElem? (i := 1261) (by decide +kernel), List.mem_of_getElem? (i := 1262) (by decide +kernel)⟩
theorem lw_p49 : lw_okq (⟨"ProvedTableModel", "needs", "(Ljava/lang/String;)V"⟩, 34) := ⟨⟨by decide +kernel, by decide +kernel⟩, List.mem_of_getElem? (i := 1107) (by decide +kernel), List.mem_of_getElem? (i := 1266) (by decide +kernel), List.mem_of_getElem? (i := 1267) (by decide +kernel)⟩
theorem lw_p50 : lw_okq (⟨"ProvedTableModel", "takes", "(Ljava/lang/String;)Z"⟩, 34) := ⟨⟨by decide +kernel, by decide +kernel⟩, List.mem_of_getElem? (i := 1107) (by decide +kernel), List.mem_of_getElem? (i := 1270) (by decide +kernel), List.mem_of_getElem? (i := 1271) (by decide +kernel)⟩
theorem lw_p51 : lw_okq (⟨"ProvedTableModel", "is", "(Ljava/lang/String;)Z"⟩, 34) := ⟨⟨by decide +kernel, by decide +kernel⟩, List.mem_of_getElem? (i := 1107) (by decide +kernel), List.mem_of_getElem? (i := 1274) (by decide +kernel), List.mem_of_getElem? (i := 1275) (by decide +kernel)⟩
theorem lw_p52 : lw_okq (⟨"ProvedTableModel", "errs", "(I)V"⟩, 34) := ⟨⟨by decide +kernel, by decide +kernel⟩, List.mem_of_getElem? (i := 1107) (by decide +kernel), List.mem_of_getElem? (i := 1280) (by decide +kernel), List.mem_of_getElem? (i := 1281) (by decide +kernel)⟩
theorem lw_p53 : lw_okq (⟨"ProvedTableModel", "told", "(Ljava/lang/String;II)I"⟩, 34) := ⟨⟨by decide +kernel, by decide +kernel⟩, List.mem_of_getElem? (i := 1107) (by decide +kernel), List.mem_of_getElem? (i := 1285) (by decide +kernel), List.mem_of_getElem? (i := 1286) (by decide +kernel)⟩
theorem lw_p54 : lw_okq (⟨"ProvedTableModel", "number", "(II)I"⟩, 34) := ⟨⟨by decide +kernel, by decide +kernel⟩, List.mem_of_getElem? (i := 1107) (by decide +kernel), List.mem_of_getElem? (i := 1289) (by decide +kernel), List.mem_of_getElem? (i := 1290) (by decide +kernel)⟩
theorem lw_p55 : lw_okq (⟨"ProvedTableModel", "readNext", "()V"⟩, 34) := ⟨⟨by decide +kernel, by decide +kernel⟩, List.mem_of_getElem? (i := 1107) (by decide +kernel), List.mem_of_getElem? (i := 1295) (by decide +kernel), List.mem_of_getElem? (i := 1296) (by decide +kernel)⟩
theorem lw_p56 : lw_okq (⟨"ProvedTableModel", "readClaim", "()V"⟩, 34) := ⟨⟨by decide +kernel, by decide +kernel⟩, List.mem_of_getElem? (i := 1107) (by decide +kernel), List.mem_of_getElem? (i := 1303) (by decide +kernel), List.mem_of_getElem? (i := 1304) (by decide +kernel)⟩
theorem lw_p57 : lw_okq (⟨"ProvedTableModel", "form", "()I"⟩, 34) := ⟨⟨by decide +kernel, by decide +kernel⟩, List.mem_of_getElem? (i := 1107) (by decide +kernel), List.mem_of_getElem? (i := 1308) (by decide +kernel), List.mem_of_getElem? (i := 1309) (by decide +kernel)⟩
theorem lw_p58 : lw_okq (⟨"ProvedTableModel", "formWord", "()I"⟩, 34) := ⟨⟨by decide +kernel, by decide +kernel⟩, List.mem_of_getElem? (i := 1107) (by decide +kernel), List.mem_of_getElem? (i := 1312) (by decide +kernel), List.mem_of_getElem? (i := 1313) (by decide +kernel)⟩
theorem lw_p59 : lw_okq (⟨"ProvedTableModel", "freshAll", "()I"⟩, 34) := ⟨⟨by decide +kernel, by decide +kernel⟩, List.mem_of_getElem? (i := 1107) (by decide +kernel), List.mem_of_getElem? (i := 1321) (by decide +kernel), List.mem_of_getElem? (i := 1322) (by decide +kernel)⟩
theorem lw_p60 : lw_okq (⟨"ProvedTableModel", "atomWorlds", "(I)I"⟩, 34) := ⟨⟨by decide +kernel, by decide +kernel⟩, List.mem_of_getElem? (i := 1107) (by decide +kernel), List.mem_of_getElem? (i := 1326) (by decide +kernel), List.mem_of_getElem? (i := 1327) (by decide +kernel)⟩
theorem lw_p61 : lw_okq (⟨"ProvedTableModel", "joined", "(III)I"⟩, 34) := ⟨⟨by decide +kernel, by decide +kernel⟩, List.mem_of_getElem? (i := 1107) (by decide +kernel), List.mem_of_getElem? (i := 1333) (by decide +kernel), List.mem_of_getElem? (i := 1334) (by decide +kernel)⟩
theorem lw_p62 : lw_okq (⟨"ProvedTableModel", "readSalt", "()V"⟩, 34) := ⟨⟨by decide +kernel, by decide +kernel⟩, List.mem_of_getElem? (i := 1107) (by decide +kernel), List.mem_of_getElem? (i := 1337) (by decide +kernel), List.mem_of_getElem? (i := 1338) (by decide +kernel)⟩
theorem lw_p63 : lw_okq (⟨"ProvedTableModel", "isNextIn", "(I)Z"⟩, 34) := ⟨⟨by decide +kernel, by decide +kernel⟩, List.mem_of_getElem? (i := 1107) (by decide +kernel), List.mem_of_getElem? (i := 1341) (by decide +kernel), List.mem_of_getElem? (i := 1342) (by decide +kernel)⟩
def lw_privs_4 : List (MethodName × Nat) := [(⟨"ProvedTableModel", "readLine", "()V"⟩, 34), (⟨"ProvedTableModel", "needs", "(Ljava/lang/String;)V"⟩, 34), (⟨"ProvedTableModel", "takes", "(Ljava/lang/String;)Z"⟩, 34), (⟨"ProvedTableModel", "is", "(Ljava/lang/String;)Z"⟩, 34), (⟨"ProvedTableModel", "errs", "(I)V"⟩, 34), (⟨"ProvedTableModel", "told", "(Ljava/lang/String;II)I"⟩, 34), (⟨"ProvedTableModel", "number", "(II)I"⟩, 34), (⟨"ProvedTableModel", "readNext", "()V"⟩, 34), (⟨"ProvedTableModel", "readClaim", "()V"⟩, 34), (⟨"ProvedTableModel", "form", "()I"⟩, 34), (⟨"ProvedTableModel", "formWord", "()I"⟩, 34), (⟨"ProvedTableModel", "freshAll", "()I"⟩, 34), (⟨"ProvedTableModel", "atomWorlds", "(I)I"⟩, 34), (⟨"ProvedTableModel", "joined", "(III)I"⟩, 34), (⟨"ProvedTableModel", "readSalt", "()V"⟩, 34), (⟨"ProvedTableModel", "isNextIn", "(I)Z"⟩, 34)]
theorem lw_r4 : ∀ q ∈ lw_privs_4, lw_okq q := List.forall_mem_cons.mpr ⟨lw_p48, List.forall_mem_cons.mpr ⟨lw_p49, List.forall_mem_cons.mpr ⟨lw_p50, List.forall_mem_cons.mpr ⟨lw_p51, List.forall_mem_cons.mpr ⟨lw_p52, List.forall_mem_cons.mpr ⟨lw_p53, List.forall_mem_cons.mpr ⟨lw_p54, List.forall_mem_cons.mpr ⟨lw_p55, List.forall_mem_cons.mpr ⟨lw_p56, List.forall_mem_cons.mpr ⟨lw_p57, List.forall_mem_cons.mpr ⟨lw_p58, List.forall_mem_cons.mpr ⟨lw_p59, List.forall_mem_cons.mpr ⟨lw_p60, List.forall_mem_cons.mpr ⟨lw_p61, List.forall_mem_cons.mpr ⟨lw_p62, List.forall_mem_cons.mpr ⟨lw_p63, fun _ h => absurd h List.not_mem_nil⟩⟩⟩⟩⟩⟩⟩⟩⟩⟩⟩⟩⟩⟩⟩⟩
theorem lw_p64 : lw_okq (⟨"ProvedTableModel", "freshClaim", "()I"⟩, 34) := ⟨⟨by decide +kernel, by decide +kernel⟩, List.mem_of_getElem? (i := 1107) (by decide +kernel), List.mem_of_getElem? (i := 1345) (by decide +kernel), List.mem_of_getElem? (i := 1346) (by decide +kernel)⟩
theorem lw_p65 : lw_okq (⟨"ProvedTableModel", "readStep", "()V"⟩, 34) := ⟨⟨by decide +kernel, by decide +kernel⟩, List.mem_of_getElem? (i := 1107) (by decide +kernel), List.mem_of_getElem? (i := 1349) (by decide +kernel), List.mem_of_getElem? (i := 1350) (by decide +kernel)⟩
theorem lw_p66 : lw_okq (⟨"ProvedTableModel", "readGuest", "()V"⟩, 34) := ⟨⟨by decide +kernel, by decide +kernel⟩, List.mem_of_getElem? (i := 1107) (by decide +kernel), List.mem_of_getElem? (i := 1354) (by decide +kernel), List.mem_of_getElem? (i := 1355) (by decide +kernel)⟩
theorem lw_p67 : lw_okq (⟨"ProvedTableModel", "isClaim", "(J)Z"⟩, 34) := ⟨⟨by decide +kernel, by decide +kernel⟩, List.mem_of_getElem? (i := 1107) (by decide +kernel), List.mem_of_getElem? (i := 1364) (by decide +kernel), List.mem_of_getElem? (i := 1365) (by decide +kernel)⟩
theorem lw_p68 : lw_okq (⟨"ProvedTableModel", "ofClaim", "(II)I"⟩, 34) := ⟨⟨by decide +kernel, by decide +kernel⟩, List.mem_of_getElem? (i := 1107) (by decide +kernel), List.mem_of_getElem? (i := 1368) (by decide +kernel), List.mem_of_getElem? (i := 1369) (by decide +kernel)⟩
theorem lw_p69 : lw_okq (⟨"ProvedTableModel", "isStep", "(J)Z"⟩, 34) := ⟨⟨by decide +kernel, by decide +kernel⟩, List.mem_of_getElem? (i := 1107) (by decide +kernel), List.mem_of_getElem? (i := 1387) (by decide +kernel), List.mem_of_getElem? (i := 1388) (by decide +kernel)⟩
theorem lw_p70 : lw_okq (⟨"ProvedTableModel", "ofStep", "(II)I"⟩, 34) := ⟨⟨by decide +kernel, by decide +kernel⟩, List.mem_of_getElem? (i := 1107) (by decide +kernel), List.mem_of_getElem? (i := 1391) (by decide +kernel), List.mem_of_getElem? (i := 1392) (by decide +kernel)⟩
theorem lw_p71 : lw_okq (⟨"ProvedTableModel", "falseIn", "(I)I"⟩, 34) := ⟨⟨by decide +kernel, by decide +kernel⟩, List.mem_of_getElem? (i := 1107) (by decide +kernel), List.mem_of_getElem? (i := 1395) (by decide +kernel), List.mem_of_getElem? (i := 1396) (by decide +kernel)⟩
theorem lw_p72 : lw_okq (⟨"ProvedTableModel", "saltedBy", "(I)I"⟩, 34) := ⟨⟨by decide +kernel, by decide +kernel⟩, List.mem_of_getElem? (i := 1107) (by decide +kernel), List.mem_of_getElem? (i := 1399) (by decide +kernel), List.mem_of_getElem? (i := 1400) (by decide +kernel)⟩
theorem lw_p73 : lw_okq (⟨"ProvedTableModel", "allWorlds", "()I"⟩, 34) := ⟨⟨by decide +kernel, by decide +kernel⟩, List.mem_of_getElem? (i := 1107) (by decide +kernel), List.mem_of_getElem? (i := 1403) (by decide +kernel), List.mem_of_getElem? (i := 1404) (by decide +kernel)⟩
theorem lw_p74 : lw_okq (⟨"ProvedTableModel", "worlds", "()I"⟩, 34) := ⟨⟨by decide +kernel, by decide +kernel⟩, List.mem_of_getElem? (i := 1107) (by decide +kernel), List.mem_of_getElem? (i := 1407) (by decide +kernel), List.mem_of_getElem? (i := 1408) (by decide +kernel)⟩
theorem lw_p75 : lw_okq (⟨"ProvedTableModel", "isGuest", "(J)Z"⟩, 34) := ⟨⟨by decide +kernel, by decide +kernel⟩, List.mem_of_getElem? (i := 1107) (by decide +kernel), List.mem_of_getElem? (i := 1415) (by decide +kernel), List.mem_of_getElem? (i := 1416) (by decide +kernel)⟩
theorem lw_p76 : lw_okq (⟨"ProvedTableModel", "ofGuest", "(II)I"⟩, 34) := ⟨⟨by decide +kernel, by decide +kernel⟩, List.mem_of_getElem? (i := 1107) (by decide +kernel), List.mem_of_getElem? (i := 1419) (by decide +kernel), List.mem_of_getElem? (i := 1420) (by decide +kernel)⟩
theorem lw_p77 : lw_okq (⟨"ProvedTableModel", "canDo", "(I)I"⟩, 34) := ⟨⟨by decide +kernel, by decide +kernel⟩, List.mem_of_getElem? (i := 1107) (by decide +kernel), List.mem_of_getElem? (i := 1423) (by decide +kernel), List.mem_of_getElem? (i := 1424) (by decide +kernel)⟩
theorem lw_p78 : lw_okq (⟨"ProvedTableModel", "isTable", "()Z"⟩, 34) := ⟨⟨by decide +kernel, by decide +kernel⟩, List.mem_of_getElem? (i := 1107) (by decide +kernel), List.mem_of_getElem? (i := 1431) (by decide +kernel), List.mem_of_getElem? (i := 1432) (by decide +kernel)⟩
theorem lw_p79 : lw_okq (⟨"ProvedTableModel", "saltedNow", "()I"⟩, 34) := ⟨⟨by decide +kernel, by decide +kernel⟩, List.mem_of_getElem? (i := 1107) (by decide +kernel), List.mem_of_getElem? (i := 1435) (by decide +kernel), List.mem_of_getElem? (i := 1436) (by decide +kernel)⟩
def lw_privs_5 : List (MethodName × Nat) := [(⟨"ProvedTableModel", "freshClaim", "()I"⟩, 34), (⟨"ProvedTableModel", "readStep", "()V"⟩, 34), (⟨"ProvedTableModel", "readGuest", "()V"⟩, 34), (⟨"ProvedTableModel", "isClaim", "(J)Z"⟩, 34), (⟨"ProvedTableModel", "ofClaim", "(II)I"⟩, 34), (⟨"ProvedTableModel", "isStep", "(J)Z"⟩, 34), (⟨"ProvedTableModel", "ofStep", "(II)I"⟩, 34), (⟨"ProvedTableModel", "falseIn", "(I)I"⟩, 34), (⟨"ProvedTableModel", "saltedBy", "(I)I"⟩, 34), (⟨"ProvedTableModel", "allWorlds", "()I"⟩, 34), (⟨"ProvedTableModel", "worlds", "()I"⟩, 34), (⟨"ProvedTableModel", "isGuest", "(J)Z"⟩, 34), (⟨"ProvedTableModel", "ofGuest", "(II)I"⟩, 34), (⟨"ProvedTableModel", "canDo", "(I)I"⟩, 34), (⟨"ProvedTableModel", "isTable", "()Z"⟩, 34), (⟨"ProvedTableModel", "saltedNow", "()I"⟩, 34)]
theorem lw_r5 : ∀ q ∈ lw_privs_5, lw_okq q := List.forall_mem_cons.mpr ⟨lw_p64, List.forall_mem_cons.mpr ⟨lw_p65, List.forall_mem_cons.mpr ⟨lw_p66, List.forall_mem_cons.mpr ⟨lw_p67, List.forall_mem_cons.mpr ⟨lw_p68, List.forall_mem_cons.mpr ⟨lw_p69, List.forall_mem_cons.mpr ⟨lw_p70, List.forall_mem_cons.mpr ⟨lw_p71, List.forall_mem_cons.mpr ⟨lw_p72, List.forall_mem_cons.mpr ⟨lw_p73, List.forall_mem_cons.mpr ⟨lw_p74, List.forall_mem_cons.mpr ⟨lw_p75, List.forall_mem_cons.mpr ⟨lw_p76, List.forall_mem_cons.mpr ⟨lw_p77, List.forall_mem_cons.mpr ⟨lw_p78, List.forall_mem_cons.mpr ⟨lw_p79, fun _ h => absurd h List.not_mem_nil⟩⟩⟩⟩⟩⟩⟩⟩⟩⟩⟩⟩⟩⟩⟩⟩
theorem lw_p80 : lw_okq (⟨"ProvedTableModel", "saltNow", "()I"⟩, 34) := ⟨⟨by decide +kernel, by decide +kernel⟩, List.mem_of_getElem? (i := 1107) (by decide +kernel), List.mem_of_getElem? (i := 1439) (by decide +kernel), List.mem_of_getElem? (i := 1440) (by decide +kernel)⟩
theorem lw_p81 : lw_okq (⟨"ProvedTableModel", "isFollowing", "(I)Z"⟩, 34) := ⟨⟨by decide +kernel, by decide +kernel⟩, List.mem_of_getElem? (i := 1107) (by decide +kernel), List.mem_of_getElem? (i := 1447) (by decide +kernel), List.mem_of_getElem? (i := 1448) (by decide +kernel)⟩
theorem lw_p82 : lw_okq (⟨"ProvedTableModel", "provedNow", "()I"⟩, 34) := ⟨⟨by decide +kernel, by decide +kernel⟩, List.mem_of_getElem? (i := 1107) (by decide +kernel), List.mem_of_getElem? (i := 1474) (by decide +kernel), List.mem_of_getElem? (i := 1475) (by decide +kernel)⟩
theorem lw_p83 : lw_okq (⟨"ProvedTableModel", "allSteps", "()I"⟩, 34) := ⟨⟨by decide +kernel, by decide +kernel⟩, List.mem_of_getElem? (i := 1107) (by decide +kernel), List.mem_of_getElem? (i := 1478) (by decide +kernel), List.mem_of_getElem? (i := 1479) (by decide +kernel)⟩
theorem lw_p84 : lw_okq (⟨"ProvedTableModel", "provedBy", "(II)I"⟩, 34) := ⟨⟨by decide +kernel, by decide +kernel⟩, List.mem_of_getElem? (i := 1107) (by decide +kernel), List.mem_of_getElem? (i := 1482) (by decide +kernel), List.mem_of_getElem? (i := 1483) (by decide +kernel)⟩
theorem lw_p85 : lw_okq (⟨"ProvedTableModel", "goes", "(II)Z"⟩, 34) := ⟨⟨by decide +kernel, by decide +kernel⟩, List.mem_of_getElem? (i := 1107) (by decide +kernel), List.mem_of_getElem? (i := 1486) (by decide +kernel), List.mem_of_getElem? (i := 1487) (by decide +kernel)⟩
theorem lw_p86 : lw_okq (⟨"ProvedTableModel", "following", "()I"⟩, 34) := ⟨⟨by decide +kernel, by decide +kernel⟩, List.mem_of_getElem? (i := 1107) (by decide +kernel), List.mem_of_getElem? (i := 1494) (by decide +kernel), List.mem_of_getElem? (i := 1495) (by decide +kernel)⟩
theorem lw_p87 : lw_okq (⟨"ProvedTableModel", "asksRow", "(IZ)I"⟩, 34) := ⟨⟨by decide +kernel, by decide +kernel⟩, List.mem_of_getElem? (i := 1107) (by decide +kernel), List.mem_of_getElem? (i := 1506) (by decide +kernel), List.mem_of_getElem? (i := 1507) (by decide +kernel)⟩
theorem lw_p88 : lw_okq (⟨"ProvedTableModel", "numberAt", "(II)J"⟩, 34) := ⟨⟨by decide +kernel, by decide +kernel⟩, List.mem_of_getElem? (i := 1107) (by decide +kernel), List.mem_of_getElem? (i := 1514) (by decide +kernel), List.mem_of_getElem? (i := 1515) (by decide +kernel)⟩
theorem lw_p89 : lw_okq (⟨"ProvedTableModel", "readRow", "(I)V"⟩, 34) := ⟨⟨by decide +kernel, by decide +kernel⟩, List.mem_of_getElem? (i := 1107) (by decide +kernel), List.mem_of_getElem? (i := 1518) (by decide +kernel), List.mem_of_getElem? (i := 1519) (by decide +kernel)⟩
theorem lw_p90 : lw_okq (⟨"ProvedTableModel", "usedBy", "(II)I"⟩, 34) := ⟨⟨by decide +kernel, by decide +kernel⟩, List.mem_of_getElem? (i := 1107) (by decide +kernel), List.mem_of_getElem? (i := 1538) (by decide +kernel), List.mem_of_getElem? (i := 1539) (by decide +kernel)⟩
theorem lw_p91 : lw_okq (⟨"ProvedTableModel", "proofOf", "(I)I"⟩, 34) := ⟨⟨by decide +kernel, by decide +kernel⟩, List.mem_of_getElem? (i := 1107) (by decide +kernel), List.mem_of_getElem? (i := 1550) (by decide +kernel), List.mem_of_getElem? (i := 1551) (by decide +kernel)⟩
theorem lw_p92 : lw_okq (⟨"ProvedTableModel", "fewestSteps", "(III)I"⟩, 34) := ⟨⟨by decide +kernel, by decide +kernel⟩, List.mem_of_getElem? (i := 1107) (by decide +kernel), List.mem_of_getElem? (i := 1554) (by decide +kernel), List.mem_of_getElem? (i := 1555) (by decide +kernel)⟩
theorem lw_p93 : lw_okq (⟨"ProvedTableModel", "isLeastProof", "(II)Z"⟩, 34) := ⟨⟨by decide +kernel, by decide +kernel⟩, List.mem_of_getElem? (i := 1107) (by decide +kernel), List.mem_of_getElem? (i := 1570) (by decide +kernel), List.mem_of_getElem? (i := 1571) (by decide +kernel)⟩
theorem lw_p94 : lw_okq (⟨"ProvedTableModel", "isProvedBy", "(II)Z"⟩, 34) := ⟨⟨by decide +kernel, by decide +kernel⟩, List.mem_of_getElem? (i := 1107) (by decide +kernel), List.mem_of_getElem? (i := 1574) (by decide +kernel), List.mem_of_getElem? (i := 1575) (by decide +kernel)⟩
theorem lw_p95 : lw_okq (⟨"ProvedTableModel", "menuOf", "(I)I"⟩, 34) := ⟨⟨by decide +kernel, by decide +kernel⟩, List.mem_of_getElem? (i := 1107) (by decide +kernel), List.mem_of_getElem? (i := 1590) (by decide +kernel), List.mem_of_getElem? (i := 1591) (by decide +kernel)⟩
def lw_privs_6 : List (MethodName × Nat) := [(⟨"ProvedTableModel", "saltNow", "()I"⟩, 34), (⟨"ProvedTableModel", "isFollowing", "(I)Z"⟩, 34), (⟨"ProvedTableModel", "provedNow", "()I"⟩, 34), (⟨"ProvedTableModel", "allSteps", "()I"⟩, 34), (⟨"ProvedTableModel", "provedBy", "(II)I"⟩, 34), (⟨"ProvedTableModel", "goes", "(II)Z"⟩, 34), (⟨"ProvedTableModel", "following", "()I"⟩, 34), (⟨"ProvedTableModel", "asksRow", "(IZ)I"⟩, 34), (⟨"ProvedTableModel", "numberAt", "(II)J"⟩, 34), (⟨"ProvedTableModel", "readRow", "(I)V"⟩, 34), (⟨"ProvedTableModel", "usedBy", "(II)I"⟩, 34), (⟨"ProvedTableModel", "proofOf", "(I)I"⟩, 34), (⟨"ProvedTableModel", "fewestSteps", "(III)I"⟩, 34), (⟨"ProvedTableModel", "isLeastProof", "(II)Z"⟩, 34), (⟨"ProvedTableModel", "isProvedBy", "(II)Z"⟩, 34), (⟨"ProvedTableModel", "menuOf", "(I)I"⟩, 34)]
theorem lw_r6 : ∀ q ∈ lw_privs_6, lw_okq q := List.forall_mem_cons.mpr ⟨lw_p80, List.forall_mem_cons.mpr ⟨lw_p81, List.forall_mem_cons.mpr ⟨lw_p82, List.forall_mem_cons.mpr ⟨lw_p83, List.forall_mem_cons.mpr ⟨lw_p84, List.forall_mem_cons.mpr ⟨lw_p85, List.forall_mem_cons.mpr ⟨lw_p86, List.forall_mem_cons.mpr ⟨lw_p87, List.forall_mem_cons.mpr ⟨lw_p88, List.forall_mem_cons.mpr ⟨lw_p89, List.forall_mem_cons.mpr ⟨lw_p90, List.forall_mem_cons.mpr ⟨lw_p91, List.forall_mem_cons.mpr ⟨lw_p92, List.forall_mem_cons.mpr ⟨lw_p93, List.forall_mem_cons.mpr ⟨lw_p94, List.forall_mem_cons.mpr ⟨lw_p95, fun _ h => absurd h List.not_mem_nil⟩⟩⟩⟩⟩⟩⟩⟩⟩⟩⟩⟩⟩⟩⟩⟩
theorem lw_p96 : lw_okq (⟨"ProvedTableModel", "mostBy", "(III)I"⟩, 34) := ⟨⟨by decide +kernel, by decide +kernel⟩, List.mem_of_getElem? (i := 1107) (by decide +kernel), List.mem_of_getElem? (i := 1594) (by decide +kernel), List.mem_of_getElem? (i := 1595) (by decide +kernel)⟩
theorem lw_p97 : lw_okq (⟨"ProvedTableModel", "worthsOf", "(I)I"⟩, 34) := ⟨⟨by decide +kernel, by decide +kernel⟩, List.mem_of_getElem? (i := 1107) (by decide +kernel), List.mem_of_getElem? (i := 1598) (by decide +kernel), List.mem_of_getElem? (i := 1599) (by decide +kernel)⟩
theorem lw_p98 : lw_okq (⟨"ProvedTableModel", "areClaims", "(I)Z"⟩, 34) := ⟨⟨by decide +kernel, by decide +kernel⟩, List.mem_of_getElem? (i := 1107) (by decide +kernel), List.mem_of_getElem? (i := 1614) (by decide +kernel), List.mem_of_getElem? (i := 1615) (by decide +kernel)⟩
theorem lw_p99 : lw_okq (⟨"ProvedTableModel", "allClaims", "()I"⟩, 34) := ⟨⟨by decide +kernel, by decide +kernel⟩, List.mem_of_getElem? (i := 1107) (by decide +kernel), List.mem_of_getElem? (i := 1618) (by decide +kernel), List.mem_of_getElem? (i := 1619) (by decide +kernel)⟩
theorem lw_p100 : lw_okq (⟨"ProvedTableModel", "whoOf", "(I)I"⟩, 34) := ⟨⟨by decide +kernel, by decide +kernel⟩, List.mem_of_getElem? (i := 1107) (by decide +kernel), List.mem_of_getElem? (i := 1626) (by decide +kernel), List.mem_of_getElem? (i := 1627) (by decide +kernel)⟩
theorem lw_p101 : lw_okq (⟨"ProvedTableModel", "canProve", "(II)Z"⟩, 34) := ⟨⟨by decide +kernel, by decide +kernel⟩, List.mem_of_getElem? (i := 1107) (by decide +kernel), List.mem_of_getElem? (i := 1630) (by decide +kernel), List.mem_of_getElem? (i := 1631) (by decide +kernel)⟩
theorem lw_p102 : lw_okq (⟨"ProvedTableModel", "areGuests", "(I)Z"⟩, 34) := ⟨⟨by decide +kernel, by decide +kernel⟩, List.mem_of_getElem? (i := 1107) (by decide +kernel), List.mem_of_getElem? (i := 1638) (by decide +kernel), List.mem_of_getElem? (i := 1639) (by decide +kernel)⟩
theorem lw_p103 : lw_okq (⟨"ProvedTableModel", "allGuests", "()I"⟩, 34) := ⟨⟨by decide +kernel, by decide +kernel⟩, List.mem_of_getElem? (i := 1107) (by decide +kernel), List.mem_of_getElem? (i := 1642) (by decide +kernel), List.mem_of_getElem? (i := 1643) (by decide +kernel)⟩
theorem lw_p104 : lw_okq (⟨"ProvedTableModel", "lemmaOf", "(I)I"⟩, 34) := ⟨⟨by decide +kernel, by decide +kernel⟩, List.mem_of_getElem? (i := 1107) (by decide +kernel), List.mem_of_getElem? (i := 1650) (by decide +kernel), List.mem_of_getElem? (i := 1651) (by decide +kernel)⟩
theorem lw_p105 : lw_okq (⟨"ProvedTableModel", "strengthOf", "(I)I"⟩, 34) := ⟨⟨by decide +kernel, by decide +kernel⟩, List.mem_of_getElem? (i := 1107) (by decide +kernel), List.mem_of_getElem? (i := 1662) (by decide +kernel), List.mem_of_getElem? (i := 1663) (by decide +kernel)⟩
theorem lw_p106 : lw_okq (⟨"ProvedTableModel", "canTogether", "(II)Z"⟩, 34) := ⟨⟨by decide +kernel, by decide +kernel⟩, List.mem_of_getElem? (i := 1107) (by decide +kernel), List.mem_of_getElem? (i := 1670) (by decide +kernel), List.mem_of_getElem? (i := 1671) (by decide +kernel)⟩
theorem lw_p107 : lw_okq (⟨"ProvedTableModel", "teamOf", "(I)I"⟩, 34) := ⟨⟨by decide +kernel, by decide +kernel⟩, List.mem_of_getElem? (i := 1107) (by decide +kernel), List.mem_of_getElem? (i := 1678) (by decide +kernel), List.mem_of_getElem? (i := 1679) (by decide +kernel)⟩
theorem lw_p108 : lw_okq (⟨"ProvedTableModel", "fillDoubt", "(II)V"⟩, 34) := ⟨⟨by decide +kernel, by decide +kernel⟩, List.mem_of_getElem? (i := 1107) (by decide +kernel), List.mem_of_getElem? (i := 1690) (by decide +kernel), List.mem_of_getElem? (i := 1691) (by decide +kernel)⟩
theorem lw_p109 : lw_okq (⟨"ProvedTableModel", "asksKitchen", "(IZ)I"⟩, 34) := ⟨⟨by decide +kernel, by decide +kernel⟩, List.mem_of_getElem? (i := 1107) (by decide +kernel), List.mem_of_getElem? (i := 1702) (by decide +kernel), List.mem_of_getElem? (i := 1703) (by decide +kernel)⟩
theorem lw_p110 : lw_okq (⟨"ProvedTableModel", "goKitchen", "(I)V"⟩, 34) := ⟨⟨by decide +kernel, by decide +kernel⟩, List.mem_of_getElem? (i := 1107) (by decide +kernel), List.mem_of_getElem? (i := 1706) (by decide +kernel), List.mem_of_getElem? (i := 1707) (by decide +kernel)⟩
theorem lw_p111 : lw_okq (⟨"ProvedTableModel", "cooks", "(II)Z"⟩, 34) := ⟨⟨by decide +kernel, by decide +kernel⟩, List.mem_of_getElem? (i := 1107) (by decide +kernel), List.mem_of_getElem? (i := 1710) (by decide +kernel), List.mem_of_getElem? (i := 1711) (by decide +kernel)⟩
def lw_privs_7 : List (MethodName × Nat) := [(⟨"ProvedTableModel", "mostBy", "(III)I"⟩, 34), (⟨"ProvedTableModel", "worthsOf", "(I)I"⟩, 34), (⟨"ProvedTableModel", "areClaims", "(I)Z"⟩, 34), (⟨"ProvedTableModel", "allClaims", "()I"⟩, 34), (⟨"ProvedTableModel", "whoOf", "(I)I"⟩, 34), (⟨"ProvedTableModel", "canProve", "(II)Z"⟩, 34), (⟨"ProvedTableModel", "areGuests", "(I)Z"⟩, 34), (⟨"ProvedTableModel", "allGuests", "()I"⟩, 34), (⟨"ProvedTableModel", "lemmaOf", "(I)I"⟩, 34), (⟨"ProvedTableModel", "strengthOf", "(I)I"⟩, 34), (⟨"ProvedTableModel", "canTogether", "(II)Z"⟩, 34), (⟨"ProvedTableModel", "teamOf", "(I)I"⟩, 34), (⟨"ProvedTableModel", "fillDoubt", "(II)V"⟩, 34), (⟨"ProvedTableModel", "asksKitchen", "(IZ)I"⟩, 34), (⟨"ProvedTableModel", "goKitchen", "(I)V"⟩, 34), (⟨"ProvedTableModel", "cooks", "(II)Z"⟩, 34)]
theorem lw_r7 : ∀ q ∈ lw_privs_7, lw_okq q := List.forall_mem_cons.mpr ⟨lw_p96, List.forall_mem_cons.mpr ⟨lw_p97, List.forall_mem_cons.mpr ⟨lw_p98, List.forall_mem_cons.mpr ⟨lw_p99, List.forall_mem_cons.mpr ⟨lw_p100, List.forall_mem_cons.mpr ⟨lw_p101, List.forall_mem_cons.mpr ⟨lw_p102, List.forall_mem_cons.mpr ⟨lw_p103, List.forall_mem_cons.mpr ⟨lw_p104, List.forall_mem_cons.mpr ⟨lw_p105, List.forall_mem_cons.mpr ⟨lw_p106, List.forall_mem_cons.mpr ⟨lw_p107, List.forall_mem_cons.mpr ⟨lw_p108, List.forall_mem_cons.mpr ⟨lw_p109, List.forall_mem_cons.mpr ⟨lw_p110, List.forall_mem_cons.mpr ⟨lw_p111, fun _ h => absurd h List.not_mem_nil⟩⟩⟩⟩⟩⟩⟩⟩⟩⟩⟩⟩⟩⟩⟩⟩
theorem lw_p112 : lw_okq (⟨"ProvedTableModel", "fillDuel", "()V"⟩, 34) := ⟨⟨by decide +kernel, by decide +kernel⟩, List.mem_of_getElem? (i := 1107) (by decide +kernel), List.mem_of_getElem? (i := 1731) (by decide +kernel), List.mem_of_getElem? (i := 1732) (by decide +kernel)⟩
theorem lw_p113 : lw_okq (⟨"ProvedTableModel", "coreOf", "()I"⟩, 34) := ⟨⟨by decide +kernel, by decide +kernel⟩, List.mem_of_getElem? (i := 1107) (by decide +kernel), List.mem_of_getElem? (i := 1754) (by decide +kernel), List.mem_of_getElem? (i := 1755) (by decide +kernel)⟩
theorem lw_p114 : lw_okq (⟨"ProvedTableModel", "askOf", "()I"⟩, 34) := ⟨⟨by decide +kernel, by decide +kernel⟩, List.mem_of_getElem? (i := 1107) (by decide +kernel), List.mem_of_getElem? (i := 1776) (by decide +kernel), List.mem_of_getElem? (i := 1777) (by decide +kernel)⟩
theorem lw_p115 : lw_okq (⟨"ProvedTableModel", "worstOf", "(I)I"⟩, 34) := ⟨⟨by decide +kernel, by decide +kernel⟩, List.mem_of_getElem? (i := 1107) (by decide +kernel), List.mem_of_getElem? (i := 1780) (by decide +kernel), List.mem_of_getElem? (i := 1781) (by decide +kernel)⟩
theorem lw_p116 : lw_okq (⟨"ProvedTableModel", "spareOf", "(I)I"⟩, 34) := ⟨⟨by decide +kernel, by decide +kernel⟩, List.mem_of_getElem? (i := 1107) (by decide +kernel), List.mem_of_getElem? (i := 1800) (by decide +kernel), List.mem_of_getElem? (i := 1801) (by decide +kernel)⟩
theorem lw_p117 : lw_okq (⟨"ProvedTableModel", "asksEaten", "(IZ)I"⟩, 34) := ⟨⟨by decide +kernel, by decide +kernel⟩, List.mem_of_getElem? (i := 1107) (by decide +kernel), List.mem_of_getElem? (i := 1816) (by decide +kernel), List.mem_of_getElem? (i := 1817) (by decide +kernel)⟩
theorem lw_p118 : lw_okq (⟨"ProvedTableModel", "eatenBy", "(I)I"⟩, 34) := ⟨⟨by decide +kernel, by decide +kernel⟩, List.mem_of_getElem? (i := 1107) (by decide +kernel), List.mem_of_getElem? (i := 1820) (by decide +kernel), List.mem_of_getElem? (i := 1821) (by decide +kernel)⟩
theorem lw_p119 : lw_okq (⟨"ProvedTableModel", "holesBy", "(J)I"⟩, 34) := ⟨⟨by decide +kernel, by decide +kernel⟩, List.mem_of_getElem? (i := 1107) (by decide +kernel), List.mem_of_getElem? (i := 1852) (by decide +kernel), List.mem_of_getElem? (i := 1853) (by decide +kernel)⟩
theorem lw_p120 : lw_okq (⟨"ProvedTableModel", "feastOf", "(JI)I"⟩, 34) := ⟨⟨by decide +kernel, by decide +kernel⟩, List.mem_of_getElem? (i := 1107) (by decide +kernel), List.mem_of_getElem? (i := 1865) (by decide +kernel), List.mem_of_getElem? (i := 1866) (by decide +kernel)⟩
def lw_privs_8 : List (MethodName × Nat) := [(⟨"ProvedTableModel", "fillDuel", "()V"⟩, 34), (⟨"ProvedTableModel", "coreOf", "()I"⟩, 34), (⟨"ProvedTableModel", "askOf", "()I"⟩, 34), (⟨"ProvedTableModel", "worstOf", "(I)I"⟩, 34), (⟨"ProvedTableModel", "spareOf", "(I)I"⟩, 34), (⟨"ProvedTableModel", "asksEaten", "(IZ)I"⟩, 34), (⟨"ProvedTableModel", "eatenBy", "(I)I"⟩, 34), (⟨"ProvedTableModel", "holesBy", "(J)I"⟩, 34), (⟨"ProvedTableModel", "feastOf", "(JI)I"⟩, 34)]
theorem lw_r8 : ∀ q ∈ lw_privs_8, lw_okq q := List.forall_mem_cons.mpr ⟨lw_p112, List.forall_mem_cons.mpr ⟨lw_p113, List.forall_mem_cons.mpr ⟨lw_p114, List.forall_mem_cons.mpr ⟨lw_p115, List.forall_mem_cons.mpr ⟨lw_p116, List.forall_mem_cons.mpr ⟨lw_p117, List.forall_mem_cons.mpr ⟨lw_p118, List.forall_mem_cons.mpr ⟨lw_p119, List.forall_mem_cons.mpr ⟨lw_p120, fun _ h => absurd h List.not_mem_nil⟩⟩⟩⟩⟩⟩⟩⟩⟩
def lw_privs : List (MethodName × Nat) := lw_privs_1 ++ (lw_privs_2 ++ (lw_privs_3 ++ (lw_privs_4 ++ (lw_privs_5 ++ (lw_privs_6 ++ (lw_privs_7 ++ (lw_privs_8)))))))
def lw_tbl : List Cond := k2_sels lw_privs ++ tables_1
theorem lw_privs_ok : ∀ q ∈ lw_privs, lw_okq q := by
  show ∀ q ∈ lw_privs_1 ++ (lw_privs_2 ++ (lw_privs_3 ++ (lw_privs_4 ++ (lw_privs_5 ++ (lw_privs_6 ++ (lw_privs_7 ++ (lw_privs_8))))))), lw_okq q
  exact List.forall_mem_append.mpr ⟨lw_r1, List.forall_mem_append.mpr ⟨lw_r2, List.forall_mem_append.mpr ⟨lw_r3, List.forall_mem_append.mpr ⟨lw_r4, List.forall_mem_append.mpr ⟨lw_r5, List.forall_mem_append.mpr ⟨lw_r6, List.forall_mem_append.mpr ⟨lw_r7, lw_r8⟩⟩⟩⟩⟩⟩⟩
def RX0 : String := "ProvedTable$Doubt"
def TX0 : u_T := fun k => match k with
  | _ => ("ProvedTable$Doubt", "worldFrom", "[I", true)
def tyX0 : Nat → FieldType := fun k => match k with
  | _ => .array .int
theorem nmX0 : ∀ a, a < 1 → ∀ b, b < 1 → a ≠ b → (TX0 a).2.1 ≠ (TX0 b).2.1 := by decide +kernel
theorem tyX0_ok : ∀ k, k < 1 → parseFieldDescriptor (TX0 k).2.2.1 = some (tyX0 k) := by decide +kernel
abbrev cX0_init : ByteArray := prog_2_method_1_code
def yX0_init : MethodName := ⟨RX0, "<init>", "()V"⟩
abbrev cX0_worldThatComes : ByteArray := prog_2_method_2_code
def yX0_worldThatComes : MethodName := ⟨RX0, "worldThatComes", "(LProvedTable$Table;II)I"⟩
def RX1 : String := "ProvedTable$Kitchen"
def TX1 : u_T := fun k => match k with
  | 0 => ("ProvedTable$Kitchen", "pairs", "I", false)
  | 1 => ("ProvedTable$Kitchen", "lastHour", "I", false)
  | 2 => ("ProvedTable$Kitchen", "given", "I", false)
  | 3 => ("ProvedTable$Kitchen", "hourOf", "[I", true)
  | 4 => ("ProvedTable$Kitchen", "giversOf", "[I", true)
  | 5 => ("ProvedTable$Kitchen", "throughAt", "[I", true)
  | _ => ("ProvedTable$Kitchen", "workOf", "[I", true)
def tyX1 : Nat → FieldType := fun k => match k with
  | 0 => .int
  | 1 => .int
  | 2 => .int
  | 3 => .array .int
  | 4 => .array .int
  | 5 => .array .int
  | _ => .array .int
theorem nmX1 : ∀ a, a < 7 → ∀ b, b < 7 → a ≠ b → (TX1 a).2.1 ≠ (TX1 b).2.1 := by decide +kernel
theorem tyX1_ok : ∀ k, k < 7 → parseFieldDescriptor (TX1 k).2.2.1 = some (tyX1 k) := by decide +kernel
abbrev cX1_init : ByteArray := prog_3_method_1_code
def yX1_init : MethodName := ⟨RX1, "<init>", "()V"⟩
abbrev cX1_cook : ByteArray := prog_3_method_2_code
def yX1_cook : MethodName := ⟨RX1, "cook", "(LProvedTable$Table;LProvedTable$Row;)V"⟩
abbrev cX1_open : ByteArray := prog_3_method_3_code
def yX1_open : MethodName := ⟨RX1, "open", "(LProvedTable$Table;)V"⟩
abbrev cX1_cookPair : ByteArray := prog_3_method_4_code
def yX1_cookPair : MethodName := ⟨RX1, "cookPair", "(LProvedTable$Table;II)Z"⟩
abbrev cX1_hourOfAll : ByteArray := prog_3_method_5_code
def yX1_hourOfAll : MethodName := ⟨RX1, "hourOfAll", "(LProvedTable$Table;I)I"⟩
abbrev cX1_give : ByteArray := prog_3_method_6_code
def yX1_give : MethodName := ⟨RX1, "give", "(III)V"⟩
def RX2 : String := "ProvedTable$Reader"
def TX2 : u_T := fun k => match k with
  | 0 => ("ProvedTable$Reader", "bytes", "[B", true)
  | 1 => ("ProvedTable$Reader", "length", "I", false)
  | 2 => ("ProvedTable$Reader", "fault", "I", false)
  | 3 => ("ProvedTable$Reader", "place", "I", false)
  | 4 => ("ProvedTable$Reader", "kind", "I", false)
  | 5 => ("ProvedTable$Reader", "start", "I", false)
  | 6 => ("ProvedTable$Reader", "stop", "I", false)
  | _ => ("ProvedTable$Reader", "value", "I", false)
def tyX2 : Nat → FieldType := fun k => match k with
  | 0 => .array .byte
  | 1 => .int
  | 2 => .int
  | 3 => .int
  | 4 => .int
  | 5 => .int
  | 6 => .int
  | _ => .int
theorem nmX2 : ∀ a, a < 8 → ∀ b, b < 8 → a ≠ b → (TX2 a).2.1 ≠ (TX2 b).2.1 := by decide +kernel
theorem tyX2_ok : ∀ k, k < 8 → parseFieldDescriptor (TX2 k).2.2.1 = some (tyX2 k) := by decide +kernel
abbrev cX2_init : ByteArray := prog_4_method_1_code
def yX2_init : MethodName := ⟨RX2, "<init>", "()V"⟩
abbrev cX2_append : ByteArray := prog_4_method_2_code
def yX2_append : MethodName := ⟨RX2, "append", "(I)V"⟩
abbrev cX2_readTable : ByteArray := prog_4_method_3_code
def yX2_readTable : MethodName := ⟨RX2, "readTable", "(LProvedTable$Table;)Z"⟩
abbrev cX2_readLine : ByteArray := prog_4_method_4_code
def yX2_readLine : MethodName := ⟨RX2, "readLine", "(LProvedTable$Table;)Z"⟩
abbrev cX2_readHead : ByteArray := prog_4_method_5_code
def yX2_readHead : MethodName := ⟨RX2, "readHead", "(LProvedTable$Table;)Z"⟩
abbrev cX2_readClaim : ByteArray := prog_4_method_6_code
def yX2_readClaim : MethodName := ⟨RX2, "readClaim", "(LProvedTable$Table;)Z"⟩
abbrev cX2_readSalt : ByteArray := prog_4_method_7_code
def yX2_readSalt : MethodName := ⟨RX2, "readSalt", "(LProvedTable$Table;)Z"⟩
abbrev cX2_readStep : ByteArray := prog_4_method_8_code
def yX2_readStep : MethodName := ⟨RX2, "readStep", "(LProvedTable$Table;)Z"⟩
abbrev cX2_readGuest : ByteArray := prog_4_method_9_code
def yX2_readGuest : MethodName := ⟨RX2, "readGuest", "(LProvedTable$Table;)Z"⟩
abbrev cX2_readSet : ByteArray := prog_4_method_10_code
def yX2_readSet : MethodName := ⟨RX2, "readSet", "(II)I"⟩
abbrev cX2_readForm : ByteArray := prog_4_method_11_code
def yX2_readForm : MethodName := ⟨RX2, "readForm", "(LProvedTable$Table;I)I"⟩
abbrev cX2_readParts : ByteArray := prog_4_method_12_code
def yX2_readParts : MethodName := ⟨RX2, "readParts", "(LProvedTable$Table;II)I"⟩
abbrev cX2_worldsOfLeaf : ByteArray := prog_4_method_13_code
def yX2_worldsOfLeaf : MethodName := ⟨RX2, "worldsOfLeaf", "(LProvedTable$Table;)I"⟩
abbrev cX2_operatorHere : ByteArray := prog_4_method_14_code
def yX2_operatorHere : MethodName := ⟨RX2, "operatorHere", "()I"⟩
abbrev cX2_readSign : ByteArray := prog_4_method_15_code
def yX2_readSign : MethodName := ⟨RX2, "readSign", "()Z"⟩
abbrev cX2_readWord : ByteArray := prog_4_method_16_code
def yX2_readWord : MethodName := ⟨RX2, "readWord", "(Ljava/lang/String;)Z"⟩
abbrev cX2_readNamed : ByteArray := prog_4_method_17_code
def yX2_readNamed : MethodName := ⟨RX2, "readNamed", "(Ljava/lang/String;II)I"⟩
abbrev cX2_readNumber : ByteArray := prog_4_method_18_code
def yX2_readNumber : MethodName := ⟨RX2, "readNumber", "(II)I"⟩
abbrev cX2_isNumberOf : ByteArray := prog_4_method_19_code
def yX2_isNumberOf : MethodName := ⟨RX2, "isNumberOf", "(I)Z"⟩
abbrev cX2_isWord : ByteArray := prog_4_method_20_code
def yX2_isWord : MethodName := ⟨RX2, "isWord", "(Ljava/lang/String;)Z"⟩
abbrev cX2_fail : ByteArray := prog_4_method_21_code
def yX2_fail : MethodName := ⟨RX2, "fail", "(I)Z"⟩
abbrev cX2_advance : ByteArray := prog_4_method_22_code
def yX2_advance : MethodName := ⟨RX2, "advance", "()V"⟩
abbrev cX2_kindAt : ByteArray := prog_4_method_23_code
def yX2_kindAt : MethodName := ⟨RX2, "kindAt", "(I)I"⟩
def RX3 : String := "ProvedTable$Reading"
def TX3 : u_T := fun k => match k with
  | 0 => ("ProvedTable$Reading", "going", "I", false)
  | 1 => ("ProvedTable$Reading", "reason", "I", false)
  | 2 => ("ProvedTable$Reading", "proved", "I", false)
  | _ => ("ProvedTable$Reading", "usedFor", "[I", true)
def tyX3 : Nat → FieldType := fun k => match k with
  | 0 => .int
  | 1 => .int
  | 2 => .int
  | _ => .array .int
theorem nmX3 : ∀ a, a < 4 → ∀ b, b < 4 → a ≠ b → (TX3 a).2.1 ≠ (TX3 b).2.1 := by decide +kernel
theorem tyX3_ok : ∀ k, k < 4 → parseFieldDescriptor (TX3 k).2.2.1 = some (tyX3 k) := by decide +kernel
abbrev cX3_init : ByteArray := prog_5_method_1_code
def yX3_init : MethodName := ⟨RX3, "<init>", "()V"⟩
abbrev cX3_read : ByteArray := prog_5_method_2_code
def yX3_read : MethodName := ⟨RX3, "read", "(LProvedTable$Table;LProvedTable$Row;)V"⟩
abbrev cX3_reasonAgainst : ByteArray := prog_5_method_3_code
def yX3_reasonAgainst : MethodName := ⟨RX3, "reasonAgainst", "(LProvedTable$Table;I)I"⟩
abbrev cX3_usedForAll : ByteArray := prog_5_method_4_code
def yX3_usedForAll : MethodName := ⟨RX3, "usedForAll", "(LProvedTable$Table;I)I"⟩
abbrev cX3_worthEaten : ByteArray := prog_5_method_5_code
def yX3_worthEaten : MethodName := ⟨RX3, "worthEaten", "(LProvedTable$Table;LProvedTable$Row;I)I"⟩
def RX4 : String := "ProvedTable$Row"
def TX4 : u_T := fun k => match k with
  | 0 => ("ProvedTable$Row", "isThere", "Z", false)
  | 1 => ("ProvedTable$Row", "width", "I", false)
  | 2 => ("ProvedTable$Row", "n", "I", false)
  | _ => ("ProvedTable$Row", "numbers", "[J", true)
def tyX4 : Nat → FieldType := fun k => match k with
  | 0 => .boolean
  | 1 => .int
  | 2 => .int
  | _ => .array .long
theorem nmX4 : ∀ a, a < 4 → ∀ b, b < 4 → a ≠ b → (TX4 a).2.1 ≠ (TX4 b).2.1 := by decide +kernel
theorem tyX4_ok : ∀ k, k < 4 → parseFieldDescriptor (TX4 k).2.2.1 = some (tyX4 k) := by decide +kernel
abbrev cX4_init : ByteArray := prog_6_method_1_code
def yX4_init : MethodName := ⟨RX4, "<init>", "()V"⟩
abbrev cX4_begin : ByteArray := prog_6_method_2_code
def yX4_begin : MethodName := ⟨RX4, "begin", "(II)V"⟩
abbrev cX4_cut : ByteArray := prog_6_method_3_code
def yX4_cut : MethodName := ⟨RX4, "cut", "(J)J"⟩
abbrev cX4_areAllBelow : ByteArray := prog_6_method_4_code
def yX4_areAllBelow : MethodName := ⟨RX4, "areAllBelow", "(I)Z"⟩
abbrev cX4_arePairsBelow : ByteArray := prog_6_method_5_code
def yX4_arePairsBelow : MethodName := ⟨RX4, "arePairsBelow", "(II)Z"⟩
abbrev cX4_asSet : ByteArray := prog_6_method_6_code
def yX4_asSet : MethodName := ⟨RX4, "asSet", "()I"⟩
def RX5 : String := "ProvedTable$Sheet"
def TX5 : u_T := fun k => match k with
  | _ => ("ProvedTable$Sheet", "at", "[I", true)
def tyX5 : Nat → FieldType := fun k => match k with
  | _ => .array .int
theorem nmX5 : ∀ a, a < 1 → ∀ b, b < 1 → a ≠ b → (TX5 a).2.1 ≠ (TX5 b).2.1 := by decide +kernel
theorem tyX5_ok : ∀ k, k < 1 → parseFieldDescriptor (TX5 k).2.2.1 = some (tyX5 k) := by decide +kernel
abbrev cX5_init : ByteArray := prog_7_method_1_code
def yX5_init : MethodName := ⟨RX5, "<init>", "()V"⟩
abbrev cX5_subsetsOf : ByteArray := prog_7_method_2_code
def yX5_subsetsOf : MethodName := ⟨RX5, "subsetsOf", "(I)I"⟩
abbrev cX5_subsetBehind : ByteArray := prog_7_method_3_code
def yX5_subsetBehind : MethodName := ⟨RX5, "subsetBehind", "(II)I"⟩
abbrev cX5_withoutLowest : ByteArray := prog_7_method_4_code
def yX5_withoutLowest : MethodName := ⟨RX5, "withoutLowest", "(I)I"⟩
abbrev cX5_fillWithProofs : ByteArray := prog_7_method_5_code
def yX5_fillWithProofs : MethodName := ⟨RX5, "fillWithProofs", "(LProvedTable$Table;II)V"⟩
abbrev cX5_fillWithSaltProofs : ByteArray := prog_7_method_6_code
def yX5_fillWithSaltProofs : MethodName := ⟨RX5, "fillWithSaltProofs", "(LProvedTable$Table;)V"⟩
abbrev cX5_fillWithRuledOut : ByteArray := prog_7_method_7_code
def yX5_fillWithRuledOut : MethodName := ⟨RX5, "fillWithRuledOut", "(LProvedTable$Table;)V"⟩
abbrev cX5_leastSet : ByteArray := prog_7_method_8_code
def yX5_leastSet : MethodName := ⟨RX5, "leastSet", "(II)I"⟩
abbrev cX5_countLeast : ByteArray := prog_7_method_9_code
def yX5_countLeast : MethodName := ⟨RX5, "countLeast", "(II)I"⟩
abbrev cX5_isLeast : ByteArray := prog_7_method_10_code
def yX5_isLeast : MethodName := ⟨RX5, "isLeast", "(II)Z"⟩
abbrev cX5_menuSet : ByteArray := prog_7_method_11_code
def yX5_menuSet : MethodName := ⟨RX5, "menuSet", "(LProvedTable$Table;II)I"⟩
def RX6 : String := "ProvedTable$Table"
def TX6 : u_T := fun k => match k with
  | 0 => ("ProvedTable$Table", "lines", "I", false)
  | 1 => ("ProvedTable$Table", "atoms", "I", false)
  | 2 => ("ProvedTable$Table", "hours", "I", false)
  | 3 => ("ProvedTable$Table", "holes", "I", false)
  | 4 => ("ProvedTable$Table", "claims", "I", false)
  | 5 => ("ProvedTable$Table", "steps", "I", false)
  | 6 => ("ProvedTable$Table", "guests", "I", false)
  | 7 => ("ProvedTable$Table", "salt", "I", false)
  | 8 => ("ProvedTable$Table", "worth", "[I", true)
  | 9 => ("ProvedTable$Table", "holds", "[I", true)
  | 10 => ("ProvedTable$Table", "gives", "[I", true)
  | 11 => ("ProvedTable$Table", "premises", "[I", true)
  | 12 => ("ProvedTable$Table", "speed", "[I", true)
  | _ => ("ProvedTable$Table", "knows", "[I", true)
def tyX6 : Nat → FieldType := fun k => match k with
  | 0 => .int
  | 1 => .int
  | 2 => .int
  | 3 => .int
  | 4 => .int
  | 5 => .int
  | 6 => .int
  | 7 => .int
  | 8 => .array .int
  | 9 => .array .int
  | 10 => .array .int
  | 11 => .array .int
  | 12 => .array .int
  | _ => .array .int
theorem nmX6 : ∀ a, a < 14 → ∀ b, b < 14 → a ≠ b → (TX6 a).2.1 ≠ (TX6 b).2.1 := by decide +kernel
theorem tyX6_ok : ∀ k, k < 14 → parseFieldDescriptor (TX6 k).2.2.1 = some (tyX6 k) := by decide +kernel
abbrev cX6_init : ByteArray := prog_8_method_1_code
def yX6_init : MethodName := ⟨RX6, "<init>", "()V"⟩
abbrev cX6_clear : ByteArray := prog_8_method_2_code
def yX6_clear : MethodName := ⟨RX6, "clear", "()V"⟩
abbrev cX6_copyFrom : ByteArray := prog_8_method_3_code
def yX6_copyFrom : MethodName := ⟨RX6, "copyFrom", "(LProvedTable$Table;)V"⟩
abbrev cX6_isTold : ByteArray := prog_8_method_4_code
def yX6_isTold : MethodName := ⟨RX6, "isTold", "()Z"⟩
abbrev cX6_hasClaim : ByteArray := prog_8_method_5_code
def yX6_hasClaim : MethodName := ⟨RX6, "hasClaim", "(I)Z"⟩
abbrev cX6_hasStep : ByteArray := prog_8_method_6_code
def yX6_hasStep : MethodName := ⟨RX6, "hasStep", "(I)Z"⟩
abbrev cX6_hasGuest : ByteArray := prog_8_method_7_code
def yX6_hasGuest : MethodName := ⟨RX6, "hasGuest", "(I)Z"⟩
abbrev cX6_isClaimSet : ByteArray := prog_8_method_8_code
def yX6_isClaimSet : MethodName := ⟨RX6, "isClaimSet", "(I)Z"⟩
abbrev cX6_isGuestSet : ByteArray := prog_8_method_9_code
def yX6_isGuestSet : MethodName := ⟨RX6, "isGuestSet", "(I)Z"⟩
abbrev cX6_allSteps : ByteArray := prog_8_method_10_code
def yX6_allSteps : MethodName := ⟨RX6, "allSteps", "()I"⟩
abbrev cX6_allWorlds : ByteArray := prog_8_method_11_code
def yX6_allWorlds : MethodName := ⟨RX6, "allWorlds", "()I"⟩
abbrev cX6_worldsOfAtom : ByteArray := prog_8_method_12_code
def yX6_worldsOfAtom : MethodName := ⟨RX6, "worldsOfAtom", "(I)I"⟩
abbrev cX6_worldsOf : ByteArray := prog_8_method_13_code
def yX6_worldsOf : MethodName := ⟨RX6, "worldsOf", "(I)I"⟩
abbrev cX6_followsFrom : ByteArray := prog_8_method_14_code
def yX6_followsFrom : MethodName := ⟨RX6, "followsFrom", "(II)Z"⟩
abbrev cX6_following : ByteArray := prog_8_method_15_code
def yX6_following : MethodName := ⟨RX6, "following", "()I"⟩
abbrev cX6_claimsHoldingIn : ByteArray := prog_8_method_16_code
def yX6_claimsHoldingIn : MethodName := ⟨RX6, "claimsHoldingIn", "(I)I"⟩
abbrev cX6_falseWorlds : ByteArray := prog_8_method_17_code
def yX6_falseWorlds : MethodName := ⟨RX6, "falseWorlds", "(I)I"⟩
abbrev cX6_leftAtWorst : ByteArray := prog_8_method_18_code
def yX6_leftAtWorst : MethodName := ⟨RX6, "leftAtWorst", "(I)I"⟩
abbrev cX6_goes : ByteArray := prog_8_method_19_code
def yX6_goes : MethodName := ⟨RX6, "goes", "(II)Z"⟩
abbrev cX6_firstGoing : ByteArray := prog_8_method_20_code
def yX6_firstGoing : MethodName := ⟨RX6, "firstGoing", "(II)I"⟩
abbrev cX6_spread : ByteArray := prog_8_method_21_code
def yX6_spread : MethodName := ⟨RX6, "spread", "(II)I"⟩
abbrev cX6_worthOf : ByteArray := prog_8_method_22_code
def yX6_worthOf : MethodName := ⟨RX6, "worthOf", "(I)I"⟩
abbrev cX6_canDo : ByteArray := prog_8_method_23_code
def yX6_canDo : MethodName := ⟨RX6, "canDo", "(I)I"⟩
abbrev cX6_teamCanDo : ByteArray := prog_8_method_24_code
def yX6_teamCanDo : MethodName := ⟨RX6, "teamCanDo", "(I)I"⟩
abbrev cX6_teamKnows : ByteArray := prog_8_method_25_code
def yX6_teamKnows : MethodName := ⟨RX6, "teamKnows", "(I)I"⟩
abbrev cX6_addStep : ByteArray := prog_8_method_26_code
def yX6_addStep : MethodName := ⟨RX6, "addStep", "(II)V"⟩
abbrev cX6_dropStep : ByteArray := prog_8_method_27_code
def yX6_dropStep : MethodName := ⟨RX6, "dropStep", "()V"⟩
abbrev cX6_holedSteps : ByteArray := prog_8_method_28_code
def yX6_holedSteps : MethodName := ⟨RX6, "holedSteps", "(I)I"⟩
def RX7 : String := "ProvedTable"
def TX7 : u_T := fun k => match k with
  | 0 => ("ProvedTable", "reader", "LProvedTable$Reader;", true)
  | 1 => ("ProvedTable", "table", "LProvedTable$Table;", true)
  | 2 => ("ProvedTable", "draft", "LProvedTable$Table;", true)
  | 3 => ("ProvedTable", "images", "[LProvedTable$Table;", true)
  | 4 => ("ProvedTable", "isKept", "[Z", true)
  | 5 => ("ProvedTable", "rows", "[LProvedTable$Row;", true)
  | 6 => ("ProvedTable", "proofSheet", "LProvedTable$Sheet;", true)
  | 7 => ("ProvedTable", "isProofSheetStale", "Z", false)
  | 8 => ("ProvedTable", "scratch", "LProvedTable$Sheet;", true)
  | 9 => ("ProvedTable", "reading", "LProvedTable$Reading;", true)
  | 10 => ("ProvedTable", "kitchenRun", "LProvedTable$Kitchen;", true)
  | _ => ("ProvedTable", "doubt", "LProvedTable$Doubt;", true)
def tyX7 : Nat → FieldType := fun k => match k with
  | 0 => .object "ProvedTable$Reader"
  | 1 => .object "ProvedTable$Table"
  | 2 => .object "ProvedTable$Table"
  | 3 => .array (.object "ProvedTable$Table")
  | 4 => .array .boolean
  | 5 => .array (.object "ProvedTable$Row")
  | 6 => .object "ProvedTable$Sheet"
  | 7 => .boolean
  | 8 => .object "ProvedTable$Sheet"
  | 9 => .object "ProvedTable$Reading"
  | 10 => .object "ProvedTable$Kitchen"
  | _ => .object "ProvedTable$Doubt"
theorem nmX7 : ∀ a, a < 12 → ∀ b, b < 12 → a ≠ b → (TX7 a).2.1 ≠ (TX7 b).2.1 := by decide +kernel
theorem tyX7_ok : ∀ k, k < 12 → parseFieldDescriptor (TX7 k).2.2.1 = some (tyX7 k) := by decide +kernel
abbrev cX7_init : ByteArray := prog_1_method_1_code
def yX7_init : MethodName := ⟨RX7, "<init>", "()V"⟩
abbrev cX7_feed : ByteArray := prog_1_method_2_code
def yX7_feed : MethodName := ⟨RX7, "feed", "(IIIII)I"⟩
abbrev cX7_end : ByteArray := prog_1_method_3_code
def yX7_end : MethodName := ⟨RX7, "end", "(I)I"⟩
abbrev cX7_table : ByteArray := prog_1_method_4_code
def yX7_table : MethodName := ⟨RX7, "table", "()I"⟩
abbrev cX7_fault : ByteArray := prog_1_method_5_code
def yX7_fault : MethodName := ⟨RX7, "fault", "(I)I"⟩
abbrev cX7_claim : ByteArray := prog_1_method_6_code
def yX7_claim : MethodName := ⟨RX7, "claim", "(II)I"⟩
abbrev cX7_holds : ByteArray := prog_1_method_7_code
def yX7_holds : MethodName := ⟨RX7, "holds", "(I)I"⟩
abbrev cX7_step : ByteArray := prog_1_method_8_code
def yX7_step : MethodName := ⟨RX7, "step", "(II)I"⟩
abbrev cX7_guest : ByteArray := prog_1_method_9_code
def yX7_guest : MethodName := ⟨RX7, "guest", "(II)I"⟩
abbrev cX7_salted : ByteArray := prog_1_method_10_code
def yX7_salted : MethodName := ⟨RX7, "salted", "()I"⟩
abbrev cX7_follows : ByteArray := prog_1_method_11_code
def yX7_follows : MethodName := ⟨RX7, "follows", "(I)I"⟩
abbrev cX7_counter : ByteArray := prog_1_method_12_code
def yX7_counter : MethodName := ⟨RX7, "counter", "(I)I"⟩
abbrev cX7_entails : ByteArray := prog_1_method_13_code
def yX7_entails : MethodName := ⟨RX7, "entails", "(II)I"⟩
abbrev cX7_alike : ByteArray := prog_1_method_14_code
def yX7_alike : MethodName := ⟨RX7, "alike", "(I)I"⟩
abbrev cX7_falsity : ByteArray := prog_1_method_15_code
def yX7_falsity : MethodName := ⟨RX7, "falsity", "(I)I"⟩
abbrev cX7_proved : ByteArray := prog_1_method_16_code
def yX7_proved : MethodName := ⟨RX7, "proved", "()I"⟩
abbrev cX7_wrong : ByteArray := prog_1_method_17_code
def yX7_wrong : MethodName := ⟨RX7, "wrong", "()I"⟩
abbrev cX7_covered : ByteArray := prog_1_method_18_code
def yX7_covered : MethodName := ⟨RX7, "covered", "()I"⟩
abbrev cX7_reads : ByteArray := prog_1_method_19_code
def yX7_reads : MethodName := ⟨RX7, "reads", "(I)I"⟩
abbrev cX7_why : ByteArray := prog_1_method_20_code
def yX7_why : MethodName := ⟨RX7, "why", "(I)I"⟩
abbrev cX7_reached : ByteArray := prog_1_method_21_code
def yX7_reached : MethodName := ⟨RX7, "reached", "(I)I"⟩
abbrev cX7_eats : ByteArray := prog_1_method_22_code
def yX7_eats : MethodName := ⟨RX7, "eats", "(II)I"⟩
abbrev cX7_used : ByteArray := prog_1_method_23_code
def yX7_used : MethodName := ⟨RX7, "used", "(II)I"⟩
abbrev cX7_same : ByteArray := prog_1_method_24_code
def yX7_same : MethodName := ⟨RX7, "same", "(III)I"⟩
abbrev cX7_shortest : ByteArray := prog_1_method_25_code
def yX7_shortest : MethodName := ⟨RX7, "shortest", "(I)I"⟩
abbrev cX7_proof : ByteArray := prog_1_method_26_code
def yX7_proof : MethodName := ⟨RX7, "proof", "(I)I"⟩
abbrev cX7_bite : ByteArray := prog_1_method_27_code
def yX7_bite : MethodName := ⟨RX7, "bite", "(II)I"⟩
abbrev cX7_proofs : ByteArray := prog_1_method_28_code
def yX7_proofs : MethodName := ⟨RX7, "proofs", "(I)I"⟩
abbrev cX7_needs : ByteArray := prog_1_method_29_code
def yX7_needs : MethodName := ⟨RX7, "needs", "(I)I"⟩
abbrev cX7_rests : ByteArray := prog_1_method_30_code
def yX7_rests : MethodName := ⟨RX7, "rests", "(I)I"⟩
abbrev cX7_menu : ByteArray := prog_1_method_31_code
def yX7_menu : MethodName := ⟨RX7, "menu", "(I)I"⟩
abbrev cX7_course : ByteArray := prog_1_method_32_code
def yX7_course : MethodName := ⟨RX7, "course", "(I)I"⟩
abbrev cX7_dishes : ByteArray := prog_1_method_33_code
def yX7_dishes : MethodName := ⟨RX7, "dishes", "(I)I"⟩
abbrev cX7_takes : ByteArray := prog_1_method_34_code
def yX7_takes : MethodName := ⟨RX7, "takes", "(II)I"⟩
abbrev cX7_who : ByteArray := prog_1_method_35_code
def yX7_who : MethodName := ⟨RX7, "who", "(I)I"⟩
abbrev cX7_host : ByteArray := prog_1_method_36_code
def yX7_host : MethodName := ⟨RX7, "host", "(I)I"⟩
abbrev cX7_lemma : ByteArray := prog_1_method_37_code
def yX7_lemma : MethodName := ⟨RX7, "lemma", "(I)I"⟩
abbrev cX7_brings : ByteArray := prog_1_method_38_code
def yX7_brings : MethodName := ⟨RX7, "brings", "(I)I"⟩
abbrev cX7_strength : ByteArray := prog_1_method_39_code
def yX7_strength : MethodName := ⟨RX7, "strength", "(I)I"⟩
abbrev cX7_together : ByteArray := prog_1_method_40_code
def yX7_together : MethodName := ⟨RX7, "together", "(II)I"⟩
abbrev cX7_fewest : ByteArray := prog_1_method_41_code
def yX7_fewest : MethodName := ⟨RX7, "fewest", "(I)I"⟩
abbrev cX7_team : ByteArray := prog_1_method_42_code
def yX7_team : MethodName := ⟨RX7, "team", "(I)I"⟩
abbrev cX7_claims : ByteArray := prog_1_method_43_code
def yX7_claims : MethodName := ⟨RX7, "claims", "(II)I"⟩
abbrev cX7_outcome : ByteArray := prog_1_method_44_code
def yX7_outcome : MethodName := ⟨RX7, "outcome", "(II)I"⟩
abbrev cX7_kitchen : ByteArray := prog_1_method_45_code
def yX7_kitchen : MethodName := ⟨RX7, "kitchen", "(II)I"⟩
abbrev cX7_when : ByteArray := prog_1_method_46_code
def yX7_when : MethodName := ⟨RX7, "when", "(II)I"⟩
abbrev cX7_shares : ByteArray := prog_1_method_47_code
def yX7_shares : MethodName := ⟨RX7, "shares", "(II)I"⟩
abbrev cX7_busy : ByteArray := prog_1_method_48_code
def yX7_busy : MethodName := ⟨RX7, "busy", "(III)I"⟩
abbrev cX7_duel : ByteArray := prog_1_method_49_code
def yX7_duel : MethodName := ⟨RX7, "duel", "()I"⟩
abbrev cX7_move : ByteArray := prog_1_method_50_code
def yX7_move : MethodName := ⟨RX7, "move", "()I"⟩
abbrev cX7_lasts : ByteArray := prog_1_method_51_code
def yX7_lasts : MethodName := ⟨RX7, "lasts", "()I"⟩
abbrev cX7_idle : ByteArray := prog_1_method_52_code
def yX7_idle : MethodName := ⟨RX7, "idle", "()I"⟩
abbrev cX7_core : ByteArray := prog_1_method_53_code
def yX7_core : MethodName := ⟨RX7, "core", "()I"⟩
abbrev cX7_cored : ByteArray := prog_1_method_54_code
def yX7_cored : MethodName := ⟨RX7, "cored", "()I"⟩
abbrev cX7_likely : ByteArray := prog_1_method_55_code
def yX7_likely : MethodName := ⟨RX7, "likely", "(II)I"⟩
abbrev cX7_ask : ByteArray := prog_1_method_56_code
def yX7_ask : MethodName := ⟨RX7, "ask", "()I"⟩
abbrev cX7_leaves : ByteArray := prog_1_method_57_code
def yX7_leaves : MethodName := ⟨RX7, "leaves", "()I"⟩
abbrev cX7_unlike : ByteArray := prog_1_method_58_code
def yX7_unlike : MethodName := ⟨RX7, "unlike", "()I"⟩
abbrev cX7_falls : ByteArray := prog_1_method_59_code
def yX7_falls : MethodName := ⟨RX7, "falls", "(I)I"⟩
abbrev cX7_spare : ByteArray := prog_1_method_60_code
def yX7_spare : MethodName := ⟨RX7, "spare", "(I)I"⟩
abbrev cX7_spared : ByteArray := prog_1_method_61_code
def yX7_spared : MethodName := ⟨RX7, "spared", "(I)I"⟩
abbrev cX7_salt : ByteArray := prog_1_method_62_code
def yX7_salt : MethodName := ⟨RX7, "salt", "(II)I"⟩
abbrev cX7_ate : ByteArray := prog_1_method_63_code
def yX7_ate : MethodName := ⟨RX7, "ate", "(I)I"⟩
abbrev cX7_borrowed : ByteArray := prog_1_method_64_code
def yX7_borrowed : MethodName := ⟨RX7, "borrowed", "(II)I"⟩
abbrev cX7_lent : ByteArray := prog_1_method_65_code
def yX7_lent : MethodName := ⟨RX7, "lent", "(II)I"⟩
abbrev cX7_adds : ByteArray := prog_1_method_66_code
def yX7_adds : MethodName := ⟨RX7, "adds", "(II)I"⟩
abbrev cX7_drops : ByteArray := prog_1_method_67_code
def yX7_drops : MethodName := ⟨RX7, "drops", "()I"⟩
abbrev cX7_teach : ByteArray := prog_1_method_68_code
def yX7_teach : MethodName := ⟨RX7, "teach", "(III)I"⟩
abbrev cX7_drawn : ByteArray := prog_1_method_69_code
def yX7_drawn : MethodName := ⟨RX7, "drawn", "(I)I"⟩
abbrev cX7_feast : ByteArray := prog_1_method_70_code
def yX7_feast : MethodName := ⟨RX7, "feast", "(II)I"⟩
abbrev cX7_mean : ByteArray := prog_1_method_71_code
def yX7_mean : MethodName := ⟨RX7, "mean", "(IIII)I"⟩
abbrev cX7_count : ByteArray := prog_1_method_72_code
def yX7_count : MethodName := ⟨RX7, "count", "(I)I"⟩
abbrev cX7_image : ByteArray := prog_1_method_73_code
def yX7_image : MethodName := ⟨RX7, "image", "(I)I"⟩
abbrev cX7_back : ByteArray := prog_1_method_74_code
def yX7_back : MethodName := ⟨RX7, "back", "(I)I"⟩
abbrev cX7_row : ByteArray := prog_1_method_75_code
def yX7_row : MethodName := ⟨RX7, "row", "(III)I"⟩
abbrev cX7_write : ByteArray := prog_1_method_76_code
def yX7_write : MethodName := ⟨RX7, "write", "(IIJ)I"⟩
abbrev cX7_paste : ByteArray := prog_1_method_77_code
def yX7_paste : MethodName := ⟨RX7, "paste", "(IIIII)I"⟩
abbrev cX7_bit : ByteArray := prog_1_method_78_code
def yX7_bit : MethodName := ⟨RX7, "bit", "(Z)I"⟩
abbrev cX7_isBit : ByteArray := prog_1_method_79_code
def yX7_isBit : MethodName := ⟨RX7, "isBit", "(I)Z"⟩
abbrev cX7_withBit : ByteArray := prog_1_method_80_code
def yX7_withBit : MethodName := ⟨RX7, "withBit", "(III)I"⟩
abbrev cX7_lowestBit : ByteArray := prog_1_method_81_code
def yX7_lowestBit : MethodName := ⟨RX7, "lowestBit", "(I)I"⟩
abbrev cX7_sizeOrNone : ByteArray := prog_1_method_82_code
def yX7_sizeOrNone : MethodName := ⟨RX7, "sizeOrNone", "(I)I"⟩
abbrev cX7_isSlot : ByteArray := prog_1_method_83_code
def yX7_isSlot : MethodName := ⟨RX7, "isSlot", "(I)Z"⟩
abbrev cX7_isSeed : ByteArray := prog_1_method_84_code
def yX7_isSeed : MethodName := ⟨RX7, "isSeed", "(I)Z"⟩
abbrev cX7_greatestDivisor : ByteArray := prog_1_method_85_code
def yX7_greatestDivisor : MethodName := ⟨RX7, "greatestDivisor", "(II)I"⟩
abbrev cX7_partOfFraction : ByteArray := prog_1_method_86_code
def yX7_partOfFraction : MethodName := ⟨RX7, "partOfFraction", "(III)I"⟩
abbrev cX7_rowsThere : ByteArray := prog_1_method_87_code
def yX7_rowsThere : MethodName := ⟨RX7, "rowsThere", "()I"⟩
abbrev cX7_refusalOfSlot : ByteArray := prog_1_method_88_code
def yX7_refusalOfSlot : MethodName := ⟨RX7, "refusalOfSlot", "(I)I"⟩
abbrev cX7_refusalOfSteps : ByteArray := prog_1_method_89_code
def yX7_refusalOfSteps : MethodName := ⟨RX7, "refusalOfSteps", "(I)I"⟩
abbrev cX7_refusalOfPairs : ByteArray := prog_1_method_90_code
def yX7_refusalOfPairs : MethodName := ⟨RX7, "refusalOfPairs", "(I)I"⟩
abbrev cX7_refusalOfDishes : ByteArray := prog_1_method_91_code
def yX7_refusalOfDishes : MethodName := ⟨RX7, "refusalOfDishes", "(I)I"⟩
abbrev cX7_freshProofs : ByteArray := prog_1_method_92_code
def yX7_freshProofs : MethodName := ⟨RX7, "freshProofs", "()LProvedTable$Sheet;"⟩
abbrev cX7_provedByAll : ByteArray := prog_1_method_93_code
def yX7_provedByAll : MethodName := ⟨RX7, "provedByAll", "()I"⟩
abbrev cX7_provedWithout : ByteArray := prog_1_method_94_code
def yX7_provedWithout : MethodName := ⟨RX7, "provedWithout", "(I)I"⟩
abbrev cX7_shortestSet : ByteArray := prog_1_method_95_code
def yX7_shortestSet : MethodName := ⟨RX7, "shortestSet", "(I)I"⟩
abbrev cX7_menuSet : ByteArray := prog_1_method_96_code
def yX7_menuSet : MethodName := ⟨RX7, "menuSet", "(II)I"⟩
abbrev cX7_menuWorth : ByteArray := prog_1_method_97_code
def yX7_menuWorth : MethodName := ⟨RX7, "menuWorth", "(II)I"⟩
abbrev cX7_worthWithLemma : ByteArray := prog_1_method_98_code
def yX7_worthWithLemma : MethodName := ⟨RX7, "worthWithLemma", "(II)I"⟩
abbrev cX7_guestsProving : ByteArray := prog_1_method_99_code
def yX7_guestsProving : MethodName := ⟨RX7, "guestsProving", "(I)I"⟩
abbrev cX7_doesTeamProve : ByteArray := prog_1_method_100_code
def yX7_doesTeamProve : MethodName := ⟨RX7, "doesTeamProve", "(II)Z"⟩
abbrev cX7_leastTeam : ByteArray := prog_1_method_101_code
def yX7_leastTeam : MethodName := ⟨RX7, "leastTeam", "(I)I"⟩
abbrev cX7_lengthOfDuel : ByteArray := prog_1_method_102_code
def yX7_lengthOfDuel : MethodName := ⟨RX7, "lengthOfDuel", "()I"⟩
abbrev cX7_coreSet : ByteArray := prog_1_method_103_code
def yX7_coreSet : MethodName := ⟨RX7, "coreSet", "()I"⟩
abbrev cX7_leastSaltFor : ByteArray := prog_1_method_104_code
def yX7_leastSaltFor : MethodName := ⟨RX7, "leastSaltFor", "(I)I"⟩
def RX8 : String := "ProvedTableModel"
def TX8 : u_T := fun k => match k with
  | 0 => ("ProvedTableModel", "thrown", "I", false)
  | 1 => ("ProvedTableModel", "world", "[I", true)
  | 2 => ("ProvedTableModel", "images", "[I", true)
  | 3 => ("ProvedTableModel", "hasImage", "[Z", true)
  | 4 => ("ProvedTableModel", "tape", "[B", true)
  | 5 => ("ProvedTableModel", "taped", "I", false)
  | 6 => ("ProvedTableModel", "five", "[I", true)
  | 7 => ("ProvedTableModel", "size", "I", false)
  | 8 => ("ProvedTableModel", "at", "I", false)
  | 9 => ("ProvedTableModel", "from", "I", false)
  | 10 => ("ProvedTableModel", "token", "I", false)
  | 11 => ("ProvedTableModel", "value", "I", false)
  | 12 => ("ProvedTableModel", "faultKind", "I", false)
  | 13 => ("ProvedTableModel", "faultPlace", "I", false)
  | 14 => ("ProvedTableModel", "fresh", "[I", true)
  | 15 => ("ProvedTableModel", "openWord", "[I", true)
  | 16 => ("ProvedTableModel", "hasFirst", "[Z", true)
  | 17 => ("ProvedTableModel", "firstPart", "[I", true)
  | 18 => ("ProvedTableModel", "leaf", "I", false)
  | 19 => ("ProvedTableModel", "readMany", "I", false)
  | 20 => ("ProvedTableModel", "readProved", "I", false)
  | 21 => ("ProvedTableModel", "menuSet", "I", false)
  | 22 => ("ProvedTableModel", "bringsAbout", "[Z", true)
  | 23 => ("ProvedTableModel", "provedAt", "[I", true)
  | 24 => ("ProvedTableModel", "gaveIt", "[I", true)
  | 25 => ("ProvedTableModel", "throughAt", "[I", true)
  | 26 => ("ProvedTableModel", "worked", "[I", true)
  | 27 => ("ProvedTableModel", "pairsGone", "I", false)
  | 28 => ("ProvedTableModel", "allThrough", "I", false)
  | 29 => ("ProvedTableModel", "duels", "[I", true)
  | 30 => ("ProvedTableModel", "many", "[I", true)
  | 31 => ("ProvedTableModel", "width", "[I", true)
  | 32 => ("ProvedTableModel", "numbers", "[J", true)
  | _ => ("ProvedTableModel", "moving", "[J", true)
def tyX8 : Nat → FieldType := fun k => match k with
  | 0 => .int
  | 1 => .array .int
  | 2 => .array .int
  | 3 => .array .boolean
  | 4 => .array .byte
  | 5 => .int
  | 6 => .array .int
  | 7 => .int
  | 8 => .int
  | 9 => .int
  | 10 => .int
  | 11 => .int
  | 12 => .int
  | 13 => .int
  | 14 => .array .int
  | 15 => .array .int
  | 16 => .array .boolean
  | 17 => .array .int
  | 18 => .int
  | 19 => .int
  | 20 => .int
  | 21 => .int
  | 22 => .array .boolean
  | 23 => .array .int
  | 24 => .array .int
  | 25 => .array .int
  | 26 => .array .int
  | 27 => .int
  | 28 => .int
  | 29 => .array .int
  | 30 => .array .int
  | 31 => .array .int
  | 32 => .array .long
  | _ => .array .long
theorem nmX8 : ∀ a, a < 34 → ∀ b, b < 34 → a ≠ b → (TX8 a).2.1 ≠ (TX8 b).2.1 := by decide +kernel
theorem tyX8_ok : ∀ k, k < 34 → parseFieldDescriptor (TX8 k).2.2.1 = some (tyX8 k) := by decide +kernel
abbrev cX8_init : ByteArray := prog_10_method_1_code
def yX8_init : MethodName := ⟨RX8, "<init>", "()V"⟩
abbrev cX8_in : ByteArray := prog_10_method_3_code
def yX8_in : MethodName := ⟨RX8, "in", "(JJJ)Z"⟩
abbrev cX8_bits : ByteArray := prog_10_method_4_code
def yX8_bits : MethodName := ⟨RX8, "bits", "(I)I"⟩
abbrev cX8_bit : ByteArray := prog_10_method_5_code
def yX8_bit : MethodName := ⟨RX8, "bit", "(II)I"⟩
abbrev cX8_image : ByteArray := prog_10_method_6_code
def yX8_image : MethodName := ⟨RX8, "image", "(I)I"⟩
abbrev cX8_back : ByteArray := prog_10_method_7_code
def yX8_back : MethodName := ⟨RX8, "back", "(I)I"⟩
abbrev cX8_isTable : ByteArray := prog_10_method_8_code
def yX8_isTable : MethodName := ⟨RX8, "isTable", "()Z"⟩
abbrev cX8_isClaim : ByteArray := prog_10_method_9_code
def yX8_isClaim : MethodName := ⟨RX8, "isClaim", "(J)Z"⟩
abbrev cX8_isStep : ByteArray := prog_10_method_10_code
def yX8_isStep : MethodName := ⟨RX8, "isStep", "(J)Z"⟩
abbrev cX8_isGuest : ByteArray := prog_10_method_11_code
def yX8_isGuest : MethodName := ⟨RX8, "isGuest", "(J)Z"⟩
abbrev cX8_ofClaim : ByteArray := prog_10_method_12_code
def yX8_ofClaim : MethodName := ⟨RX8, "ofClaim", "(II)I"⟩
abbrev cX8_ofStep : ByteArray := prog_10_method_13_code
def yX8_ofStep : MethodName := ⟨RX8, "ofStep", "(II)I"⟩
abbrev cX8_ofGuest : ByteArray := prog_10_method_14_code
def yX8_ofGuest : MethodName := ⟨RX8, "ofGuest", "(II)I"⟩
abbrev cX8_allClaims : ByteArray := prog_10_method_15_code
def yX8_allClaims : MethodName := ⟨RX8, "allClaims", "()I"⟩
abbrev cX8_allSteps : ByteArray := prog_10_method_16_code
def yX8_allSteps : MethodName := ⟨RX8, "allSteps", "()I"⟩
abbrev cX8_allGuests : ByteArray := prog_10_method_17_code
def yX8_allGuests : MethodName := ⟨RX8, "allGuests", "()I"⟩
abbrev cX8_worlds : ByteArray := prog_10_method_18_code
def yX8_worlds : MethodName := ⟨RX8, "worlds", "()I"⟩
abbrev cX8_allWorlds : ByteArray := prog_10_method_19_code
def yX8_allWorlds : MethodName := ⟨RX8, "allWorlds", "()I"⟩
abbrev cX8_saltNow : ByteArray := prog_10_method_20_code
def yX8_saltNow : MethodName := ⟨RX8, "saltNow", "()I"⟩
abbrev cX8_feed : ByteArray := prog_10_method_21_code
def yX8_feed : MethodName := ⟨RX8, "feed", "(IIIII)I"⟩
abbrev cX8_end : ByteArray := prog_10_method_22_code
def yX8_end : MethodName := ⟨RX8, "end", "(I)I"⟩
abbrev cX8_see : ByteArray := prog_10_method_23_code
def yX8_see : MethodName := ⟨RX8, "see", "(I)I"⟩
abbrev cX8_advance : ByteArray := prog_10_method_24_code
def yX8_advance : MethodName := ⟨RX8, "advance", "()V"⟩
abbrev cX8_good : ByteArray := prog_10_method_25_code
def yX8_good : MethodName := ⟨RX8, "good", "()Z"⟩
abbrev cX8_errs : ByteArray := prog_10_method_26_code
def yX8_errs : MethodName := ⟨RX8, "errs", "(I)V"⟩
abbrev cX8_is : ByteArray := prog_10_method_27_code
def yX8_is : MethodName := ⟨RX8, "is", "(Ljava/lang/String;)Z"⟩
abbrev cX8_takes : ByteArray := prog_10_method_28_code
def yX8_takes : MethodName := ⟨RX8, "takes", "(Ljava/lang/String;)Z"⟩
abbrev cX8_needs : ByteArray := prog_10_method_29_code
def yX8_needs : MethodName := ⟨RX8, "needs", "(Ljava/lang/String;)V"⟩
abbrev cX8_number : ByteArray := prog_10_method_30_code
def yX8_number : MethodName := ⟨RX8, "number", "(II)I"⟩
abbrev cX8_told : ByteArray := prog_10_method_31_code
def yX8_told : MethodName := ⟨RX8, "told", "(Ljava/lang/String;II)I"⟩
abbrev cX8_fault : ByteArray := prog_10_method_32_code
def yX8_fault : MethodName := ⟨RX8, "fault", "(I)I"⟩
abbrev cX8_freshAll : ByteArray := prog_10_method_33_code
def yX8_freshAll : MethodName := ⟨RX8, "freshAll", "()I"⟩
abbrev cX8_atomWorlds : ByteArray := prog_10_method_34_code
def yX8_atomWorlds : MethodName := ⟨RX8, "atomWorlds", "(I)I"⟩
abbrev cX8_formWord : ByteArray := prog_10_method_35_code
def yX8_formWord : MethodName := ⟨RX8, "formWord", "()I"⟩
abbrev cX8_joined : ByteArray := prog_10_method_36_code
def yX8_joined : MethodName := ⟨RX8, "joined", "(III)I"⟩
abbrev cX8_form : ByteArray := prog_10_method_37_code
def yX8_form : MethodName := ⟨RX8, "form", "()I"⟩
abbrev cX8_freshClaim : ByteArray := prog_10_method_38_code
def yX8_freshClaim : MethodName := ⟨RX8, "freshClaim", "()I"⟩
abbrev cX8_readClaim : ByteArray := prog_10_method_39_code
def yX8_readClaim : MethodName := ⟨RX8, "readClaim", "()V"⟩
abbrev cX8_isNextIn : ByteArray := prog_10_method_40_code
def yX8_isNextIn : MethodName := ⟨RX8, "isNextIn", "(I)Z"⟩
abbrev cX8_readSalt : ByteArray := prog_10_method_41_code
def yX8_readSalt : MethodName := ⟨RX8, "readSalt", "()V"⟩
abbrev cX8_readStep : ByteArray := prog_10_method_42_code
def yX8_readStep : MethodName := ⟨RX8, "readStep", "()V"⟩
abbrev cX8_readGuest : ByteArray := prog_10_method_43_code
def yX8_readGuest : MethodName := ⟨RX8, "readGuest", "()V"⟩
abbrev cX8_readNext : ByteArray := prog_10_method_44_code
def yX8_readNext : MethodName := ⟨RX8, "readNext", "()V"⟩
abbrev cX8_readLine : ByteArray := prog_10_method_45_code
def yX8_readLine : MethodName := ⟨RX8, "readLine", "()V"⟩
abbrev cX8_table : ByteArray := prog_10_method_46_code
def yX8_table : MethodName := ⟨RX8, "table", "()I"⟩
abbrev cX8_saltedBy : ByteArray := prog_10_method_47_code
def yX8_saltedBy : MethodName := ⟨RX8, "saltedBy", "(I)I"⟩
abbrev cX8_saltedNow : ByteArray := prog_10_method_48_code
def yX8_saltedNow : MethodName := ⟨RX8, "saltedNow", "()I"⟩
abbrev cX8_lowest : ByteArray := prog_10_method_49_code
def yX8_lowest : MethodName := ⟨RX8, "lowest", "(I)I"⟩
abbrev cX8_falseIn : ByteArray := prog_10_method_50_code
def yX8_falseIn : MethodName := ⟨RX8, "falseIn", "(I)I"⟩
abbrev cX8_isFollowing : ByteArray := prog_10_method_51_code
def yX8_isFollowing : MethodName := ⟨RX8, "isFollowing", "(I)Z"⟩
abbrev cX8_claim : ByteArray := prog_10_method_52_code
def yX8_claim : MethodName := ⟨RX8, "claim", "(II)I"⟩
abbrev cX8_holds : ByteArray := prog_10_method_53_code
def yX8_holds : MethodName := ⟨RX8, "holds", "(I)I"⟩
abbrev cX8_step : ByteArray := prog_10_method_54_code
def yX8_step : MethodName := ⟨RX8, "step", "(II)I"⟩
abbrev cX8_canDo : ByteArray := prog_10_method_55_code
def yX8_canDo : MethodName := ⟨RX8, "canDo", "(I)I"⟩
abbrev cX8_guest : ByteArray := prog_10_method_56_code
def yX8_guest : MethodName := ⟨RX8, "guest", "(II)I"⟩
abbrev cX8_salted : ByteArray := prog_10_method_57_code
def yX8_salted : MethodName := ⟨RX8, "salted", "()I"⟩
abbrev cX8_follows : ByteArray := prog_10_method_58_code
def yX8_follows : MethodName := ⟨RX8, "follows", "(I)I"⟩
abbrev cX8_counter : ByteArray := prog_10_method_59_code
def yX8_counter : MethodName := ⟨RX8, "counter", "(I)I"⟩
abbrev cX8_entails : ByteArray := prog_10_method_60_code
def yX8_entails : MethodName := ⟨RX8, "entails", "(II)I"⟩
abbrev cX8_alike : ByteArray := prog_10_method_61_code
def yX8_alike : MethodName := ⟨RX8, "alike", "(I)I"⟩
abbrev cX8_falsity : ByteArray := prog_10_method_62_code
def yX8_falsity : MethodName := ⟨RX8, "falsity", "(I)I"⟩
abbrev cX8_goes : ByteArray := prog_10_method_63_code
def yX8_goes : MethodName := ⟨RX8, "goes", "(II)Z"⟩
abbrev cX8_provedBy : ByteArray := prog_10_method_64_code
def yX8_provedBy : MethodName := ⟨RX8, "provedBy", "(II)I"⟩
abbrev cX8_provedNow : ByteArray := prog_10_method_65_code
def yX8_provedNow : MethodName := ⟨RX8, "provedNow", "()I"⟩
abbrev cX8_following : ByteArray := prog_10_method_66_code
def yX8_following : MethodName := ⟨RX8, "following", "()I"⟩
abbrev cX8_proved : ByteArray := prog_10_method_67_code
def yX8_proved : MethodName := ⟨RX8, "proved", "()I"⟩
abbrev cX8_wrong : ByteArray := prog_10_method_68_code
def yX8_wrong : MethodName := ⟨RX8, "wrong", "()I"⟩
abbrev cX8_covered : ByteArray := prog_10_method_69_code
def yX8_covered : MethodName := ⟨RX8, "covered", "()I"⟩
abbrev cX8_numberAt : ByteArray := prog_10_method_70_code
def yX8_numberAt : MethodName := ⟨RX8, "numberAt", "(II)J"⟩
abbrev cX8_asksRow : ByteArray := prog_10_method_71_code
def yX8_asksRow : MethodName := ⟨RX8, "asksRow", "(IZ)I"⟩
abbrev cX8_readRow : ByteArray := prog_10_method_72_code
def yX8_readRow : MethodName := ⟨RX8, "readRow", "(I)V"⟩
abbrev cX8_reads : ByteArray := prog_10_method_73_code
def yX8_reads : MethodName := ⟨RX8, "reads", "(I)I"⟩
abbrev cX8_why : ByteArray := prog_10_method_74_code
def yX8_why : MethodName := ⟨RX8, "why", "(I)I"⟩
abbrev cX8_reached : ByteArray := prog_10_method_75_code
def yX8_reached : MethodName := ⟨RX8, "reached", "(I)I"⟩
abbrev cX8_eats : ByteArray := prog_10_method_76_code
def yX8_eats : MethodName := ⟨RX8, "eats", "(II)I"⟩
abbrev cX8_usedBy : ByteArray := prog_10_method_77_code
def yX8_usedBy : MethodName := ⟨RX8, "usedBy", "(II)I"⟩
abbrev cX8_used : ByteArray := prog_10_method_78_code
def yX8_used : MethodName := ⟨RX8, "used", "(II)I"⟩
abbrev cX8_same : ByteArray := prog_10_method_79_code
def yX8_same : MethodName := ⟨RX8, "same", "(III)I"⟩
abbrev cX8_fewestSteps : ByteArray := prog_10_method_80_code
def yX8_fewestSteps : MethodName := ⟨RX8, "fewestSteps", "(III)I"⟩
abbrev cX8_proofOf : ByteArray := prog_10_method_81_code
def yX8_proofOf : MethodName := ⟨RX8, "proofOf", "(I)I"⟩
abbrev cX8_shortest : ByteArray := prog_10_method_82_code
def yX8_shortest : MethodName := ⟨RX8, "shortest", "(I)I"⟩
abbrev cX8_proof : ByteArray := prog_10_method_83_code
def yX8_proof : MethodName := ⟨RX8, "proof", "(I)I"⟩
abbrev cX8_bite : ByteArray := prog_10_method_84_code
def yX8_bite : MethodName := ⟨RX8, "bite", "(II)I"⟩
abbrev cX8_isProvedBy : ByteArray := prog_10_method_85_code
def yX8_isProvedBy : MethodName := ⟨RX8, "isProvedBy", "(II)Z"⟩
abbrev cX8_isLeastProof : ByteArray := prog_10_method_86_code
def yX8_isLeastProof : MethodName := ⟨RX8, "isLeastProof", "(II)Z"⟩
abbrev cX8_proofs : ByteArray := prog_10_method_87_code
def yX8_proofs : MethodName := ⟨RX8, "proofs", "(I)I"⟩
abbrev cX8_needs_ : ByteArray := prog_10_method_88_code
def yX8_needs_ : MethodName := ⟨RX8, "needs", "(I)I"⟩
abbrev cX8_rests : ByteArray := prog_10_method_89_code
def yX8_rests : MethodName := ⟨RX8, "rests", "(I)I"⟩
abbrev cX8_worthsOf : ByteArray := prog_10_method_90_code
def yX8_worthsOf : MethodName := ⟨RX8, "worthsOf", "(I)I"⟩
abbrev cX8_mostBy : ByteArray := prog_10_method_91_code
def yX8_mostBy : MethodName := ⟨RX8, "mostBy", "(III)I"⟩
abbrev cX8_menuOf : ByteArray := prog_10_method_92_code
def yX8_menuOf : MethodName := ⟨RX8, "menuOf", "(I)I"⟩
abbrev cX8_menu : ByteArray := prog_10_method_93_code
def yX8_menu : MethodName := ⟨RX8, "menu", "(I)I"⟩
abbrev cX8_course : ByteArray := prog_10_method_94_code
def yX8_course : MethodName := ⟨RX8, "course", "(I)I"⟩
abbrev cX8_dishes : ByteArray := prog_10_method_95_code
def yX8_dishes : MethodName := ⟨RX8, "dishes", "(I)I"⟩
abbrev cX8_areClaims : ByteArray := prog_10_method_96_code
def yX8_areClaims : MethodName := ⟨RX8, "areClaims", "(I)Z"⟩
abbrev cX8_takes_ : ByteArray := prog_10_method_97_code
def yX8_takes_ : MethodName := ⟨RX8, "takes", "(II)I"⟩
abbrev cX8_canProve : ByteArray := prog_10_method_98_code
def yX8_canProve : MethodName := ⟨RX8, "canProve", "(II)Z"⟩
abbrev cX8_whoOf : ByteArray := prog_10_method_99_code
def yX8_whoOf : MethodName := ⟨RX8, "whoOf", "(I)I"⟩
abbrev cX8_who : ByteArray := prog_10_method_100_code
def yX8_who : MethodName := ⟨RX8, "who", "(I)I"⟩
abbrev cX8_areGuests : ByteArray := prog_10_method_101_code
def yX8_areGuests : MethodName := ⟨RX8, "areGuests", "(I)Z"⟩
abbrev cX8_host : ByteArray := prog_10_method_102_code
def yX8_host : MethodName := ⟨RX8, "host", "(I)I"⟩
abbrev cX8_lemmaOf : ByteArray := prog_10_method_103_code
def yX8_lemmaOf : MethodName := ⟨RX8, "lemmaOf", "(I)I"⟩
abbrev cX8_lemma : ByteArray := prog_10_method_104_code
def yX8_lemma : MethodName := ⟨RX8, "lemma", "(I)I"⟩
abbrev cX8_brings : ByteArray := prog_10_method_105_code
def yX8_brings : MethodName := ⟨RX8, "brings", "(I)I"⟩
abbrev cX8_strengthOf : ByteArray := prog_10_method_106_code
def yX8_strengthOf : MethodName := ⟨RX8, "strengthOf", "(I)I"⟩
abbrev cX8_canTogether : ByteArray := prog_10_method_107_code
def yX8_canTogether : MethodName := ⟨RX8, "canTogether", "(II)Z"⟩
abbrev cX8_strength : ByteArray := prog_10_method_108_code
def yX8_strength : MethodName := ⟨RX8, "strength", "(I)I"⟩
abbrev cX8_together : ByteArray := prog_10_method_109_code
def yX8_together : MethodName := ⟨RX8, "together", "(II)I"⟩
abbrev cX8_teamOf : ByteArray := prog_10_method_110_code
def yX8_teamOf : MethodName := ⟨RX8, "teamOf", "(I)I"⟩
abbrev cX8_fewest : ByteArray := prog_10_method_111_code
def yX8_fewest : MethodName := ⟨RX8, "fewest", "(I)I"⟩
abbrev cX8_team : ByteArray := prog_10_method_112_code
def yX8_team : MethodName := ⟨RX8, "team", "(I)I"⟩
abbrev cX8_fillDoubt : ByteArray := prog_10_method_113_code
def yX8_fillDoubt : MethodName := ⟨RX8, "fillDoubt", "(II)V"⟩
abbrev cX8_claims : ByteArray := prog_10_method_114_code
def yX8_claims : MethodName := ⟨RX8, "claims", "(II)I"⟩
abbrev cX8_outcome : ByteArray := prog_10_method_115_code
def yX8_outcome : MethodName := ⟨RX8, "outcome", "(II)I"⟩
abbrev cX8_asksKitchen : ByteArray := prog_10_method_116_code
def yX8_asksKitchen : MethodName := ⟨RX8, "asksKitchen", "(IZ)I"⟩
abbrev cX8_cooks : ByteArray := prog_10_method_117_code
def yX8_cooks : MethodName := ⟨RX8, "cooks", "(II)Z"⟩
abbrev cX8_goKitchen : ByteArray := prog_10_method_118_code
def yX8_goKitchen : MethodName := ⟨RX8, "goKitchen", "(I)V"⟩
abbrev cX8_kitchen : ByteArray := prog_10_method_119_code
def yX8_kitchen : MethodName := ⟨RX8, "kitchen", "(II)I"⟩
abbrev cX8_when : ByteArray := prog_10_method_120_code
def yX8_when : MethodName := ⟨RX8, "when", "(II)I"⟩
abbrev cX8_shares : ByteArray := prog_10_method_121_code
def yX8_shares : MethodName := ⟨RX8, "shares", "(II)I"⟩
abbrev cX8_busy : ByteArray := prog_10_method_122_code
def yX8_busy : MethodName := ⟨RX8, "busy", "(III)I"⟩
abbrev cX8_mine : ByteArray := prog_10_method_123_code
def yX8_mine : MethodName := ⟨RX8, "mine", "(I)I"⟩
abbrev cX8_fillDuel : ByteArray := prog_10_method_124_code
def yX8_fillDuel : MethodName := ⟨RX8, "fillDuel", "()V"⟩
abbrev cX8_duel : ByteArray := prog_10_method_125_code
def yX8_duel : MethodName := ⟨RX8, "duel", "()I"⟩
abbrev cX8_move : ByteArray := prog_10_method_126_code
def yX8_move : MethodName := ⟨RX8, "move", "()I"⟩
abbrev cX8_lasts : ByteArray := prog_10_method_127_code
def yX8_lasts : MethodName := ⟨RX8, "lasts", "()I"⟩
abbrev cX8_idle : ByteArray := prog_10_method_128_code
def yX8_idle : MethodName := ⟨RX8, "idle", "()I"⟩
abbrev cX8_coreOf : ByteArray := prog_10_method_129_code
def yX8_coreOf : MethodName := ⟨RX8, "coreOf", "()I"⟩
abbrev cX8_core : ByteArray := prog_10_method_130_code
def yX8_core : MethodName := ⟨RX8, "core", "()I"⟩
abbrev cX8_cored : ByteArray := prog_10_method_131_code
def yX8_cored : MethodName := ⟨RX8, "cored", "()I"⟩
abbrev cX8_divisor : ByteArray := prog_10_method_132_code
def yX8_divisor : MethodName := ⟨RX8, "divisor", "(II)I"⟩
abbrev cX8_part : ByteArray := prog_10_method_133_code
def yX8_part : MethodName := ⟨RX8, "part", "(III)I"⟩
abbrev cX8_likely : ByteArray := prog_10_method_134_code
def yX8_likely : MethodName := ⟨RX8, "likely", "(II)I"⟩
abbrev cX8_worstOf : ByteArray := prog_10_method_135_code
def yX8_worstOf : MethodName := ⟨RX8, "worstOf", "(I)I"⟩
abbrev cX8_askOf : ByteArray := prog_10_method_136_code
def yX8_askOf : MethodName := ⟨RX8, "askOf", "()I"⟩
abbrev cX8_ask : ByteArray := prog_10_method_137_code
def yX8_ask : MethodName := ⟨RX8, "ask", "()I"⟩
abbrev cX8_leaves : ByteArray := prog_10_method_138_code
def yX8_leaves : MethodName := ⟨RX8, "leaves", "()I"⟩
abbrev cX8_unlike : ByteArray := prog_10_method_139_code
def yX8_unlike : MethodName := ⟨RX8, "unlike", "()I"⟩
abbrev cX8_falls : ByteArray := prog_10_method_140_code
def yX8_falls : MethodName := ⟨RX8, "falls", "(I)I"⟩
abbrev cX8_spareOf : ByteArray := prog_10_method_141_code
def yX8_spareOf : MethodName := ⟨RX8, "spareOf", "(I)I"⟩
abbrev cX8_spare : ByteArray := prog_10_method_142_code
def yX8_spare : MethodName := ⟨RX8, "spare", "(I)I"⟩
abbrev cX8_spared : ByteArray := prog_10_method_143_code
def yX8_spared : MethodName := ⟨RX8, "spared", "(I)I"⟩
abbrev cX8_salt : ByteArray := prog_10_method_144_code
def yX8_salt : MethodName := ⟨RX8, "salt", "(II)I"⟩
abbrev cX8_asksEaten : ByteArray := prog_10_method_145_code
def yX8_asksEaten : MethodName := ⟨RX8, "asksEaten", "(IZ)I"⟩
abbrev cX8_eatenBy : ByteArray := prog_10_method_146_code
def yX8_eatenBy : MethodName := ⟨RX8, "eatenBy", "(I)I"⟩
abbrev cX8_ate : ByteArray := prog_10_method_147_code
def yX8_ate : MethodName := ⟨RX8, "ate", "(I)I"⟩
abbrev cX8_borrowed : ByteArray := prog_10_method_148_code
def yX8_borrowed : MethodName := ⟨RX8, "borrowed", "(II)I"⟩
abbrev cX8_lent : ByteArray := prog_10_method_149_code
def yX8_lent : MethodName := ⟨RX8, "lent", "(II)I"⟩
abbrev cX8_adds : ByteArray := prog_10_method_150_code
def yX8_adds : MethodName := ⟨RX8, "adds", "(II)I"⟩
abbrev cX8_drops : ByteArray := prog_10_method_151_code
def yX8_drops : MethodName := ⟨RX8, "drops", "()I"⟩
abbrev cX8_teach : ByteArray := prog_10_method_152_code
def yX8_teach : MethodName := ⟨RX8, "teach", "(III)I"⟩
abbrev cX8_holesBy : ByteArray := prog_10_method_153_code
def yX8_holesBy : MethodName := ⟨RX8, "holesBy", "(J)I"⟩
abbrev cX8_isSeed : ByteArray := prog_10_method_154_code
def yX8_isSeed : MethodName := ⟨RX8, "isSeed", "(I)Z"⟩
abbrev cX8_drawn : ByteArray := prog_10_method_155_code
def yX8_drawn : MethodName := ⟨RX8, "drawn", "(I)I"⟩
abbrev cX8_feastOf : ByteArray := prog_10_method_156_code
def yX8_feastOf : MethodName := ⟨RX8, "feastOf", "(JI)I"⟩
abbrev cX8_feast : ByteArray := prog_10_method_157_code
def yX8_feast : MethodName := ⟨RX8, "feast", "(II)I"⟩
abbrev cX8_mean : ByteArray := prog_10_method_158_code
def yX8_mean : MethodName := ⟨RX8, "mean", "(IIII)I"⟩
abbrev cX8_count : ByteArray := prog_10_method_159_code
def yX8_count : MethodName := ⟨RX8, "count", "(I)I"⟩
abbrev cX8_isSlot : ByteArray := prog_10_method_160_code
def yX8_isSlot : MethodName := ⟨RX8, "isSlot", "(I)Z"⟩
abbrev cX8_cut : ByteArray := prog_10_method_161_code
def yX8_cut : MethodName := ⟨RX8, "cut", "(JI)J"⟩
abbrev cX8_row : ByteArray := prog_10_method_162_code
def yX8_row : MethodName := ⟨RX8, "row", "(III)I"⟩
abbrev cX8_write : ByteArray := prog_10_method_163_code
def yX8_write : MethodName := ⟨RX8, "write", "(IIJ)I"⟩
abbrev cX8_paste : ByteArray := prog_10_method_164_code
def yX8_paste : MethodName := ⟨RX8, "paste", "(IIIII)I"⟩
def RJ6 : String := "java/lang/Integer"
def TJ6 : u_T := fun k => match k with
  | _ => ("", "", "", false)
def tyJ6 : Nat → FieldType := fun k => match k with
  | _ => .int
theorem nmJ6 : ∀ a, a < 0 → ∀ b, b < 0 → a ≠ b → (TJ6 a).2.1 ≠ (TJ6 b).2.1 := by decide +kernel
theorem tyJ6_ok : ∀ k, k < 0 → parseFieldDescriptor (TJ6 k).2.2.1 = some (tyJ6 k) := by decide +kernel
abbrev cJ6_bitCount_0f7a4 : ByteArray := prog_11_method_49_code
def yJ6_bitCount_0f7a4 : MethodName := ⟨RJ6, "bitCount", "(I)I"⟩
def RJ9 : String := "java/lang/Math"
def TJ9 : u_T := fun k => match k with
  | _ => ("", "", "", false)
def tyJ9 : Nat → FieldType := fun k => match k with
  | _ => .int
theorem nmJ9 : ∀ a, a < 0 → ∀ b, b < 0 → a ≠ b → (TJ9 a).2.1 ≠ (TJ9 b).2.1 := by decide +kernel
theorem tyJ9_ok : ∀ k, k < 0 → parseFieldDescriptor (TJ9 k).2.2.1 = some (tyJ9 k) := by decide +kernel
abbrev cJ9_max_7cf53 : ByteArray := prog_12_method_65_code
def yJ9_max_7cf53 : MethodName := ⟨RJ9, "max", "(II)I"⟩
abbrev cJ9_min_7cf53 : ByteArray := prog_12_method_69_code
def yJ9_min_7cf53 : MethodName := ⟨RJ9, "min", "(II)I"⟩
def RJ0 : String := "java/lang/String"
def TJ0 : u_T := fun k => match k with
  | _ => ("", "", "", false)
def tyJ0 : Nat → FieldType := fun k => match k with
  | _ => .int
theorem nmJ0 : ∀ a, a < 0 → ∀ b, b < 0 → a ≠ b → (TJ0 a).2.1 ≠ (TJ0 b).2.1 := by decide +kernel
theorem tyJ0_ok : ∀ k, k < 0 → parseFieldDescriptor (TJ0 k).2.2.1 = some (tyJ0 k) := by decide +kernel
abbrev cJ0_length_8abf5 : ByteArray := prog_13_method_54_code
def yJ0_length_8abf5 : MethodName := ⟨RJ0, "length", "()I"⟩
abbrev cJ0_charAt_5068e : ByteArray := prog_13_method_56_code
def yJ0_charAt_5068e : MethodName := ⟨RJ0, "charAt", "(I)C"⟩
abbrev cJ0_coder_7d493 : ByteArray := prog_13_method_152_code
def yJ0_coder_7d493 : MethodName := ⟨RJ0, "coder", "()B"⟩
abbrev cJ0_isLatin1_aae02 : ByteArray := prog_13_method_154_code
def yJ0_isLatin1_aae02 : MethodName := ⟨RJ0, "isLatin1", "()Z"⟩
abbrev cJ0_checkIndex_df160 : ByteArray := prog_13_method_155_code
def yJ0_checkIndex_df160 : MethodName := ⟨RJ0, "checkIndex", "(II)V"⟩
def RJ1 : String := "java/lang/StringLatin1"
def TJ1 : u_T := fun k => match k with
  | _ => ("", "", "", false)
def tyJ1 : Nat → FieldType := fun k => match k with
  | _ => .int
theorem nmJ1 : ∀ a, a < 0 → ∀ b, b < 0 → a ≠ b → (TJ1 a).2.1 ≠ (TJ1 b).2.1 := by decide +kernel
theorem tyJ1_ok : ∀ k, k < 0 → parseFieldDescriptor (TJ1 k).2.2.1 = some (tyJ1 k) := by decide +kernel
abbrev cJ1_charAt_3b067 : ByteArray := prog_14_method_2_code
def yJ1_charAt_3b067 : MethodName := ⟨RJ1, "charAt", "([BI)C"⟩
def RJ2 : String := "java/lang/StringUTF16"
def TJ2 : u_T := fun k => match k with
  | _ => ("", "", "", false)
def tyJ2 : Nat → FieldType := fun k => match k with
  | _ => .int
theorem nmJ2 : ∀ a, a < 0 → ∀ b, b < 0 → a ≠ b → (TJ2 a).2.1 ≠ (TJ2 b).2.1 := by decide +kernel
theorem tyJ2_ok : ∀ k, k < 0 → parseFieldDescriptor (TJ2 k).2.2.1 = some (tyJ2 k) := by decide +kernel
abbrev cJ2_getChar_3b067 : ByteArray := prog_15_method_5_code
def yJ2_getChar_3b067 : MethodName := ⟨RJ2, "getChar", "([BI)C"⟩
abbrev cJ2_length_9d52b : ByteArray := prog_15_method_6_code
def yJ2_length_9d52b : MethodName := ⟨RJ2, "length", "([B)I"⟩
abbrev cJ2_charAt_3b067 : ByteArray := prog_15_method_83_code
def yJ2_charAt_3b067 : MethodName := ⟨RJ2, "charAt", "([BI)C"⟩
abbrev cJ2_checkIndex_2214a : ByteArray := prog_15_method_91_code
def yJ2_checkIndex_2214a : MethodName := ⟨RJ2, "checkIndex", "(I[B)V"⟩
def RJ10 : String := "java/lang/System"
def TJ10 : u_T := fun k => match k with
  | _ => ("", "", "", false)
def tyJ10 : Nat → FieldType := fun k => match k with
  | _ => .int
theorem nmJ10 : ∀ a, a < 0 → ∀ b, b < 0 → a ≠ b → (TJ10 a).2.1 ≠ (TJ10 b).2.1 := by decide +kernel
theorem tyJ10_ok : ∀ k, k < 0 → parseFieldDescriptor (TJ10 k).2.2.1 = some (tyJ10 k) := by decide +kernel
def RJ3 : String := "jdk/internal/util/Preconditions"
def TJ3 : u_T := fun k => match k with
  | _ => ("", "", "", false)
def tyJ3 : Nat → FieldType := fun k => match k with
  | _ => .int
theorem nmJ3 : ∀ a, a < 0 → ∀ b, b < 0 → a ≠ b → (TJ3 a).2.1 ≠ (TJ3 b).2.1 := by decide +kernel
theorem tyJ3_ok : ∀ k, k < 0 → parseFieldDescriptor (TJ3 k).2.2.1 = some (tyJ3 k) := by decide +kernel
abbrev cJ3_checkIndex_8e157 : ByteArray := prog_17_method_11_code
def yJ3_checkIndex_8e157 : MethodName := ⟨RJ3, "checkIndex", "(IILjava/util/function/BiFunction;)I"⟩
def RL : String := "ProvedTableLaw"
abbrev cL_law : ByteArray := code
def yL_law : MethodName := ⟨RL, "law", "([I)Z"⟩

/-- the words of the tables that hold at every call -/
def TBL : List Cond := lw_tbl.filter goodWord
theorem tbl_lw : ∀ w ∈ TBL, w ∈ lw_tbl := fun _ h => (List.mem_filter.mp h).1
theorem tbl_good : ∀ w ∈ TBL, (w.onTables && w.keeps) = true ∨ ∃ ty, w = .arrayClass ty := fun _ h => good_of_word (List.mem_filter.mp h).2
theorem tm {w : Cond} (i : Nat) (h : lw_tbl[i]? = some w) (g : goodWord w = true) : w ∈ TBL := List.mem_filter.mpr ⟨List.mem_of_getElem? h, g⟩
end
section
theorem dJ6_bitCount_0f7a4_0 : decode cJ6_bitCount_0f7a4 0 = .ok (.iload_n 0, 1) := by decide +kernel
theorem dJ6_bitCount_0f7a4_1 : decode cJ6_bitCount_0f7a4 1 = .ok (.iload_n 0, 1) := by decide +kernel
theorem dJ6_bitCount_0f7a4_2 : decode cJ6_bitCount_0f7a4 2 = .ok (.iconst 1, 1) := by decide +kernel
theorem dJ6_bitCount_0f7a4_3 : decode cJ6_bitCount_0f7a4 3 = .ok (.iushr, 1) := by decide +kernel
theorem dJ6_bitCount_0f7a4_4 : decode cJ6_bitCount_0f7a4 4 = .ok (.ldc_w 265, 3) := by decide +kernel
theorem dJ6_bitCount_0f7a4_7 : decode cJ6_bitCount_0f7a4 7 = .ok (.iand, 1) := by decide +kernel
theorem dJ6_bitCount_0f7a4_8 : decode cJ6_bitCount_0f7a4 8 = .ok (.isub, 1) := by decide +kernel
theorem dJ6_bitCount_0f7a4_9 : decode cJ6_bitCount_0f7a4 9 = .ok (.istore_n 0, 1) := by decide +kernel
theorem dJ6_bitCount_0f7a4_10 : decode cJ6_bitCount_0f7a4 10 = .ok (.iload_n 0, 1) := by decide +kernel
theorem dJ6_bitCount_0f7a4_11 : decode cJ6_bitCount_0f7a4 11 = .ok (.ldc_w 266, 3) := by decide +kernel
theorem dJ6_bitCount_0f7a4_14 : decode cJ6_bitCount_0f7a4 14 = .ok (.iand, 1) := by decide +kernel
theorem dJ6_bitCount_0f7a4_15 : decode cJ6_bitCount_0f7a4 15 = .ok (.iload_n 0, 1) := by decide +kernel
theorem dJ6_bitCount_0f7a4_16 : decode cJ6_bitCount_0f7a4 16 = .ok (.iconst 2, 1) := by decide +kernel
theorem dJ6_bitCount_0f7a4_17 : decode cJ6_bitCount_0f7a4 17 = .ok (.iushr, 1) := by decide +kernel
theorem dJ6_bitCount_0f7a4_18 : decode cJ6_bitCount_0f7a4 18 = .ok (.ldc_w 266, 3) := by decide +kernel
theorem dJ6_bitCount_0f7a4_21 : decode cJ6_bitCount_0f7a4 21 = .ok (.iand, 1) := by decide +kernel
theorem dJ6_bitCount_0f7a4_22 : decode cJ6_bitCount_0f7a4 22 = .ok (.iadd, 1) := by decide +kernel
theorem dJ6_bitCount_0f7a4_23 : decode cJ6_bitCount_0f7a4 23 = .ok (.istore_n 0, 1) := by decide +kernel
theorem dJ6_bitCount_0f7a4_24 : decode cJ6_bitCount_0f7a4 24 = .ok (.iload_n 0, 1) := by decide +kernel
theorem dJ6_bitCount_0f7a4_25 : decode cJ6_bitCount_0f7a4 25 = .ok (.iload_n 0, 1) := by decide +kernel
theorem dJ6_bitCount_0f7a4_26 : decode cJ6_bitCount_0f7a4 26 = .ok (.iconst 4, 1) := by decide +kernel
theorem dJ6_bitCount_0f7a4_27 : decode cJ6_bitCount_0f7a4 27 = .ok (.iushr, 1) := by decide +kernel
theorem dJ6_bitCount_0f7a4_28 : decode cJ6_bitCount_0f7a4 28 = .ok (.iadd, 1) := by decide +kernel
theorem dJ6_bitCount_0f7a4_29 : decode cJ6_bitCount_0f7a4 29 = .ok (.ldc_w 267, 3) := by decide +kernel
theorem dJ6_bitCount_0f7a4_32 : decode cJ6_bitCount_0f7a4 32 = .ok (.iand, 1) := by decide +kernel
theorem dJ6_bitCount_0f7a4_33 : decode cJ6_bitCount_0f7a4 33 = .ok (.istore_n 0, 1) := by decide +kernel
theorem dJ6_bitCount_0f7a4_34 : decode cJ6_bitCount_0f7a4 34 = .ok (.iload_n 0, 1) := by decide +kernel
theorem dJ6_bitCount_0f7a4_35 : decode cJ6_bitCount_0f7a4 35 = .ok (.iload_n 0, 1) := by decide +kernel
theorem dJ6_bitCount_0f7a4_36 : decode cJ6_bitCount_0f7a4 36 = .ok (.bipush 8, 2) := by decide +kernel
theorem dJ6_bitCount_0f7a4_38 : decode cJ6_bitCount_0f7a4 38 = .ok (.iushr, 1) := by decide +kernel
theorem dJ6_bitCount_0f7a4_39 : decode cJ6_bitCount_0f7a4 39 = .ok (.iadd, 1) := by decide +kernel
theorem dJ6_bitCount_0f7a4_40 : decode cJ6_bitCount_0f7a4 40 = .ok (.istore_n 0, 1) := by decide +kernel
theorem dJ6_bitCount_0f7a4_41 : decode cJ6_bitCount_0f7a4 41 = .ok (.iload_n 0, 1) := by decide +kernel
theorem dJ6_bitCount_0f7a4_42 : decode cJ6_bitCount_0f7a4 42 = .ok (.iload_n 0, 1) := by decide +kernel
theorem dJ6_bitCount_0f7a4_43 : decode cJ6_bitCount_0f7a4 43 = .ok (.bipush 16, 2) := by decide +kernel
theorem dJ6_bitCount_0f7a4_45 : decode cJ6_bitCount_0f7a4 45 = .ok (.iushr, 1) := by decide +kernel
theorem dJ6_bitCount_0f7a4_46 : decode cJ6_bitCount_0f7a4 46 = .ok (.iadd, 1) := by decide +kernel
theorem dJ6_bitCount_0f7a4_47 : decode cJ6_bitCount_0f7a4 47 = .ok (.istore_n 0, 1) := by decide +kernel
theorem dJ6_bitCount_0f7a4_48 : decode cJ6_bitCount_0f7a4 48 = .ok (.iload_n 0, 1) := by decide +kernel
theorem dJ6_bitCount_0f7a4_49 : decode cJ6_bitCount_0f7a4 49 = .ok (.bipush 63, 2) := by decide +kernel
theorem dJ6_bitCount_0f7a4_51 : decode cJ6_bitCount_0f7a4 51 = .ok (.iand, 1) := by decide +kernel
theorem dJ6_bitCount_0f7a4_52 : decode cJ6_bitCount_0f7a4 52 = .ok (.ireturn, 1) := by decide +kernel
theorem dJ9_max_7cf53_0 : decode cJ9_max_7cf53 0 = .ok (.iload_n 0, 1) := by decide +kernel
theorem dJ9_max_7cf53_1 : decode cJ9_max_7cf53 1 = .ok (.iload_n 1, 1) := by decide +kernel
theorem dJ9_max_7cf53_2 : decode cJ9_max_7cf53 2 = .ok (.if_icmp .lt 7, 3) := by decide +kernel
theorem dJ9_max_7cf53_5 : decode cJ9_max_7cf53 5 = .ok (.iload_n 0, 1) := by decide +kernel
theorem dJ9_max_7cf53_6 : decode cJ9_max_7cf53 6 = .ok (.goto 4, 3) := by decide +kernel
theorem dJ9_max_7cf53_9 : decode cJ9_max_7cf53 9 = .ok (.iload_n 1, 1) := by decide +kernel
theorem dJ9_max_7cf53_10 : decode cJ9_max_7cf53 10 = .ok (.ireturn, 1) := by decide +kernel
theorem dJ9_min_7cf53_0 : decode cJ9_min_7cf53 0 = .ok (.iload_n 0, 1) := by decide +kernel
theorem dJ9_min_7cf53_1 : decode cJ9_min_7cf53 1 = .ok (.iload_n 1, 1) := by decide +kernel
theorem dJ9_min_7cf53_2 : decode cJ9_min_7cf53 2 = .ok (.if_icmp .gt 7, 3) := by decide +kernel
theorem dJ9_min_7cf53_5 : decode cJ9_min_7cf53 5 = .ok (.iload_n 0, 1) := by decide +kernel
theorem dJ9_min_7cf53_6 : decode cJ9_min_7cf53 6 = .ok (.goto 4, 3) := by decide +kernel
theorem dJ9_min_7cf53_9 : decode cJ9_min_7cf53 9 = .ok (.iload_n 1, 1) := by decide +kernel
theorem dJ9_min_7cf53_10 : decode cJ9_min_7cf53 10 = .ok (.ireturn, 1) := by decide +kernel
theorem dJ0_length_8abf5_0 : decode cJ0_length_8abf5 0 = .ok (.aload_n 0, 1) := by decide +kernel
theorem dJ0_length_8abf5_1 : decode cJ0_length_8abf5 1 = .ok (.getfield 9, 3) := by decide +kernel
theorem dJ0_length_8abf5_4 : decode cJ0_length_8abf5 4 = .ok (.arraylength, 1) := by decide +kernel
theorem dJ0_length_8abf5_5 : decode cJ0_length_8abf5 5 = .ok (.aload_n 0, 1) := by decide +kernel
theorem dJ0_length_8abf5_6 : decode cJ0_length_8abf5 6 = .ok (.invokevirtual 335, 3) := by decide +kernel
theorem dJ0_length_8abf5_9 : decode cJ0_length_8abf5 9 = .ok (.ishr, 1) := by decide +kernel
theorem dJ0_length_8abf5_10 : decode cJ0_length_8abf5 10 = .ok (.ireturn, 1) := by decide +kernel
theorem dJ0_charAt_5068e_0 : decode cJ0_charAt_5068e 0 = .ok (.aload_n 0, 1) := by decide +kernel
theorem dJ0_charAt_5068e_1 : decode cJ0_charAt_5068e 1 = .ok (.invokevirtual 492, 3) := by decide +kernel
theorem dJ0_charAt_5068e_4 : decode cJ0_charAt_5068e 4 = .ok (.ifCond .eq 12, 3) := by decide +kernel
theorem dJ0_charAt_5068e_7 : decode cJ0_charAt_5068e 7 = .ok (.aload_n 0, 1) := by decide +kernel
theorem dJ0_charAt_5068e_8 : decode cJ0_charAt_5068e 8 = .ok (.getfield 9, 3) := by decide +kernel
theorem dJ0_charAt_5068e_11 : decode cJ0_charAt_5068e 11 = .ok (.iload_n 1, 1) := by decide +kernel
theorem dJ0_charAt_5068e_12 : decode cJ0_charAt_5068e 12 = .ok (.invokestatic 495, 3) := by decide +kernel
theorem dJ0_charAt_5068e_15 : decode cJ0_charAt_5068e 15 = .ok (.ireturn, 1) := by decide +kernel
theorem dJ0_charAt_5068e_16 : decode cJ0_charAt_5068e 16 = .ok (.aload_n 0, 1) := by decide +kernel
theorem dJ0_charAt_5068e_17 : decode cJ0_charAt_5068e 17 = .ok (.getfield 9, 3) := by decide +kernel
theorem dJ0_charAt_5068e_20 : decode cJ0_charAt_5068e 20 = .ok (.iload_n 1, 1) := by decide +kernel
theorem dJ0_charAt_5068e_21 : decode cJ0_charAt_5068e 21 = .ok (.invokestatic 498, 3) := by decide +kernel
theorem dJ0_charAt_5068e_24 : decode cJ0_charAt_5068e 24 = .ok (.ireturn, 1) := by decide +kernel
theorem dJ0_coder_7d493_0 : decode cJ0_coder_7d493 0 = .ok (.getstatic 38, 3) := by decide +kernel
theorem dJ0_coder_7d493_3 : decode cJ0_coder_7d493 3 = .ok (.ifCond .eq 10, 3) := by decide +kernel
theorem dJ0_coder_7d493_6 : decode cJ0_coder_7d493 6 = .ok (.aload_n 0, 1) := by decide +kernel
theorem dJ0_coder_7d493_7 : decode cJ0_coder_7d493 7 = .ok (.getfield 15, 3) := by decide +kernel
theorem dJ0_coder_7d493_10 : decode cJ0_coder_7d493 10 = .ok (.goto 4, 3) := by decide +kernel
theorem dJ0_coder_7d493_13 : decode cJ0_coder_7d493 13 = .ok (.iconst 1, 1) := by decide +kernel
theorem dJ0_coder_7d493_14 : decode cJ0_coder_7d493 14 = .ok (.ireturn, 1) := by decide +kernel
theorem dJ0_isLatin1_aae02_0 : decode cJ0_isLatin1_aae02 0 = .ok (.getstatic 38, 3) := by decide +kernel
theorem dJ0_isLatin1_aae02_3 : decode cJ0_isLatin1_aae02 3 = .ok (.ifCond .eq 14, 3) := by decide +kernel
theorem dJ0_isLatin1_aae02_6 : decode cJ0_isLatin1_aae02 6 = .ok (.aload_n 0, 1) := by decide +kernel
theorem dJ0_isLatin1_aae02_7 : decode cJ0_isLatin1_aae02 7 = .ok (.getfield 15, 3) := by decide +kernel
theorem dJ0_isLatin1_aae02_10 : decode cJ0_isLatin1_aae02 10 = .ok (.ifCond .ne 7, 3) := by decide +kernel
theorem dJ0_isLatin1_aae02_13 : decode cJ0_isLatin1_aae02 13 = .ok (.iconst 1, 1) := by decide +kernel
theorem dJ0_isLatin1_aae02_14 : decode cJ0_isLatin1_aae02 14 = .ok (.goto 4, 3) := by decide +kernel
theorem dJ0_isLatin1_aae02_17 : decode cJ0_isLatin1_aae02 17 = .ok (.iconst 0, 1) := by decide +kernel
theorem dJ0_isLatin1_aae02_18 : decode cJ0_isLatin1_aae02 18 = .ok (.ireturn, 1) := by decide +kernel
theorem dJ0_checkIndex_df160_0 : decode cJ0_checkIndex_df160 0 = .ok (.iload_n 0, 1) := by decide +kernel
theorem dJ0_checkIndex_df160_1 : decode cJ0_checkIndex_df160 1 = .ok (.iload_n 1, 1) := by decide +kernel
theorem dJ0_checkIndex_df160_2 : decode cJ0_checkIndex_df160 2 = .ok (.getstatic 1053, 3) := by decide +kernel
theorem dJ0_checkIndex_df160_5 : decode cJ0_checkIndex_df160 5 = .ok (.invokestatic 1059, 3) := by decide +kernel
theorem dJ0_checkIndex_df160_8 : decode cJ0_checkIndex_df160 8 = .ok (.pop, 1) := by decide +kernel
theorem dJ0_checkIndex_df160_9 : decode cJ0_checkIndex_df160 9 = .ok (.return_, 1) := by decide +kernel
theorem dJ1_charAt_3b067_0 : decode cJ1_charAt_3b067 0 = .ok (.iload_n 1, 1) := by decide +kernel
theorem dJ1_charAt_3b067_1 : decode cJ1_charAt_3b067 1 = .ok (.aload_n 0, 1) := by decide +kernel
theorem dJ1_charAt_3b067_2 : decode cJ1_charAt_3b067 2 = .ok (.arraylength, 1) := by decide +kernel
theorem dJ1_charAt_3b067_3 : decode cJ1_charAt_3b067 3 = .ok (.invokestatic 9, 3) := by decide +kernel
theorem dJ1_charAt_3b067_6 : decode cJ1_charAt_3b067 6 = .ok (.aload_n 0, 1) := by decide +kernel
theorem dJ1_charAt_3b067_7 : decode cJ1_charAt_3b067 7 = .ok (.iload_n 1, 1) := by decide +kernel
theorem dJ1_charAt_3b067_8 : decode cJ1_charAt_3b067 8 = .ok (.baload, 1) := by decide +kernel
theorem dJ1_charAt_3b067_9 : decode cJ1_charAt_3b067 9 = .ok (.sipush 255, 3) := by decide +kernel
theorem dJ1_charAt_3b067_12 : decode cJ1_charAt_3b067 12 = .ok (.iand, 1) := by decide +kernel
theorem dJ1_charAt_3b067_13 : decode cJ1_charAt_3b067 13 = .ok (.i2c, 1) := by decide +kernel
theorem dJ1_charAt_3b067_14 : decode cJ1_charAt_3b067 14 = .ok (.ireturn, 1) := by decide +kernel
theorem dJ2_getChar_3b067_0 : decode cJ2_getChar_3b067 0 = .ok (.getstatic 44, 3) := by decide +kernel
theorem dJ2_getChar_3b067_3 : decode cJ2_getChar_3b067 3 = .ok (.ifCond .ne 25, 3) := by decide +kernel
theorem dJ2_getChar_3b067_6 : decode cJ2_getChar_3b067 6 = .ok (.iload_n 1, 1) := by decide +kernel
theorem dJ2_getChar_3b067_7 : decode cJ2_getChar_3b067 7 = .ok (.ifCond .lt 11, 3) := by decide +kernel
theorem dJ2_getChar_3b067_10 : decode cJ2_getChar_3b067 10 = .ok (.iload_n 1, 1) := by decide +kernel
theorem dJ2_getChar_3b067_11 : decode cJ2_getChar_3b067 11 = .ok (.aload_n 0, 1) := by decide +kernel
theorem dJ2_getChar_3b067_12 : decode cJ2_getChar_3b067 12 = .ok (.invokestatic 48, 3) := by decide +kernel
theorem dJ2_getChar_3b067_15 : decode cJ2_getChar_3b067 15 = .ok (.if_icmp .lt 13, 3) := by decide +kernel
theorem dJ2_getChar_3b067_18 : decode cJ2_getChar_3b067 18 = .ok (.new 52, 3) := by decide +kernel
theorem dJ2_getChar_3b067_21 : decode cJ2_getChar_3b067 21 = .ok (.dup, 1) := by decide +kernel
theorem dJ2_getChar_3b067_22 : decode cJ2_getChar_3b067 22 = .ok (.ldc 54, 2) := by decide +kernel
theorem dJ2_getChar_3b067_24 : decode cJ2_getChar_3b067 24 = .ok (.invokespecial 56, 3) := by decide +kernel
theorem dJ2_getChar_3b067_27 : decode cJ2_getChar_3b067 27 = .ok (.athrow, 1) := by decide +kernel
theorem dJ2_getChar_3b067_28 : decode cJ2_getChar_3b067 28 = .ok (.iload_n 1, 1) := by decide +kernel
theorem dJ2_getChar_3b067_29 : decode cJ2_getChar_3b067 29 = .ok (.iconst 1, 1) := by decide +kernel
theorem dJ2_getChar_3b067_30 : decode cJ2_getChar_3b067 30 = .ok (.ishl, 1) := by decide +kernel
theorem dJ2_getChar_3b067_31 : decode cJ2_getChar_3b067 31 = .ok (.istore_n 1, 1) := by decide +kernel
theorem dJ2_getChar_3b067_32 : decode cJ2_getChar_3b067 32 = .ok (.aload_n 0, 1) := by decide +kernel
theorem dJ2_getChar_3b067_33 : decode cJ2_getChar_3b067 33 = .ok (.iload_n 1, 1) := by decide +kernel
theorem dJ2_getChar_3b067_34 : decode cJ2_getChar_3b067 34 = .ok (.iinc 1 1, 3) := by decide +kernel
theorem dJ2_getChar_3b067_37 : decode cJ2_getChar_3b067 37 = .ok (.baload, 1) := by decide +kernel
theorem dJ2_getChar_3b067_38 : decode cJ2_getChar_3b067 38 = .ok (.sipush 255, 3) := by decide +kernel
theorem dJ2_getChar_3b067_41 : decode cJ2_getChar_3b067 41 = .ok (.iand, 1) := by decide +kernel
theorem dJ2_getChar_3b067_42 : decode cJ2_getChar_3b067 42 = .ok (.getstatic 59, 3) := by decide +kernel
theorem dJ2_getChar_3b067_45 : decode cJ2_getChar_3b067 45 = .ok (.ishl, 1) := by decide +kernel
theorem dJ2_getChar_3b067_46 : decode cJ2_getChar_3b067 46 = .ok (.aload_n 0, 1) := by decide +kernel
theorem dJ2_getChar_3b067_47 : decode cJ2_getChar_3b067 47 = .ok (.iload_n 1, 1) := by decide +kernel
theorem dJ2_getChar_3b067_48 : decode cJ2_getChar_3b067 48 = .ok (.baload, 1) := by decide +kernel
theorem dJ2_getChar_3b067_49 : decode cJ2_getChar_3b067 49 = .ok (.sipush 255, 3) := by decide +kernel
theorem dJ2_getChar_3b067_52 : decode cJ2_getChar_3b067 52 = .ok (.iand, 1) := by decide +kernel
theorem dJ2_getChar_3b067_53 : decode cJ2_getChar_3b067 53 = .ok (.getstatic 63, 3) := by decide +kernel
theorem dJ2_getChar_3b067_56 : decode cJ2_getChar_3b067 56 = .ok (.ishl, 1) := by decide +kernel
theorem dJ2_getChar_3b067_57 : decode cJ2_getChar_3b067 57 = .ok (.ior, 1) := by decide +kernel
theorem dJ2_getChar_3b067_58 : decode cJ2_getChar_3b067 58 = .ok (.i2c, 1) := by decide +kernel
theorem dJ2_getChar_3b067_59 : decode cJ2_getChar_3b067 59 = .ok (.ireturn, 1) := by decide +kernel
theorem dJ2_length_9d52b_0 : decode cJ2_length_9d52b 0 = .ok (.aload_n 0, 1) := by decide +kernel
theorem dJ2_length_9d52b_1 : decode cJ2_length_9d52b 1 = .ok (.arraylength, 1) := by decide +kernel
theorem dJ2_length_9d52b_2 : decode cJ2_length_9d52b 2 = .ok (.iconst 1, 1) := by decide +kernel
theorem dJ2_length_9d52b_3 : decode cJ2_length_9d52b 3 = .ok (.ishr, 1) := by decide +kernel
theorem dJ2_length_9d52b_4 : decode cJ2_length_9d52b 4 = .ok (.ireturn, 1) := by decide +kernel
theorem dJ2_charAt_3b067_0 : decode cJ2_charAt_3b067 0 = .ok (.iload_n 1, 1) := by decide +kernel
theorem dJ2_charAt_3b067_1 : decode cJ2_charAt_3b067 1 = .ok (.aload_n 0, 1) := by decide +kernel
theorem dJ2_charAt_3b067_2 : decode cJ2_charAt_3b067 2 = .ok (.invokestatic 67, 3) := by decide +kernel
theorem dJ2_charAt_3b067_5 : decode cJ2_charAt_3b067 5 = .ok (.aload_n 0, 1) := by decide +kernel
theorem dJ2_charAt_3b067_6 : decode cJ2_charAt_3b067 6 = .ok (.iload_n 1, 1) := by decide +kernel
theorem dJ2_charAt_3b067_7 : decode cJ2_charAt_3b067 7 = .ok (.invokestatic 71, 3) := by decide +kernel
theorem dJ2_charAt_3b067_10 : decode cJ2_charAt_3b067 10 = .ok (.ireturn, 1) := by decide +kernel
theorem dJ2_checkIndex_2214a_0 : decode cJ2_checkIndex_2214a 0 = .ok (.iload_n 0, 1) := by decide +kernel
theorem dJ2_checkIndex_2214a_1 : decode cJ2_checkIndex_2214a 1 = .ok (.aload_n 1, 1) := by decide +kernel
theorem dJ2_checkIndex_2214a_2 : decode cJ2_checkIndex_2214a 2 = .ok (.invokestatic 48, 3) := by decide +kernel
theorem dJ2_checkIndex_2214a_5 : decode cJ2_checkIndex_2214a 5 = .ok (.invokestatic 414, 3) := by decide +kernel
theorem dJ2_checkIndex_2214a_8 : decode cJ2_checkIndex_2214a 8 = .ok (.return_, 1) := by decide +kernel
theorem dJ3_checkIndex_8e157_0 : decode cJ3_checkIndex_8e157 0 = .ok (.iload_n 0, 1) := by decide +kernel
theorem dJ3_checkIndex_8e157_1 : decode cJ3_checkIndex_8e157 1 = .ok (.ifCond .lt 8, 3) := by decide +kernel
theorem dJ3_checkIndex_8e157_4 : decode cJ3_checkIndex_8e157 4 = .ok (.iload_n 0, 1) := by decide +kernel
theorem dJ3_checkIndex_8e157_5 : decode cJ3_checkIndex_8e157 5 = .ok (.iload_n 1, 1) := by decide +kernel
theorem dJ3_checkIndex_8e157_6 : decode cJ3_checkIndex_8e157 6 = .ok (.if_icmp .lt 10, 3) := by decide +kernel
theorem dJ3_checkIndex_8e157_9 : decode cJ3_checkIndex_8e157 9 = .ok (.aload_n 2, 1) := by decide +kernel
theorem dJ3_checkIndex_8e157_10 : decode cJ3_checkIndex_8e157 10 = .ok (.iload_n 0, 1) := by decide +kernel
theorem dJ3_checkIndex_8e157_11 : decode cJ3_checkIndex_8e157 11 = .ok (.iload_n 1, 1) := by decide +kernel
theorem dJ3_checkIndex_8e157_12 : decode cJ3_checkIndex_8e157 12 = .ok (.invokestatic 95, 3) := by decide +kernel
theorem dJ3_checkIndex_8e157_15 : decode cJ3_checkIndex_8e157 15 = .ok (.athrow, 1) := by decide +kernel
theorem dJ3_checkIndex_8e157_16 : decode cJ3_checkIndex_8e157 16 = .ok (.iload_n 0, 1) := by decide +kernel
theorem dJ3_checkIndex_8e157_17 : decode cJ3_checkIndex_8e157 17 = .ok (.ireturn, 1) := by decide +kernel
end
section
abbrev St : Type := (Nat → Nat → Int32) × (Nat → Nat → Int64)
def setI (σ : St) (k j : Nat) (v : Int32) : St := (fun a b => if a = k ∧ b = j then v else σ.1 a b, σ.2)
def setL (σ : St) (k j : Nat) (v : Int64) : St := (σ.1, fun a b => if a = k ∧ b = j then v else σ.2 a b)
/-- a place's shape: a row of numbers (kind, length), an object (class, fields), a row of objects (kind, places) -/
abbrev Sh : Type := (Nat × Nat) ⊕ ((Nat × List (Option Nat)) ⊕ (Nat × List Nat))
def clz : List vw_C := [(RX0, TX0, 1), (RX1, TX1, 7), (RX2, TX2, 8), (RX3, TX3, 4), (RX4, TX4, 4), (RX5, TX5, 1), (RX6, TX6, 14), (RX7, TX7, 12), (RX8, TX8, 34)]
def tyz (ca : Nat → ClassId) : List (ClassId × FieldType) := [(ca 0, .int), (ca 1, .boolean), (ca 2, .byte), (ca 3, .long), (ca 4, .object RX6), (ca 5, .object RX4)]
def shp : List Sh := [.inr (.inl (7, [some 1, some 3, some 10, some 17, some 39, some 40, some 49, none, some 51, some 53, some 55, some 60])), .inr (.inl (2, [some 2, none, none, none, none, none, none, none])), .inl (2, 1600), .inr (.inl (6, [none, none, none, none, none, none, none, none, some 4, some 5, some 6, some 7, some 8, some 9])), .inl (0, 12), .inl (0, 12), .inl (0, 12), .inl (0, 12), .inl (0, 5), .inl (0, 5), .inr (.inl (6, [none, none, none, none, none, none, none, none, some 11, some 12, some 13, some 14, some 15, some 16])), .inl (0, 12), .inl (0, 12), .inl (0, 12), .inl (0, 12), .inl (0, 5), .inl (0, 5), .inr (.inr (4, [18, 25, 32])), .inr (.inl (6, [none, none, none, none, none, none, none, none, some 19, some 20, some 21, some 22, some 23, some 24])), .inl (0, 12), .inl (0, 12), .inl (0, 12), .inl (0, 12), .inl (0, 5), .inl (0, 5), .inr (.inl (6, [none, none, none, none, none, none, none, none, some 26, some 27, some 28, some 29, some 30, some 31])), .inl (0, 12), .inl (0, 12), .inl (0, 12), .inl (0, 12), .inl (0, 5), .inl (0, 5), .inr (.inl (6, [none, none, none, none, none, none, none, none, some 33, some 34, some 35, some 36, some 37, some 38])), .inl (0, 12), .inl (0, 12), .inl (0, 12), .inl (0, 12), .inl (0, 5), .inl (0, 5), .inl (1, 3), .inr (.inr (5, [41, 43, 45, 47])), .inr (.inl (4, [none, none, none, some 42])), .inl (3, 60), .inr (.inl (4, [none, none, none, some 44])), .inl (3, 60), .inr (.inl (4, [none, none, none, some 46])), .inl (3, 60), .inr (.inl (4, [none, none, none, some 48])), .inl (3, 60), .inr (.inl (5, [some 50])), .inl (0, 4096), .inr (.inl (5, [some 52])), .inl (0, 4096), .inr (.inl (3, [none, none, none, some 54])), .inl (0, 12), .inr (.inl (1, [none, none, none, some 56, some 57, some 58, some 59])), .inl (0, 12), .inl (0, 12), .inl (0, 5), .inl (0, 5), .inr (.inl (0, [some 61])), .inl (0, 16), .inr (.inl (8, [none, some 63, some 64, some 65, some 66, none, some 67, none, none, none, none, none, none, none, some 68, some 69, some 70, some 71, none, none, none, none, some 72, some 73, some 74, some 75, some 76, none, none, some 77, some 78, some 79, some 80, some 81])), .inl (0, 70), .inl (0, 210), .inl (1, 3), .inl (2, 1600), .inl (0, 5), .inl (0, 70), .inl (0, 8), .inl (1, 8), .inl (0, 8), .inl (1, 32), .inl (0, 12), .inl (0, 12), .inl (0, 5), .inl (0, 5), .inl (0, 4096), .inl (0, 4), .inl (0, 4), .inl (3, 240), .inl (3, 60)]
def slen : List Nat := [5, 5, 5, 5, 5, 5, 3, 2, 3, 2, 2, 3, 4, 4, 4, 5, 5, 5]
def sbyt : List (List Int32) := [[116, 97, 98, 108, 101], [97, 116, 111, 109, 115], [104, 111, 117, 114, 115], [104, 111, 108, 101, 115], [99, 108, 97, 105, 109], [119, 111, 114, 116, 104], [121, 101, 115], [110, 111], [97, 110, 100], [111, 114], [105, 102], [110, 111, 116], [115, 97, 108, 116], [115, 116, 101, 112], [102, 114, 111, 109], [103, 117, 101, 115, 116], [115, 112, 101, 101, 100], [107, 110, 111, 119, 115]]
def sldc : List (String × Nat × String × Nat) := [("ProvedTable$Reader", 81, "table", 0), ("ProvedTable$Reader", 86, "atoms", 1), ("ProvedTable$Reader", 94, "hours", 2), ("ProvedTable$Reader", 98, "holes", 3), ("ProvedTable$Reader", 53, "claim", 4), ("ProvedTable$Reader", 105, "worth", 5), ("ProvedTable$Reader", 173, "yes", 6), ("ProvedTable$Reader", 175, "no", 7), ("ProvedTable$Reader", 183, "and", 8), ("ProvedTable$Reader", 185, "or", 9), ("ProvedTable$Reader", 187, "if", 10), ("ProvedTable$Reader", 189, "not", 11), ("ProvedTable$Reader", 62, "salt", 12), ("ProvedTable$Reader", 67, "step", 13), ("ProvedTable$Reader", 132, "from", 14), ("ProvedTable$Reader", 72, "guest", 15), ("ProvedTable$Reader", 144, "speed", 16), ("ProvedTable$Reader", 146, "knows", 17), ("ProvedTableModel", 240, "table", 0), ("ProvedTableModel", 242, "atoms", 1), ("ProvedTableModel", 244, "hours", 2), ("ProvedTableModel", 246, "holes", 3), ("ProvedTableModel", 220, "claim", 4), ("ProvedTableModel", 222, "salt", 12), ("ProvedTableModel", 224, "step", 13), ("ProvedTableModel", 226, "guest", 15), ("ProvedTableModel", 199, "worth", 5), ("ProvedTableModel", 171, "and", 8), ("ProvedTableModel", 173, "or", 9), ("ProvedTableModel", 175, "if", 10), ("ProvedTableModel", 177, "not", 11), ("ProvedTableModel", 179, "yes", 6), ("ProvedTableModel", 184, "no", 7), ("ProvedTableModel", 215, "from", 14), ("ProvedTableModel", 216, "speed", 16), ("ProvedTableModel", 218, "knows", 17)]
abbrev GT : Type := Launch × va_G × (Nat → Nat) × (Nat → ClassId) × (Nat → Nat) × (Nat → Nat)
def gad (G : GT) : Nat → Nat := G.2.2.1
def gca (G : GT) : Nat → ClassId := G.2.2.2.1
def gsk (G : GT) : Nat → Nat := G.2.2.2.2.1
def gsv (G : GT) : Nat → Nat := G.2.2.2.2.2
def fld (G : GT) (σ : St) (k : Nat) (j : Nat) (f : Option Nat) : Value := match f with
  | none => .int (σ.1 k j)
  | some q => .ref (gad G q)
def cel (G : GT) (σ : St) (k : Nat) (h : Sh) : va_E := match h with
  | .inl (kd, n) => .inl (gca G kd, n, if kd = 3 then .inr (.inl (σ.2 k)) else .inl (σ.1 k))
  | .inr (.inl (ci, fs)) => .inr (ci, fs.mapIdx (fld G σ k))
  | .inr (.inr (kd, rs)) => .inl (gca G kd, rs.length, .inr (.inr (.inr (.inr (fun i => (rs[i]?).map (gad G))))))
def wld (G : GT) (σ : St) : va_W := shp.mapIdx (fun k h => (gad G k, cel G σ k h))
theorem wld_at {G : GT} {σ : St} {k : Nat} {h : Sh} (hs : shp[k]? = some h) : (wld G σ)[k]? = some (gad G k, cel G σ k h) := by
  simp [wld, List.getElem?_mapIdx, hs]
theorem wld_ad {G : GT} {σ : St} {k : Nat} {q : Nat × va_E} (h : (wld G σ)[k]? = some q) : ∃ s, shp[k]? = some s ∧ q = (gad G k, cel G σ k s) := by
  simp only [wld, List.getElem?_mapIdx] at h
  cases hs : shp[k]? with
  | none => rw [hs] at h; cases h
  | some s => rw [hs] at h; exact ⟨s, rfl, (Option.some.inj h).symm⟩
theorem wld_D {G : GT} {σ σ' : St} {A : Nat → Prop} (h : va_D A (wld G σ)) : va_D A (wld G σ') := by
  have key : ∀ (k : Nat) (q : Nat × va_E), (wld G σ')[k]? = some q → ∃ q' : Nat × va_E, (wld G σ)[k]? = some q' ∧ q'.1 = q.1 := fun k q hq => by
    obtain ⟨s, hs, rfl⟩ := wld_ad hq
    exact ⟨_, wld_at hs, rfl⟩
  refine ⟨fun i j p q hi hj e => ?_, fun k q hq => ?_⟩
  · obtain ⟨p', hp', ep⟩ := key i p hi
    obtain ⟨q', hq', eq⟩ := key j q hj
    exact h.1 i j p' q' hp' hq' (by rw [ep, eq, e])
  · obtain ⟨q', hq', eq⟩ := key k q hq
    rw [← eq]
    exact h.2 k q' hq'
theorem cel_congr {G : GT} {σ σ' : St} {k : Nat} (h : Sh) (h1 : σ'.1 k = σ.1 k) (h2 : σ'.2 k = σ.2 k) : cel G σ' k h = cel G σ k h := by
  have hf : fld G σ' k = fld G σ k := by
    funext j f
    cases f with
    | none => simp [fld, h1]
    | some q => rfl
  rcases h with ⟨kd, n⟩ | ⟨ci, fs⟩ | ⟨kd, rs⟩
  · simp only [cel, h1, h2]
  · simp only [cel, hf]
  · rfl
theorem wld_set {G : GT} {σ σ' : St} {k : Nat} {h : Sh} {e : va_E} (hs : shp[k]? = some h) (he : cel G σ' k h = e) (ho : ∀ q, q ≠ k → σ'.1 q = σ.1 q ∧ σ'.2 q = σ.2 q) : (wld G σ).set k (gad G k, e) = wld G σ' := by
  apply List.ext_getElem?
  intro i
  rw [List.getElem?_set]
  by_cases hi : k = i
  · subst hi
    have lt : k < (wld G σ).length := (List.getElem?_eq_some_iff.mp (wld_at (G := G) (σ := σ) hs)).1
    simp [lt, wld_at hs, he]
  · rw [if_neg hi]
    simp only [wld, List.getElem?_mapIdx]
    cases shp[i]? with
    | none => rfl
    | some s => simp only [Option.map_some, cel_congr s (ho i (fun h => hi h.symm)).1 (ho i (fun h => hi h.symm)).2]
theorem setI_ne {σ : St} {k j : Nat} {v : Int32} {q : Nat} (h : q ≠ k) : (setI σ k j v).1 q = σ.1 q ∧ (setI σ k j v).2 q = σ.2 q := by
  refine ⟨?_, rfl⟩
  funext b
  exact if_neg (fun z => h z.1)
theorem setL_ne {σ : St} {k j : Nat} {v : Int64} {q : Nat} (h : q ≠ k) : (setL σ k j v).1 q = σ.1 q ∧ (setL σ k j v).2 q = σ.2 q := by
  refine ⟨rfl, ?_⟩
  funext b
  exact if_neg (fun z => h z.1)
theorem setI_row {σ : St} {k j : Nat} {v : Int32} : (setI σ k j v).1 k = upd (σ.1 k) j v := by
  funext b
  simp [setI, upd]
theorem setL_row {σ : St} {k j : Nat} {v : Int64} : (setL σ k j v).2 k = vp_updL (σ.2 k) j v := by
  funext b
  simp [setL, vp_updL]
theorem wld_setF {G : GT} {σ : St} {k j ci : Nat} {fs : List (Option Nat)} {v : Int32} (hs : shp[k]? = some (.inr (.inl (ci, fs)))) (hf : fs[j]? = some none) : (wld G σ).set k (gad G k, .inr (ci, (fs.mapIdx (fld G σ k)).set j (.int v))) = wld G (setI σ k j v) := by
  refine wld_set hs ?_ (fun q h => setI_ne h)
  simp only [cel]
  congr 2
  apply List.ext_getElem?
  intro i
  rw [List.getElem?_set, List.getElem?_mapIdx, List.getElem?_mapIdx]
  by_cases hi : j = i
  · subst hi
    obtain ⟨lt, hfj⟩ := List.getElem?_eq_some_iff.mp hf
    simp [hf, lt, fld, setI, hfj]
  · rw [if_neg hi]
    cases fs[i]? with
    | none => rfl
    | some f =>
      cases f with
      | none => simp [fld, setI]; intro h; exact absurd h.symm hi
      | some q => rfl
theorem wld_setA {G : GT} {σ : St} {k j kd n : Nat} {v : Int32} (hs : shp[k]? = some (.inl (kd, n))) (hk : kd ≠ 3) : (wld G σ).set k (gad G k, .inl (gca G kd, n, .inl (upd (σ.1 k) j v))) = wld G (setI σ k j v) := by
  refine wld_set hs ?_ (fun q h => setI_ne h)
  simp only [cel, if_neg hk, setI_row]
theorem wld_setJ {G : GT} {σ : St} {k j n : Nat} {v : Int64} (hs : shp[k]? = some (.inl (3, n))) : (wld G σ).set k (gad G k, .inl (gca G 3, n, .inr (.inl (vp_updL (σ.2 k) j v)))) = wld G (setL σ k j v) := by
  refine wld_set hs ?_ (fun q h => setL_ne h)
  simp only [cel, setL_row, if_true]
/-- what holds of a state beside the world: the classes, the world's addresses, the literals -/
def STR (G : GT) (A : Nat → Prop) (U : State) (H : Heap) : Prop := va_Nw (Cond.methodLinkNest RX5 31 yX7_lowestBit "ProvedTable") U ∧ vk_S 18 slen sbyt (gsk G) (gsv G) A U H ∧ (∀ q ∈ sldc, vk_R q.1 q.2.1 q.2.2.1 (gsk G q.2.2.2) U) ∧ va_Z "java/lang/String" "COMPACT_STRINGS" "Z" (.int 1) A U H ∧ va_Zq "jdk/internal/util/Preconditions" "SIOOBE_FORMATTER" "Ljava/util/function/BiFunction;" A U H
def GOOD (G : GT) (A : Nat → Prop) (U : State) (H : Heap) : Prop := va_K G.2.1 clz (tyz (gca G)) U ∧ (∀ σ, va_D A (wld G σ)) ∧ STR G A U H
theorem STR.warm {G : GT} {A : Nat → Prop} {u U : State} {H : Heap} (hW : u.WarmedH U.vm) (h : STR G A u H) : STR G A U H :=
  ⟨va_Nw.warmM hW h.1, h.2.1.moved hW.alike, fun q hq => (h.2.2.1 q hq).warm hW, h.2.2.2.1.moved hW.alike, h.2.2.2.2.moved hW.alike⟩
theorem STR.kept {G : GT} {A : Nat → Prop} {U : State} {H H1 : Heap} (h : STR G A U H) (hq : ∀ a : Nat, a < H.size → ¬ A a → H1[a]? = H[a]?) : STR G A U H1 :=
  ⟨h.1, h.2.1.kept hq, h.2.2.1, h.2.2.2.1.kept hq, h.2.2.2.2.kept hq⟩
theorem STR.narrow {G : GT} {A B : Nat → Prop} {U : State} {H : Heap} (h : STR G A U H) (hAB : ∀ q, B q → A q) : STR G B U H :=
  ⟨h.1, h.2.1.narrow hAB, h.2.2.1, h.2.2.2.1.narrow hAB, h.2.2.2.2.narrow hAB⟩
theorem STR.calling {G : GT} {A : Nat → Prop} {U : State} {H : Heap} (g : JFrame) (mk : MethodId) (a : Array Value) (h : STR G A U H) : STR G A (U.calling g mk a) H :=
  ⟨va_Nw.same (u := U) rfl rfl h.1, h.2.1.moved (Vm.Alike.refl U.vm), fun q hq => (h.2.2.1 q hq).same (u := U) rfl, h.2.2.2.1.moved (u := U) (Vm.Alike.refl U.vm), h.2.2.2.2.moved (u := U) (Vm.Alike.refl U.vm)⟩
def rmL (k : Nat) : Room := { frames := k, cells := 0, slots := 0, locals := 64 * k }
/-- a method's contract: from the world σ it ends with rv, in the world σ' -/
def MCt (G : GT) (k : Nat) (y : MethodName) (b : ByteArray) (nL : Nat) (rt : Option FieldType) (as : List Value) (σ : St) (rv : Option Value) (σ' : St) : Prop :=
  ∀ sz : Nat, Met G.1 y (.code y b nL rt :: TBL) (rmL k) (va_Pc as (fun U => U.heap.size = sz ∧ va_P G.2.1 clz (wld G σ) U.heap ∧ GOOD G (va_A (wld G σ) sz) U U.heap)) (fun _ st oc t => oc = .returned rv ∧ va_P G.2.1 clz (wld G σ') t.heap ∧ va_F (va_A (wld G σ) sz) st t) 0 0 (va_A (wld G σ) sz)
abbrev ir (i : Int32) (n : Nat) : Prop := 0 ≤ i.toInt ∧ i.toInt < (n : Int)
abbrev CT : Type := Program × Env × Room × State × MethodId × Array Value × List Frame × Method × Code × (State → Prop) × (Nat → Prop) × Nat × Nat
def WW (G : GT) (X : CT) (nL : Nat) (σ : St) (lv : List (Nat × Value)) (pc : Nat) (st : List Value) : Prop := match X with
  | (p, e, R, s, m, args, below, meth, c, Q, A, ck, sk) => ∀ (H : Heap) (locs : List Loc) (ls : Array Slot), lv_has ls nL lv → va_P G.2.1 clz (wld G σ) H → va_S A s.heap H locs → W p G.1 e R s m args below meth c H locs ck sk Q (F0 m pc ls st)
def Cx (G : GT) (X : CT) (own : String) (cc : ByteArray) (nL n : Nat) : Prop := match X with
  | (p, _, R, s, m, args, _, _, c, _, A, ck, sk) => p.tables.exec = Jvm.exec ∧ c.code = cc ∧ c.maxLocals = nL ∧ s.vm.findClass own = some m.cls ∧ (∀ w ∈ TBL, w.before args s = true) ∧ GOOD G A s s.heap ∧ (∀ q, s.heap.size ≤ q → A q) ∧ (ck ≤ R.cells ∧ sk ≤ R.slots) ∧ (n ≤ R.frames ∧ 64 * n ≤ R.locals)
def lt {α β : Type} (a : α) (k : α → β) : β := k a
def gd {β : Type} (c : Prop) [Decidable c] (x : Option β) : Option β := if c then x else none
def bp {α β : Type} (x : Option α) (k : α → Option β) : Option β := match x with
  | some a => k a
  | none => none
def bs {α β : Type} (x : Option (α × St)) (k : α → St → Option β) : Option β := match x with
  | some (a, s) => k a s
  | none => none
theorem gd_some {β : Type} {c : Prop} [Decidable c] {x : Option β} {o : β} (h : gd c x = some o) : c ∧ x = some o := by
  unfold gd at h
  by_cases hc : c
  · rw [if_pos hc] at h; exact ⟨hc, h⟩
  · rw [if_neg hc] at h; cases h
theorem bp_some {α β : Type} {x : Option α} {k : α → Option β} {o : β} (h : bp x k = some o) : ∃ a, x = some a ∧ k a = some o := by
  cases x with
  | none => cases h
  | some a => exact ⟨a, rfl, h⟩
theorem bs_some {α β : Type} {x : Option (α × St)} {k : α → St → Option β} {o : β} (h : bs x k = some o) : ∃ a s, x = some (a, s) ∧ k a s = some o := by
  cases x with
  | none => cases h
  | some a => exact ⟨a.1, a.2, rfl, h⟩
theorem it_t {β : Type} {c : Prop} {d : Decidable c} {a b : Option β} {o : β} (h : c) (hF : @ite _ c d a b = some o) : a = some o := by rwa [if_pos h] at hF
theorem it_f {β : Type} {c : Prop} {d : Decidable c} {a b : Option β} {o : β} (h : ¬ c) (hF : @ite _ c d a b = some o) : b = some o := by rwa [if_neg h] at hF

theorem ww_iconst {G : GT} {X : CT} {own : String} {cc : ByteArray} {nL n : Nat} {σ : St} {lv : List (Nat × Value)} {pc : Nat} {st : List Value} {z : Int} {v : Int32} (cx : Cx G X own cc nL n) (hdg : decode cc pc = .ok (.iconst z, 1)) (hv : Int32.ofInt z = v) (k : WW G X nL σ lv (pc + 1) (.int v :: st)) : WW G X nL σ lv pc (st) := by
  obtain ⟨p, e, R, s, m, args, below, meth, c, Q, A, ck, sk⟩ := X
  obtain ⟨hx, hb, hml, hown, hts, hG, hA, hck, hlv⟩ := cx
  intro H locs ls hl hP hS
  exact lv_iconst hx hb hdg hv (k H locs ls hl hP hS)

theorem ww_bipush {G : GT} {X : CT} {own : String} {cc : ByteArray} {nL n : Nat} {σ : St} {lv : List (Nat × Value)} {pc : Nat} {st : List Value} {z : Int} {v : Int32} (cx : Cx G X own cc nL n) (hdg : decode cc pc = .ok (.bipush z, 2)) (hv : (Int8.ofInt z).toInt32 = v) (k : WW G X nL σ lv (pc + 2) (.int v :: st)) : WW G X nL σ lv pc (st) := by
  obtain ⟨p, e, R, s, m, args, below, meth, c, Q, A, ck, sk⟩ := X
  obtain ⟨hx, hb, hml, hown, hts, hG, hA, hck, hlv⟩ := cx
  intro H locs ls hl hP hS
  exact lv_bipush hx hb hdg hv (k H locs ls hl hP hS)

theorem ww_sipush {G : GT} {X : CT} {own : String} {cc : ByteArray} {nL n : Nat} {σ : St} {lv : List (Nat × Value)} {pc : Nat} {st : List Value} {z : Int} {v : Int32} (cx : Cx G X own cc nL n) (hdg : decode cc pc = .ok (.sipush z, 3)) (hv : (Int16.ofInt z).toInt32 = v) (k : WW G X nL σ lv (pc + 3) (.int v :: st)) : WW G X nL σ lv pc (st) := by
  obtain ⟨p, e, R, s, m, args, below, meth, c, Q, A, ck, sk⟩ := X
  obtain ⟨hx, hb, hml, hown, hts, hG, hA, hck, hlv⟩ := cx
  intro H locs ls hl hP hS
  exact lv_sipush hx hb hdg hv (k H locs ls hl hP hS)

theorem ww_lconst {G : GT} {X : CT} {own : String} {cc : ByteArray} {nL n : Nat} {σ : St} {lv : List (Nat × Value)} {pc : Nat} {st : List Value} {z : Fin 2} {v : Int64} (cx : Cx G X own cc nL n) (hdg : decode cc pc = .ok (.lconst z, 1)) (hv : Int64.ofNat (z : Nat) = v) (k : WW G X nL σ lv (pc + 1) (.long v :: st)) : WW G X nL σ lv pc (st) := by
  obtain ⟨p, e, R, s, m, args, below, meth, c, Q, A, ck, sk⟩ := X
  obtain ⟨hx, hb, hml, hown, hts, hG, hA, hck, hlv⟩ := cx
  intro H locs ls hl hP hS
  exact lv_lconst hx hb hdg hv (k H locs ls hl hP hS)

theorem ww_ldc {G : GT} {X : CT} {own : String} {cc : ByteArray} {nL n : Nat} {σ : St} {lv : List (Nat × Value)} {pc : Nat} {st : List Value} {ix : Nat} {v : Int32} (cx : Cx G X own cc nL n) (hdg : decode cc pc = .ok (.ldc ix, 2)) (hw : Cond.constant own ix v ∈ TBL) (k : WW G X nL σ lv (pc + 2) (.int v :: st)) : WW G X nL σ lv pc (st) := by
  obtain ⟨p, e, R, s, m, args, below, meth, c, Q, A, ck, sk⟩ := X
  obtain ⟨hx, hb, hml, hown, hts, hG, hA, hck, hlv⟩ := cx
  intro H locs ls hl hP hS
  exact lv_ldc hx hb hown (hts _ hw) hdg (k H locs ls hl hP hS)

theorem ww_ldc2 {G : GT} {X : CT} {own : String} {cc : ByteArray} {nL n : Nat} {σ : St} {lv : List (Nat × Value)} {pc : Nat} {st : List Value} {ix : Nat} {v : Int64} (cx : Cx G X own cc nL n) (hdg : decode cc pc = .ok (.ldc2_w ix, 3)) (hw : Cond.constantLong own ix v ∈ TBL) (k : WW G X nL σ lv (pc + 3) (.long v :: st)) : WW G X nL σ lv pc (st) := by
  obtain ⟨p, e, R, s, m, args, below, meth, c, Q, A, ck, sk⟩ := X
  obtain ⟨hx, hb, hml, hown, hts, hG, hA, hck, hlv⟩ := cx
  intro H locs ls hl hP hS
  exact lv_ldc2 hx hb hown (hts _ hw) hdg (k H locs ls hl hP hS)

theorem ww_iadd {G : GT} {X : CT} {own : String} {cc : ByteArray} {nL n : Nat} {σ : St} {lv : List (Nat × Value)} {pc : Nat} {st : List Value} {x y : Int32} (cx : Cx G X own cc nL n) (hdg : decode cc pc = .ok (.iadd, 1)) (k : WW G X nL σ lv (pc + 1) (.int (x + y) :: st)) : WW G X nL σ lv pc (.int y :: .int x :: st) := by
  obtain ⟨p, e, R, s, m, args, below, meth, c, Q, A, ck, sk⟩ := X
  obtain ⟨hx, hb, hml, hown, hts, hG, hA, hck, hlv⟩ := cx
  intro H locs ls hl hP hS
  exact lv_iadd hx hb hdg (k H locs ls hl hP hS)

theorem ww_isub {G : GT} {X : CT} {own : String} {cc : ByteArray} {nL n : Nat} {σ : St} {lv : List (Nat × Value)} {pc : Nat} {st : List Value} {x y : Int32} (cx : Cx G X own cc nL n) (hdg : decode cc pc = .ok (.isub, 1)) (k : WW G X nL σ lv (pc + 1) (.int (x - y) :: st)) : WW G X nL σ lv pc (.int y :: .int x :: st) := by
  obtain ⟨p, e, R, s, m, args, below, meth, c, Q, A, ck, sk⟩ := X
  obtain ⟨hx, hb, hml, hown, hts, hG, hA, hck, hlv⟩ := cx
  intro H locs ls hl hP hS
  exact lv_isub hx hb hdg (k H locs ls hl hP hS)

theorem ww_imul {G : GT} {X : CT} {own : String} {cc : ByteArray} {nL n : Nat} {σ : St} {lv : List (Nat × Value)} {pc : Nat} {st : List Value} {x y : Int32} (cx : Cx G X own cc nL n) (hdg : decode cc pc = .ok (.imul, 1)) (k : WW G X nL σ lv (pc + 1) (.int (x * y) :: st)) : WW G X nL σ lv pc (.int y :: .int x :: st) := by
  obtain ⟨p, e, R, s, m, args, below, meth, c, Q, A, ck, sk⟩ := X
  obtain ⟨hx, hb, hml, hown, hts, hG, hA, hck, hlv⟩ := cx
  intro H locs ls hl hP hS
  exact lv_imul hx hb hdg (k H locs ls hl hP hS)

theorem ww_iand {G : GT} {X : CT} {own : String} {cc : ByteArray} {nL n : Nat} {σ : St} {lv : List (Nat × Value)} {pc : Nat} {st : List Value} {x y : Int32} (cx : Cx G X own cc nL n) (hdg : decode cc pc = .ok (.iand, 1)) (k : WW G X nL σ lv (pc + 1) (.int (x &&& y) :: st)) : WW G X nL σ lv pc (.int y :: .int x :: st) := by
  obtain ⟨p, e, R, s, m, args, below, meth, c, Q, A, ck, sk⟩ := X
  obtain ⟨hx, hb, hml, hown, hts, hG, hA, hck, hlv⟩ := cx
  intro H locs ls hl hP hS
  exact lv_iand hx hb hdg (k H locs ls hl hP hS)

theorem ww_ior {G : GT} {X : CT} {own : String} {cc : ByteArray} {nL n : Nat} {σ : St} {lv : List (Nat × Value)} {pc : Nat} {st : List Value} {x y : Int32} (cx : Cx G X own cc nL n) (hdg : decode cc pc = .ok (.ior, 1)) (k : WW G X nL σ lv (pc + 1) (.int (x ||| y) :: st)) : WW G X nL σ lv pc (.int y :: .int x :: st) := by
  obtain ⟨p, e, R, s, m, args, below, meth, c, Q, A, ck, sk⟩ := X
  obtain ⟨hx, hb, hml, hown, hts, hG, hA, hck, hlv⟩ := cx
  intro H locs ls hl hP hS
  exact lv_ior hx hb hdg (k H locs ls hl hP hS)

theorem ww_ixor {G : GT} {X : CT} {own : String} {cc : ByteArray} {nL n : Nat} {σ : St} {lv : List (Nat × Value)} {pc : Nat} {st : List Value} {x y : Int32} (cx : Cx G X own cc nL n) (hdg : decode cc pc = .ok (.ixor, 1)) (k : WW G X nL σ lv (pc + 1) (.int (x ^^^ y) :: st)) : WW G X nL σ lv pc (.int y :: .int x :: st) := by
  obtain ⟨p, e, R, s, m, args, below, meth, c, Q, A, ck, sk⟩ := X
  obtain ⟨hx, hb, hml, hown, hts, hG, hA, hck, hlv⟩ := cx
  intro H locs ls hl hP hS
  exact lv_ixor hx hb hdg (k H locs ls hl hP hS)

theorem ww_ishl {G : GT} {X : CT} {own : String} {cc : ByteArray} {nL n : Nat} {σ : St} {lv : List (Nat × Value)} {pc : Nat} {st : List Value} {x y : Int32} (cx : Cx G X own cc nL n) (hdg : decode cc pc = .ok (.ishl, 1)) (k : WW G X nL σ lv (pc + 1) (.int (x <<< (y &&& 31)) :: st)) : WW G X nL σ lv pc (.int y :: .int x :: st) := by
  obtain ⟨p, e, R, s, m, args, below, meth, c, Q, A, ck, sk⟩ := X
  obtain ⟨hx, hb, hml, hown, hts, hG, hA, hck, hlv⟩ := cx
  intro H locs ls hl hP hS
  exact lv_ishl hx hb hdg (k H locs ls hl hP hS)

theorem ww_ishr {G : GT} {X : CT} {own : String} {cc : ByteArray} {nL n : Nat} {σ : St} {lv : List (Nat × Value)} {pc : Nat} {st : List Value} {x y : Int32} (cx : Cx G X own cc nL n) (hdg : decode cc pc = .ok (.ishr, 1)) (k : WW G X nL σ lv (pc + 1) (.int (x >>> (y &&& 31)) :: st)) : WW G X nL σ lv pc (.int y :: .int x :: st) := by
  obtain ⟨p, e, R, s, m, args, below, meth, c, Q, A, ck, sk⟩ := X
  obtain ⟨hx, hb, hml, hown, hts, hG, hA, hck, hlv⟩ := cx
  intro H locs ls hl hP hS
  exact lv_ishr hx hb hdg (k H locs ls hl hP hS)

theorem ww_iushr {G : GT} {X : CT} {own : String} {cc : ByteArray} {nL n : Nat} {σ : St} {lv : List (Nat × Value)} {pc : Nat} {st : List Value} {x y : Int32} (cx : Cx G X own cc nL n) (hdg : decode cc pc = .ok (.iushr, 1)) (k : WW G X nL σ lv (pc + 1) (.int ((x.toUInt32 >>> (y.toUInt32 &&& Int32.toUInt32 31)).toInt32) :: st)) : WW G X nL σ lv pc (.int y :: .int x :: st) := by
  obtain ⟨p, e, R, s, m, args, below, meth, c, Q, A, ck, sk⟩ := X
  obtain ⟨hx, hb, hml, hown, hts, hG, hA, hck, hlv⟩ := cx
  intro H locs ls hl hP hS
  exact lv_iushr hx hb hdg rfl (k H locs ls hl hP hS)

theorem ww_ineg {G : GT} {X : CT} {own : String} {cc : ByteArray} {nL n : Nat} {σ : St} {lv : List (Nat × Value)} {pc : Nat} {st : List Value} {x : Int32} (cx : Cx G X own cc nL n) (hdg : decode cc pc = .ok (.ineg, 1)) (k : WW G X nL σ lv (pc + 1) (.int (-x) :: st)) : WW G X nL σ lv pc (.int x :: st) := by
  obtain ⟨p, e, R, s, m, args, below, meth, c, Q, A, ck, sk⟩ := X
  obtain ⟨hx, hb, hml, hown, hts, hG, hA, hck, hlv⟩ := cx
  intro H locs ls hl hP hS
  exact lv_ineg hx hb hdg (k H locs ls hl hP hS)

theorem ww_ladd {G : GT} {X : CT} {own : String} {cc : ByteArray} {nL n : Nat} {σ : St} {lv : List (Nat × Value)} {pc : Nat} {st : List Value} {x y : Int64} (cx : Cx G X own cc nL n) (hdg : decode cc pc = .ok (.ladd, 1)) (k : WW G X nL σ lv (pc + 1) (.long (x + y) :: st)) : WW G X nL σ lv pc (.long y :: .long x :: st) := by
  obtain ⟨p, e, R, s, m, args, below, meth, c, Q, A, ck, sk⟩ := X
  obtain ⟨hx, hb, hml, hown, hts, hG, hA, hck, hlv⟩ := cx
  intro H locs ls hl hP hS
  exact lv_ladd hx hb hdg (k H locs ls hl hP hS)

theorem ww_lsub {G : GT} {X : CT} {own : String} {cc : ByteArray} {nL n : Nat} {σ : St} {lv : List (Nat × Value)} {pc : Nat} {st : List Value} {x y : Int64} (cx : Cx G X own cc nL n) (hdg : decode cc pc = .ok (.lsub, 1)) (k : WW G X nL σ lv (pc + 1) (.long (x - y) :: st)) : WW G X nL σ lv pc (.long y :: .long x :: st) := by
  obtain ⟨p, e, R, s, m, args, below, meth, c, Q, A, ck, sk⟩ := X
  obtain ⟨hx, hb, hml, hown, hts, hG, hA, hck, hlv⟩ := cx
  intro H locs ls hl hP hS
  exact lv_lsub hx hb hdg (k H locs ls hl hP hS)

theorem ww_lmul {G : GT} {X : CT} {own : String} {cc : ByteArray} {nL n : Nat} {σ : St} {lv : List (Nat × Value)} {pc : Nat} {st : List Value} {x y : Int64} (cx : Cx G X own cc nL n) (hdg : decode cc pc = .ok (.lmul, 1)) (k : WW G X nL σ lv (pc + 1) (.long (x * y) :: st)) : WW G X nL σ lv pc (.long y :: .long x :: st) := by
  obtain ⟨p, e, R, s, m, args, below, meth, c, Q, A, ck, sk⟩ := X
  obtain ⟨hx, hb, hml, hown, hts, hG, hA, hck, hlv⟩ := cx
  intro H locs ls hl hP hS
  exact lv_lmul hx hb hdg (k H locs ls hl hP hS)

theorem ww_land {G : GT} {X : CT} {own : String} {cc : ByteArray} {nL n : Nat} {σ : St} {lv : List (Nat × Value)} {pc : Nat} {st : List Value} {x y : Int64} (cx : Cx G X own cc nL n) (hdg : decode cc pc = .ok (.land, 1)) (k : WW G X nL σ lv (pc + 1) (.long (x &&& y) :: st)) : WW G X nL σ lv pc (.long y :: .long x :: st) := by
  obtain ⟨p, e, R, s, m, args, below, meth, c, Q, A, ck, sk⟩ := X
  obtain ⟨hx, hb, hml, hown, hts, hG, hA, hck, hlv⟩ := cx
  intro H locs ls hl hP hS
  exact lv_land hx hb hdg (k H locs ls hl hP hS)

theorem ww_lor {G : GT} {X : CT} {own : String} {cc : ByteArray} {nL n : Nat} {σ : St} {lv : List (Nat × Value)} {pc : Nat} {st : List Value} {x y : Int64} (cx : Cx G X own cc nL n) (hdg : decode cc pc = .ok (.lor, 1)) (k : WW G X nL σ lv (pc + 1) (.long (x ||| y) :: st)) : WW G X nL σ lv pc (.long y :: .long x :: st) := by
  obtain ⟨p, e, R, s, m, args, below, meth, c, Q, A, ck, sk⟩ := X
  obtain ⟨hx, hb, hml, hown, hts, hG, hA, hck, hlv⟩ := cx
  intro H locs ls hl hP hS
  exact lv_lor hx hb hdg (k H locs ls hl hP hS)

theorem ww_lshl {G : GT} {X : CT} {own : String} {cc : ByteArray} {nL n : Nat} {σ : St} {lv : List (Nat × Value)} {pc : Nat} {st : List Value} {x : Int64} {y : Int32} (cx : Cx G X own cc nL n) (hdg : decode cc pc = .ok (.lshl, 1)) (k : WW G X nL σ lv (pc + 1) (.long (x <<< (y.toInt64 &&& 63)) :: st)) : WW G X nL σ lv pc (.int y :: .long x :: st) := by
  obtain ⟨p, e, R, s, m, args, below, meth, c, Q, A, ck, sk⟩ := X
  obtain ⟨hx, hb, hml, hown, hts, hG, hA, hck, hlv⟩ := cx
  intro H locs ls hl hP hS
  exact lv_lshl hx hb hdg rfl (k H locs ls hl hP hS)

theorem ww_lshr {G : GT} {X : CT} {own : String} {cc : ByteArray} {nL n : Nat} {σ : St} {lv : List (Nat × Value)} {pc : Nat} {st : List Value} {x : Int64} {y : Int32} (cx : Cx G X own cc nL n) (hdg : decode cc pc = .ok (.lshr, 1)) (k : WW G X nL σ lv (pc + 1) (.long (x >>> (y.toInt64 &&& 63)) :: st)) : WW G X nL σ lv pc (.int y :: .long x :: st) := by
  obtain ⟨p, e, R, s, m, args, below, meth, c, Q, A, ck, sk⟩ := X
  obtain ⟨hx, hb, hml, hown, hts, hG, hA, hck, hlv⟩ := cx
  intro H locs ls hl hP hS
  exact lv_lshr hx hb hdg rfl (k H locs ls hl hP hS)

theorem ww_i2l {G : GT} {X : CT} {own : String} {cc : ByteArray} {nL n : Nat} {σ : St} {lv : List (Nat × Value)} {pc : Nat} {st : List Value} {x : Int32} (cx : Cx G X own cc nL n) (hdg : decode cc pc = .ok (.i2l, 1)) (k : WW G X nL σ lv (pc + 1) (.long (x.toInt64) :: st)) : WW G X nL σ lv pc (.int x :: st) := by
  obtain ⟨p, e, R, s, m, args, below, meth, c, Q, A, ck, sk⟩ := X
  obtain ⟨hx, hb, hml, hown, hts, hG, hA, hck, hlv⟩ := cx
  intro H locs ls hl hP hS
  exact lv_i2l hx hb hdg rfl (k H locs ls hl hP hS)

theorem ww_l2i {G : GT} {X : CT} {own : String} {cc : ByteArray} {nL n : Nat} {σ : St} {lv : List (Nat × Value)} {pc : Nat} {st : List Value} {x : Int64} (cx : Cx G X own cc nL n) (hdg : decode cc pc = .ok (.l2i, 1)) (k : WW G X nL σ lv (pc + 1) (.int (x.toInt32) :: st)) : WW G X nL σ lv pc (.long x :: st) := by
  obtain ⟨p, e, R, s, m, args, below, meth, c, Q, A, ck, sk⟩ := X
  obtain ⟨hx, hb, hml, hown, hts, hG, hA, hck, hlv⟩ := cx
  intro H locs ls hl hP hS
  exact lv_l2i hx hb hdg rfl (k H locs ls hl hP hS)

theorem ww_i2b {G : GT} {X : CT} {own : String} {cc : ByteArray} {nL n : Nat} {σ : St} {lv : List (Nat × Value)} {pc : Nat} {st : List Value} {x : Int32} (cx : Cx G X own cc nL n) (hdg : decode cc pc = .ok (.i2b, 1)) (k : WW G X nL σ lv (pc + 1) (.int (x.toInt8.toInt32) :: st)) : WW G X nL σ lv pc (.int x :: st) := by
  obtain ⟨p, e, R, s, m, args, below, meth, c, Q, A, ck, sk⟩ := X
  obtain ⟨hx, hb, hml, hown, hts, hG, hA, hck, hlv⟩ := cx
  intro H locs ls hl hP hS
  exact lv_i2b hx hb hdg rfl (k H locs ls hl hP hS)

theorem ww_i2s {G : GT} {X : CT} {own : String} {cc : ByteArray} {nL n : Nat} {σ : St} {lv : List (Nat × Value)} {pc : Nat} {st : List Value} {x : Int32} (cx : Cx G X own cc nL n) (hdg : decode cc pc = .ok (.i2s, 1)) (k : WW G X nL σ lv (pc + 1) (.int (x.toInt16.toInt32) :: st)) : WW G X nL σ lv pc (.int x :: st) := by
  obtain ⟨p, e, R, s, m, args, below, meth, c, Q, A, ck, sk⟩ := X
  obtain ⟨hx, hb, hml, hown, hts, hG, hA, hck, hlv⟩ := cx
  intro H locs ls hl hP hS
  exact lv_i2s hx hb hdg rfl (k H locs ls hl hP hS)

theorem ww_i2c {G : GT} {X : CT} {own : String} {cc : ByteArray} {nL n : Nat} {σ : St} {lv : List (Nat × Value)} {pc : Nat} {st : List Value} {x : Int32} (cx : Cx G X own cc nL n) (hdg : decode cc pc = .ok (.i2c, 1)) (k : WW G X nL σ lv (pc + 1) (.int ((x.toUInt32 % 65536).toInt32) :: st)) : WW G X nL σ lv pc (.int x :: st) := by
  obtain ⟨p, e, R, s, m, args, below, meth, c, Q, A, ck, sk⟩ := X
  obtain ⟨hx, hb, hml, hown, hts, hG, hA, hck, hlv⟩ := cx
  intro H locs ls hl hP hS
  exact lv_i2c hx hb hdg rfl (k H locs ls hl hP hS)

theorem ww_idiv {G : GT} {X : CT} {own : String} {cc : ByteArray} {nL n : Nat} {σ : St} {lv : List (Nat × Value)} {pc : Nat} {st : List Value} {x y : Int32} {β : Type} {F : Option β} {o : β} (cx : Cx G X own cc nL n) (hdg : decode cc pc = .ok (.idiv, 1)) (hF : gd (¬ y = 0) F = some o) (k : F = some o → WW G X nL σ lv (pc + 1) (.int (x / y) :: st)) : WW G X nL σ lv pc (.int y :: .int x :: st) := by
  obtain ⟨p, e, R, s, m, args, below, meth, c, Q, A, ck, sk⟩ := X
  obtain ⟨hx, hb, hml, hown, hts, hG, hA, hck, hlv⟩ := cx
  intro H locs ls hl hP hS
  exact lv_idiv hx hb hdg (gd_some hF).1 (k (gd_some hF).2 H locs ls hl hP hS)

theorem ww_irem {G : GT} {X : CT} {own : String} {cc : ByteArray} {nL n : Nat} {σ : St} {lv : List (Nat × Value)} {pc : Nat} {st : List Value} {x y : Int32} {β : Type} {F : Option β} {o : β} (cx : Cx G X own cc nL n) (hdg : decode cc pc = .ok (.irem, 1)) (hF : gd (¬ y = 0) F = some o) (k : F = some o → WW G X nL σ lv (pc + 1) (.int (x - x / y * y) :: st)) : WW G X nL σ lv pc (.int y :: .int x :: st) := by
  obtain ⟨p, e, R, s, m, args, below, meth, c, Q, A, ck, sk⟩ := X
  obtain ⟨hx, hb, hml, hown, hts, hG, hA, hck, hlv⟩ := cx
  intro H locs ls hl hP hS
  exact lv_irem hx hb hdg (gd_some hF).1 (k (gd_some hF).2 H locs ls hl hP hS)

theorem ww_ldiv {G : GT} {X : CT} {own : String} {cc : ByteArray} {nL n : Nat} {σ : St} {lv : List (Nat × Value)} {pc : Nat} {st : List Value} {x y : Int64} {β : Type} {F : Option β} {o : β} (cx : Cx G X own cc nL n) (hdg : decode cc pc = .ok (.ldiv, 1)) (hF : gd (¬ y = 0) F = some o) (k : F = some o → WW G X nL σ lv (pc + 1) (.long (x / y) :: st)) : WW G X nL σ lv pc (.long y :: .long x :: st) := by
  obtain ⟨p, e, R, s, m, args, below, meth, c, Q, A, ck, sk⟩ := X
  obtain ⟨hx, hb, hml, hown, hts, hG, hA, hck, hlv⟩ := cx
  intro H locs ls hl hP hS
  exact lv_ldiv hx hb hdg (gd_some hF).1 (k (gd_some hF).2 H locs ls hl hP hS)

theorem ww_lrem {G : GT} {X : CT} {own : String} {cc : ByteArray} {nL n : Nat} {σ : St} {lv : List (Nat × Value)} {pc : Nat} {st : List Value} {x y : Int64} {β : Type} {F : Option β} {o : β} (cx : Cx G X own cc nL n) (hdg : decode cc pc = .ok (.lrem, 1)) (hF : gd (¬ y = 0) F = some o) (k : F = some o → WW G X nL σ lv (pc + 1) (.long (x - x / y * y) :: st)) : WW G X nL σ lv pc (.long y :: .long x :: st) := by
  obtain ⟨p, e, R, s, m, args, below, meth, c, Q, A, ck, sk⟩ := X
  obtain ⟨hx, hb, hml, hown, hts, hG, hA, hck, hlv⟩ := cx
  intro H locs ls hl hP hS
  exact lv_lrem hx hb hdg (gd_some hF).1 (k (gd_some hF).2 H locs ls hl hP hS)

theorem ww_dup {G : GT} {X : CT} {own : String} {cc : ByteArray} {nL n : Nat} {σ : St} {lv : List (Nat × Value)} {pc : Nat} {st : List Value} {va : Value} (cx : Cx G X own cc nL n) (hdg : decode cc pc = .ok (.dup, 1)) (h1 : va.category = 1) (k : WW G X nL σ lv (pc + 1) (va :: va :: st)) : WW G X nL σ lv pc (va :: st) := by
  obtain ⟨p, e, R, s, m, args, below, meth, c, Q, A, ck, sk⟩ := X
  obtain ⟨hx, hb, hml, hown, hts, hG, hA, hck, hlv⟩ := cx
  intro H locs ls hl hP hS
  exact lv_dup hx hb hdg h1 (k H locs ls hl hP hS)

theorem ww_pop {G : GT} {X : CT} {own : String} {cc : ByteArray} {nL n : Nat} {σ : St} {lv : List (Nat × Value)} {pc : Nat} {st : List Value} {va : Value} (cx : Cx G X own cc nL n) (hdg : decode cc pc = .ok (.pop, 1)) (h1 : va.category = 1) (k : WW G X nL σ lv (pc + 1) (st)) : WW G X nL σ lv pc (va :: st) := by
  obtain ⟨p, e, R, s, m, args, below, meth, c, Q, A, ck, sk⟩ := X
  obtain ⟨hx, hb, hml, hown, hts, hG, hA, hck, hlv⟩ := cx
  intro H locs ls hl hP hS
  exact lv_pop hx hb hdg h1 (k H locs ls hl hP hS)

theorem ww_dup_x1 {G : GT} {X : CT} {own : String} {cc : ByteArray} {nL n : Nat} {σ : St} {lv : List (Nat × Value)} {pc : Nat} {st : List Value} {va vb : Value} (cx : Cx G X own cc nL n) (hdg : decode cc pc = .ok (.dup_x1, 1)) (h1 : va.category = 1) (h2 : vb.category = 1) (k : WW G X nL σ lv (pc + 1) (va :: vb :: va :: st)) : WW G X nL σ lv pc (va :: vb :: st) := by
  obtain ⟨p, e, R, s, m, args, below, meth, c, Q, A, ck, sk⟩ := X
  obtain ⟨hx, hb, hml, hown, hts, hG, hA, hck, hlv⟩ := cx
  intro H locs ls hl hP hS
  exact lv_dup_x1 hx hb hdg h1 h2 (k H locs ls hl hP hS)

theorem ww_dup_x2 {G : GT} {X : CT} {own : String} {cc : ByteArray} {nL n : Nat} {σ : St} {lv : List (Nat × Value)} {pc : Nat} {st : List Value} {va vb vd : Value} (cx : Cx G X own cc nL n) (hdg : decode cc pc = .ok (.dup_x2, 1)) (h1 : va.category = 1) (h2 : vb.category = 1) (h3 : vd.category = 1) (k : WW G X nL σ lv (pc + 1) (va :: vb :: vd :: va :: st)) : WW G X nL σ lv pc (va :: vb :: vd :: st) := by
  obtain ⟨p, e, R, s, m, args, below, meth, c, Q, A, ck, sk⟩ := X
  obtain ⟨hx, hb, hml, hown, hts, hG, hA, hck, hlv⟩ := cx
  intro H locs ls hl hP hS
  exact lv_dup_x2 hx hb hdg h1 h2 h3 (k H locs ls hl hP hS)

theorem ww_dup2 {G : GT} {X : CT} {own : String} {cc : ByteArray} {nL n : Nat} {σ : St} {lv : List (Nat × Value)} {pc : Nat} {st : List Value} {va vb : Value} (cx : Cx G X own cc nL n) (hdg : decode cc pc = .ok (.dup2, 1)) (h1 : va.category = 1) (h2 : vb.category = 1) (k : WW G X nL σ lv (pc + 1) (va :: vb :: va :: vb :: st)) : WW G X nL σ lv pc (va :: vb :: st) := by
  obtain ⟨p, e, R, s, m, args, below, meth, c, Q, A, ck, sk⟩ := X
  obtain ⟨hx, hb, hml, hown, hts, hG, hA, hck, hlv⟩ := cx
  intro H locs ls hl hP hS
  exact lv_dup2_11 hx hb hdg h1 h2 (k H locs ls hl hP hS)

theorem ww_iload_n {G : GT} {X : CT} {own : String} {cc : ByteArray} {nL n : Nat} {σ : St} {lv : List (Nat × Value)} {pc : Nat} {st : List Value} {z : Fin 4} {i : Nat} {x : Int32} (cx : Cx G X own cc nL n) (hdg : decode cc pc = .ok (.iload_n z, 1)) (hi : (z : Nat) = i) (j : Nat) (hj : lv[j]? = some (i, .int x)) (k : WW G X nL σ lv (pc + 1) (.int x :: st)) : WW G X nL σ lv pc st := by
  obtain ⟨p, e, R, s, m, args, below, meth, c, Q, A, ck, sk⟩ := X
  obtain ⟨hx, hb, hml, hown, hts, hG, hA, hck, hlv⟩ := cx
  intro H locs ls hl hP hS
  exact lv_iload_n hx hb hdg hi (lv_at hl j hj) (k H locs ls hl hP hS)

theorem ww_iload {G : GT} {X : CT} {own : String} {cc : ByteArray} {nL n : Nat} {σ : St} {lv : List (Nat × Value)} {pc : Nat} {st : List Value} {i : Nat} {x : Int32} (cx : Cx G X own cc nL n) (hdg : decode cc pc = .ok (.iload i, 2)) (j : Nat) (hj : lv[j]? = some (i, .int x)) (k : WW G X nL σ lv (pc + 2) (.int x :: st)) : WW G X nL σ lv pc st := by
  obtain ⟨p, e, R, s, m, args, below, meth, c, Q, A, ck, sk⟩ := X
  obtain ⟨hx, hb, hml, hown, hts, hG, hA, hck, hlv⟩ := cx
  intro H locs ls hl hP hS
  exact lv_iload hx hb hdg (lv_at hl j hj) (k H locs ls hl hP hS)

theorem ww_lload_n {G : GT} {X : CT} {own : String} {cc : ByteArray} {nL n : Nat} {σ : St} {lv : List (Nat × Value)} {pc : Nat} {st : List Value} {z : Fin 4} {i : Nat} {x : Int64} (cx : Cx G X own cc nL n) (hdg : decode cc pc = .ok (.lload_n z, 1)) (hi : (z : Nat) = i) (j : Nat) (hj : lv[j]? = some (i, .long x)) (k : WW G X nL σ lv (pc + 1) (.long x :: st)) : WW G X nL σ lv pc st := by
  obtain ⟨p, e, R, s, m, args, below, meth, c, Q, A, ck, sk⟩ := X
  obtain ⟨hx, hb, hml, hown, hts, hG, hA, hck, hlv⟩ := cx
  intro H locs ls hl hP hS
  exact lv_lload_n hx hb hdg hi (lv_at hl j hj) (k H locs ls hl hP hS)

theorem ww_lload {G : GT} {X : CT} {own : String} {cc : ByteArray} {nL n : Nat} {σ : St} {lv : List (Nat × Value)} {pc : Nat} {st : List Value} {i : Nat} {x : Int64} (cx : Cx G X own cc nL n) (hdg : decode cc pc = .ok (.lload i, 2)) (j : Nat) (hj : lv[j]? = some (i, .long x)) (k : WW G X nL σ lv (pc + 2) (.long x :: st)) : WW G X nL σ lv pc st := by
  obtain ⟨p, e, R, s, m, args, below, meth, c, Q, A, ck, sk⟩ := X
  obtain ⟨hx, hb, hml, hown, hts, hG, hA, hck, hlv⟩ := cx
  intro H locs ls hl hP hS
  exact lv_lload hx hb hdg (lv_at hl j hj) (k H locs ls hl hP hS)

theorem ww_aload_n {G : GT} {X : CT} {own : String} {cc : ByteArray} {nL n : Nat} {σ : St} {lv : List (Nat × Value)} {pc : Nat} {st : List Value} {z : Fin 4} {i : Nat} {x : Nat} (cx : Cx G X own cc nL n) (hdg : decode cc pc = .ok (.aload_n z, 1)) (hi : (z : Nat) = i) (j : Nat) (hj : lv[j]? = some (i, .ref x)) (k : WW G X nL σ lv (pc + 1) (.ref x :: st)) : WW G X nL σ lv pc st := by
  obtain ⟨p, e, R, s, m, args, below, meth, c, Q, A, ck, sk⟩ := X
  obtain ⟨hx, hb, hml, hown, hts, hG, hA, hck, hlv⟩ := cx
  intro H locs ls hl hP hS
  exact lv_aload_n hx hb hdg hi (lv_at hl j hj) (k H locs ls hl hP hS)

theorem ww_aload {G : GT} {X : CT} {own : String} {cc : ByteArray} {nL n : Nat} {σ : St} {lv : List (Nat × Value)} {pc : Nat} {st : List Value} {i : Nat} {x : Nat} (cx : Cx G X own cc nL n) (hdg : decode cc pc = .ok (.aload i, 2)) (j : Nat) (hj : lv[j]? = some (i, .ref x)) (k : WW G X nL σ lv (pc + 2) (.ref x :: st)) : WW G X nL σ lv pc st := by
  obtain ⟨p, e, R, s, m, args, below, meth, c, Q, A, ck, sk⟩ := X
  obtain ⟨hx, hb, hml, hown, hts, hG, hA, hck, hlv⟩ := cx
  intro H locs ls hl hP hS
  exact lv_aload hx hb hdg (lv_at hl j hj) (k H locs ls hl hP hS)

theorem ww_istore_n {G : GT} {X : CT} {own : String} {cc : ByteArray} {nL n : Nat} {σ : St} {lv : List (Nat × Value)} {pc : Nat} {st : List Value} {z : Fin 4} {i : Nat} {x : Int32} {ks : List Nat} {lv' : Int32 → List (Nat × Value)} {β : Type} {F : Int32 → Option β} {o : β} (cx : Cx G X own cc nL n) (hdg : decode cc pc = .ok (.istore_n z, 1)) (hi : (z : Nat) = i) (hn : i < nL) (hF : lt x F = some o) (hlv : ∀ v : Int32, lv_pick ((i, .int v) :: lv.filter (fun q => !(q.1 == i) && !(q.1 + 1 == i && q.2.category == 2))) ks = lv' v) (k : ∀ v : Int32, F v = some o → WW G X nL σ (lv' v) (pc + 1) st) : WW G X nL σ lv pc (.int x :: st) := by
  obtain ⟨p, e, R, s, m, args, below, meth, c, Q, A, ck, sk⟩ := X
  obtain ⟨hx, hb, hml, hown, hts, hG, hA, hck, hlm⟩ := cx
  intro H locs ls hl hP hS
  exact lv_istore_n hx hb hdg hi hl hn rfl (fun ls2 hl2 => k x hF H locs ls2 (lv_sub hl2 ks (hlv x)) hP hS)

theorem ww_istore {G : GT} {X : CT} {own : String} {cc : ByteArray} {nL n : Nat} {σ : St} {lv : List (Nat × Value)} {pc : Nat} {st : List Value} {i : Nat} {x : Int32} {ks : List Nat} {lv' : Int32 → List (Nat × Value)} {β : Type} {F : Int32 → Option β} {o : β} (cx : Cx G X own cc nL n) (hdg : decode cc pc = .ok (.istore i, 2)) (hn : i < nL) (hF : lt x F = some o) (hlv : ∀ v : Int32, lv_pick ((i, .int v) :: lv.filter (fun q => !(q.1 == i) && !(q.1 + 1 == i && q.2.category == 2))) ks = lv' v) (k : ∀ v : Int32, F v = some o → WW G X nL σ (lv' v) (pc + 2) st) : WW G X nL σ lv pc (.int x :: st) := by
  obtain ⟨p, e, R, s, m, args, below, meth, c, Q, A, ck, sk⟩ := X
  obtain ⟨hx, hb, hml, hown, hts, hG, hA, hck, hlm⟩ := cx
  intro H locs ls hl hP hS
  exact lv_istore hx hb hdg hl hn rfl (fun ls2 hl2 => k x hF H locs ls2 (lv_sub hl2 ks (hlv x)) hP hS)

theorem ww_lstore_n {G : GT} {X : CT} {own : String} {cc : ByteArray} {nL n : Nat} {σ : St} {lv : List (Nat × Value)} {pc : Nat} {st : List Value} {z : Fin 4} {i : Nat} {x : Int64} {ks : List Nat} {lv' : Int64 → List (Nat × Value)} {β : Type} {F : Int64 → Option β} {o : β} (cx : Cx G X own cc nL n) (hdg : decode cc pc = .ok (.lstore_n z, 1)) (hi : (z : Nat) = i) (hn : i + 1 < nL) (hF : lt x F = some o) (hlv : ∀ v : Int64, lv_pick ((i, .long v) :: lv.filter (fun q => !(q.1 == i) && (!(q.1 == i + 1) && !(q.1 + 1 == i && q.2.category == 2)))) ks = lv' v) (k : ∀ v : Int64, F v = some o → WW G X nL σ (lv' v) (pc + 1) st) : WW G X nL σ lv pc (.long x :: st) := by
  obtain ⟨p, e, R, s, m, args, below, meth, c, Q, A, ck, sk⟩ := X
  obtain ⟨hx, hb, hml, hown, hts, hG, hA, hck, hlm⟩ := cx
  intro H locs ls hl hP hS
  exact lv_lstore_n hx hb hdg hi hl hn rfl (fun ls2 hl2 => k x hF H locs ls2 (lv_sub hl2 ks (hlv x)) hP hS)

theorem ww_lstore {G : GT} {X : CT} {own : String} {cc : ByteArray} {nL n : Nat} {σ : St} {lv : List (Nat × Value)} {pc : Nat} {st : List Value} {i : Nat} {x : Int64} {ks : List Nat} {lv' : Int64 → List (Nat × Value)} {β : Type} {F : Int64 → Option β} {o : β} (cx : Cx G X own cc nL n) (hdg : decode cc pc = .ok (.lstore i, 2)) (hn : i + 1 < nL) (hF : lt x F = some o) (hlv : ∀ v : Int64, lv_pick ((i, .long v) :: lv.filter (fun q => !(q.1 == i) && (!(q.1 == i + 1) && !(q.1 + 1 == i && q.2.category == 2)))) ks = lv' v) (k : ∀ v : Int64, F v = some o → WW G X nL σ (lv' v) (pc + 2) st) : WW G X nL σ lv pc (.long x :: st) := by
  obtain ⟨p, e, R, s, m, args, below, meth, c, Q, A, ck, sk⟩ := X
  obtain ⟨hx, hb, hml, hown, hts, hG, hA, hck, hlm⟩ := cx
  intro H locs ls hl hP hS
  exact lv_lstore hx hb hdg hl hn rfl (fun ls2 hl2 => k x hF H locs ls2 (lv_sub hl2 ks (hlv x)) hP hS)

theorem ww_astore_n {G : GT} {X : CT} {own : String} {cc : ByteArray} {nL n : Nat} {σ : St} {lv : List (Nat × Value)} {pc : Nat} {st : List Value} {z : Fin 4} {i x : Nat} {ks : List Nat} {lv' : List (Nat × Value)} (cx : Cx G X own cc nL n) (hdg : decode cc pc = .ok (.astore_n z, 1)) (hi : (z : Nat) = i) (hn : i < nL) (hlv : lv_pick ((i, .ref x) :: lv.filter (fun q => !(q.1 == i) && !(q.1 + 1 == i && q.2.category == 2))) ks = lv') (k : WW G X nL σ lv' (pc + 1) st) : WW G X nL σ lv pc (.ref x :: st) := by
  obtain ⟨p, e, R, s, m, args, below, meth, c, Q, A, ck, sk⟩ := X
  obtain ⟨hx, hb, hml, hown, hts, hG, hA, hck, hlm⟩ := cx
  intro H locs ls hl hP hS
  exact lv_astore_n hx hb hdg hi hl hn rfl (fun ls2 hl2 => k H locs ls2 (lv_sub hl2 ks hlv) hP hS)

theorem ww_astore {G : GT} {X : CT} {own : String} {cc : ByteArray} {nL n : Nat} {σ : St} {lv : List (Nat × Value)} {pc : Nat} {st : List Value} {i x : Nat} {ks : List Nat} {lv' : List (Nat × Value)} (cx : Cx G X own cc nL n) (hdg : decode cc pc = .ok (.astore i, 2)) (hn : i < nL) (hlv : lv_pick ((i, .ref x) :: lv.filter (fun q => !(q.1 == i) && !(q.1 + 1 == i && q.2.category == 2))) ks = lv') (k : WW G X nL σ lv' (pc + 2) st) : WW G X nL σ lv pc (.ref x :: st) := by
  obtain ⟨p, e, R, s, m, args, below, meth, c, Q, A, ck, sk⟩ := X
  obtain ⟨hx, hb, hml, hown, hts, hG, hA, hck, hlm⟩ := cx
  intro H locs ls hl hP hS
  exact lv_astore hx hb hdg hl hn rfl (fun ls2 hl2 => k H locs ls2 (lv_sub hl2 ks hlv) hP hS)

theorem ww_iinc {G : GT} {X : CT} {own : String} {cc : ByteArray} {nL n : Nat} {σ : St} {lv : List (Nat × Value)} {pc : Nat} {st : List Value} {i j : Nat} {z : Int} {x w : Int32} {ks : List Nat} {lv' : Int32 → List (Nat × Value)} {β : Type} {F : Int32 → Option β} {o : β} (cx : Cx G X own cc nL n) (hdg : decode cc pc = .ok (.iinc i z, 3)) (hn : i < nL) (hj : lv[j]? = some (i, .int x)) (hw : Int32.ofInt z = w) (hF : lt (x + w) F = some o) (hlv : ∀ v : Int32, lv_pick ((i, .int v) :: lv.filter (fun q => !(q.1 == i) && !(q.1 + 1 == i && q.2.category == 2))) ks = lv' v) (k : ∀ v : Int32, F v = some o → WW G X nL σ (lv' v) (pc + 3) st) : WW G X nL σ lv pc st := by
  obtain ⟨p, e, R, s, m, args, below, meth, c, Q, A, ck, sk⟩ := X
  obtain ⟨hx, hb, hml, hown, hts, hG, hA, hck, hlm⟩ := cx
  intro H locs ls hl hP hS
  exact lv_iinc (v := x + w) hx hb hdg hl hj (by rw [hw]) hn rfl (fun ls2 hl2 => k (x + w) hF H locs ls2 (lv_sub hl2 ks (hlv (x + w))) hP hS)

theorem ww_sub {G : GT} {X : CT} {nL : Nat} {σ : St} {lv : List (Nat × Value)} {pc : Nat} {st : List Value} {lv' : List (Nat × Value)} (ks : List Nat) (hlv : lv_pick lv ks = lv') (k : WW G X nL σ lv' pc st) : WW G X nL σ lv pc st := by
  obtain ⟨p, e, R, s, m, args, below, meth, c, Q, A, ck, sk⟩ := X
  intro H locs ls hl hP hS
  exact k H locs ls (lv_sub hl ks hlv) hP hS

theorem ww_if_eq {G : GT} {X : CT} {own : String} {cc : ByteArray} {nL n : Nat} {σ : St} {lv : List (Nat × Value)} {pc : Nat} {st : List Value} {x : Int32} {off : Int} {tgt : Nat} {β : Type} {dd : Decidable (x = 0)} {a b : Option β} {o : β} (cx : Cx G X own cc nL n) (hdg : decode cc pc = .ok (.ifCond .eq off, 3)) (ht : (pc : Int) + off = (tgt : Int)) (hF : @ite _ (x = 0) dd a b = some o) (kt : a = some o → WW G X nL σ lv tgt st) (kf : b = some o → WW G X nL σ lv (pc + 3) st) : WW G X nL σ lv pc (.int x :: st) := by
  obtain ⟨p, e, R, s, m, args, below, meth, c, Q, A, ck, sk⟩ := X
  obtain ⟨hx, hb, hml, hown, hts, hG, hA, hck, hlv⟩ := cx
  intro H locs ls hl hP hS
  exact lv_if_eq hx hb hdg ht (fun h => kt (it_t h hF) H locs ls hl hP hS) (fun h => kf (it_f h hF) H locs ls hl hP hS)

theorem ww_if_ne {G : GT} {X : CT} {own : String} {cc : ByteArray} {nL n : Nat} {σ : St} {lv : List (Nat × Value)} {pc : Nat} {st : List Value} {x : Int32} {off : Int} {tgt : Nat} {β : Type} {dd : Decidable (x = 0)} {a b : Option β} {o : β} (cx : Cx G X own cc nL n) (hdg : decode cc pc = .ok (.ifCond .ne off, 3)) (ht : (pc : Int) + off = (tgt : Int)) (hF : @ite _ (x = 0) dd a b = some o) (kt : b = some o → WW G X nL σ lv tgt st) (kf : a = some o → WW G X nL σ lv (pc + 3) st) : WW G X nL σ lv pc (.int x :: st) := by
  obtain ⟨p, e, R, s, m, args, below, meth, c, Q, A, ck, sk⟩ := X
  obtain ⟨hx, hb, hml, hown, hts, hG, hA, hck, hlv⟩ := cx
  intro H locs ls hl hP hS
  exact lv_if_ne hx hb hdg ht (fun h => kt (it_f h hF) H locs ls hl hP hS) (fun h => kf (it_t h hF) H locs ls hl hP hS)

theorem ww_if_lt {G : GT} {X : CT} {own : String} {cc : ByteArray} {nL n : Nat} {σ : St} {lv : List (Nat × Value)} {pc : Nat} {st : List Value} {x : Int32} {off : Int} {tgt : Nat} {β : Type} {dd : Decidable (x < 0)} {a b : Option β} {o : β} (cx : Cx G X own cc nL n) (hdg : decode cc pc = .ok (.ifCond .lt off, 3)) (ht : (pc : Int) + off = (tgt : Int)) (hF : @ite _ (x < 0) dd a b = some o) (kt : a = some o → WW G X nL σ lv tgt st) (kf : b = some o → WW G X nL σ lv (pc + 3) st) : WW G X nL σ lv pc (.int x :: st) := by
  obtain ⟨p, e, R, s, m, args, below, meth, c, Q, A, ck, sk⟩ := X
  obtain ⟨hx, hb, hml, hown, hts, hG, hA, hck, hlv⟩ := cx
  intro H locs ls hl hP hS
  exact lv_if_lt hx hb hdg ht (fun h => kt (it_t h hF) H locs ls hl hP hS) (fun h => kf (it_f h hF) H locs ls hl hP hS)

theorem ww_if_ge {G : GT} {X : CT} {own : String} {cc : ByteArray} {nL n : Nat} {σ : St} {lv : List (Nat × Value)} {pc : Nat} {st : List Value} {x : Int32} {off : Int} {tgt : Nat} {β : Type} {dd : Decidable (0 ≤ x)} {a b : Option β} {o : β} (cx : Cx G X own cc nL n) (hdg : decode cc pc = .ok (.ifCond .ge off, 3)) (ht : (pc : Int) + off = (tgt : Int)) (hF : @ite _ (0 ≤ x) dd a b = some o) (kt : a = some o → WW G X nL σ lv tgt st) (kf : b = some o → WW G X nL σ lv (pc + 3) st) : WW G X nL σ lv pc (.int x :: st) := by
  obtain ⟨p, e, R, s, m, args, below, meth, c, Q, A, ck, sk⟩ := X
  obtain ⟨hx, hb, hml, hown, hts, hG, hA, hck, hlv⟩ := cx
  intro H locs ls hl hP hS
  exact lv_if_ge hx hb hdg ht (fun h => kt (it_t h hF) H locs ls hl hP hS) (fun h => kf (it_f h hF) H locs ls hl hP hS)

theorem ww_if_gt {G : GT} {X : CT} {own : String} {cc : ByteArray} {nL n : Nat} {σ : St} {lv : List (Nat × Value)} {pc : Nat} {st : List Value} {x : Int32} {off : Int} {tgt : Nat} {β : Type} {dd : Decidable (0 < x)} {a b : Option β} {o : β} (cx : Cx G X own cc nL n) (hdg : decode cc pc = .ok (.ifCond .gt off, 3)) (ht : (pc : Int) + off = (tgt : Int)) (hF : @ite _ (0 < x) dd a b = some o) (kt : a = some o → WW G X nL σ lv tgt st) (kf : b = some o → WW G X nL σ lv (pc + 3) st) : WW G X nL σ lv pc (.int x :: st) := by
  obtain ⟨p, e, R, s, m, args, below, meth, c, Q, A, ck, sk⟩ := X
  obtain ⟨hx, hb, hml, hown, hts, hG, hA, hck, hlv⟩ := cx
  intro H locs ls hl hP hS
  exact lv_if_gt hx hb hdg ht (fun h => kt (it_t h hF) H locs ls hl hP hS) (fun h => kf (it_f h hF) H locs ls hl hP hS)

theorem ww_if_le {G : GT} {X : CT} {own : String} {cc : ByteArray} {nL n : Nat} {σ : St} {lv : List (Nat × Value)} {pc : Nat} {st : List Value} {x : Int32} {off : Int} {tgt : Nat} {β : Type} {dd : Decidable (x ≤ 0)} {a b : Option β} {o : β} (cx : Cx G X own cc nL n) (hdg : decode cc pc = .ok (.ifCond .le off, 3)) (ht : (pc : Int) + off = (tgt : Int)) (hF : @ite _ (x ≤ 0) dd a b = some o) (kt : a = some o → WW G X nL σ lv tgt st) (kf : b = some o → WW G X nL σ lv (pc + 3) st) : WW G X nL σ lv pc (.int x :: st) := by
  obtain ⟨p, e, R, s, m, args, below, meth, c, Q, A, ck, sk⟩ := X
  obtain ⟨hx, hb, hml, hown, hts, hG, hA, hck, hlv⟩ := cx
  intro H locs ls hl hP hS
  exact lv_if_le hx hb hdg ht (fun h => kt (it_t h hF) H locs ls hl hP hS) (fun h => kf (it_f h hF) H locs ls hl hP hS)

theorem ww_icmp_eq {G : GT} {X : CT} {own : String} {cc : ByteArray} {nL n : Nat} {σ : St} {lv : List (Nat × Value)} {pc : Nat} {st : List Value} {x y : Int32} {off : Int} {tgt : Nat} {β : Type} {dd : Decidable (x = y)} {a b : Option β} {o : β} (cx : Cx G X own cc nL n) (hdg : decode cc pc = .ok (.if_icmp .eq off, 3)) (ht : (pc : Int) + off = (tgt : Int)) (hF : @ite _ (x = y) dd a b = some o) (kt : a = some o → WW G X nL σ lv tgt st) (kf : b = some o → WW G X nL σ lv (pc + 3) st) : WW G X nL σ lv pc (.int y :: .int x :: st) := by
  obtain ⟨p, e, R, s, m, args, below, meth, c, Q, A, ck, sk⟩ := X
  obtain ⟨hx, hb, hml, hown, hts, hG, hA, hck, hlv⟩ := cx
  intro H locs ls hl hP hS
  exact lv_icmp_eq hx hb hdg ht (fun h => kt (it_t h hF) H locs ls hl hP hS) (fun h => kf (it_f h hF) H locs ls hl hP hS)

theorem ww_icmp_ne {G : GT} {X : CT} {own : String} {cc : ByteArray} {nL n : Nat} {σ : St} {lv : List (Nat × Value)} {pc : Nat} {st : List Value} {x y : Int32} {off : Int} {tgt : Nat} {β : Type} {dd : Decidable (x = y)} {a b : Option β} {o : β} (cx : Cx G X own cc nL n) (hdg : decode cc pc = .ok (.if_icmp .ne off, 3)) (ht : (pc : Int) + off = (tgt : Int)) (hF : @ite _ (x = y) dd a b = some o) (kt : b = some o → WW G X nL σ lv tgt st) (kf : a = some o → WW G X nL σ lv (pc + 3) st) : WW G X nL σ lv pc (.int y :: .int x :: st) := by
  obtain ⟨p, e, R, s, m, args, below, meth, c, Q, A, ck, sk⟩ := X
  obtain ⟨hx, hb, hml, hown, hts, hG, hA, hck, hlv⟩ := cx
  intro H locs ls hl hP hS
  exact lv_icmp_ne hx hb hdg ht (fun h => kt (it_f h hF) H locs ls hl hP hS) (fun h => kf (it_t h hF) H locs ls hl hP hS)

theorem ww_icmp_lt {G : GT} {X : CT} {own : String} {cc : ByteArray} {nL n : Nat} {σ : St} {lv : List (Nat × Value)} {pc : Nat} {st : List Value} {x y : Int32} {off : Int} {tgt : Nat} {β : Type} {dd : Decidable (x < y)} {a b : Option β} {o : β} (cx : Cx G X own cc nL n) (hdg : decode cc pc = .ok (.if_icmp .lt off, 3)) (ht : (pc : Int) + off = (tgt : Int)) (hF : @ite _ (x < y) dd a b = some o) (kt : a = some o → WW G X nL σ lv tgt st) (kf : b = some o → WW G X nL σ lv (pc + 3) st) : WW G X nL σ lv pc (.int y :: .int x :: st) := by
  obtain ⟨p, e, R, s, m, args, below, meth, c, Q, A, ck, sk⟩ := X
  obtain ⟨hx, hb, hml, hown, hts, hG, hA, hck, hlv⟩ := cx
  intro H locs ls hl hP hS
  exact lv_icmp_lt hx hb hdg ht (fun h => kt (it_t h hF) H locs ls hl hP hS) (fun h => kf (it_f h hF) H locs ls hl hP hS)

theorem ww_icmp_ge {G : GT} {X : CT} {own : String} {cc : ByteArray} {nL n : Nat} {σ : St} {lv : List (Nat × Value)} {pc : Nat} {st : List Value} {x y : Int32} {off : Int} {tgt : Nat} {β : Type} {dd : Decidable (y ≤ x)} {a b : Option β} {o : β} (cx : Cx G X own cc nL n) (hdg : decode cc pc = .ok (.if_icmp .ge off, 3)) (ht : (pc : Int) + off = (tgt : Int)) (hF : @ite _ (y ≤ x) dd a b = some o) (kt : a = some o → WW G X nL σ lv tgt st) (kf : b = some o → WW G X nL σ lv (pc + 3) st) : WW G X nL σ lv pc (.int y :: .int x :: st) := by
  obtain ⟨p, e, R, s, m, args, below, meth, c, Q, A, ck, sk⟩ := X
  obtain ⟨hx, hb, hml, hown, hts, hG, hA, hck, hlv⟩ := cx
  intro H locs ls hl hP hS
  exact lv_icmp_ge hx hb hdg ht (fun h => kt (it_t h hF) H locs ls hl hP hS) (fun h => kf (it_f h hF) H locs ls hl hP hS)

theorem ww_icmp_gt {G : GT} {X : CT} {own : String} {cc : ByteArray} {nL n : Nat} {σ : St} {lv : List (Nat × Value)} {pc : Nat} {st : List Value} {x y : Int32} {off : Int} {tgt : Nat} {β : Type} {dd : Decidable (y < x)} {a b : Option β} {o : β} (cx : Cx G X own cc nL n) (hdg : decode cc pc = .ok (.if_icmp .gt off, 3)) (ht : (pc : Int) + off = (tgt : Int)) (hF : @ite _ (y < x) dd a b = some o) (kt : a = some o → WW G X nL σ lv tgt st) (kf : b = some o → WW G X nL σ lv (pc + 3) st) : WW G X nL σ lv pc (.int y :: .int x :: st) := by
  obtain ⟨p, e, R, s, m, args, below, meth, c, Q, A, ck, sk⟩ := X
  obtain ⟨hx, hb, hml, hown, hts, hG, hA, hck, hlv⟩ := cx
  intro H locs ls hl hP hS
  exact lv_icmp_gt hx hb hdg ht (fun h => kt (it_t h hF) H locs ls hl hP hS) (fun h => kf (it_f h hF) H locs ls hl hP hS)

theorem ww_icmp_le {G : GT} {X : CT} {own : String} {cc : ByteArray} {nL n : Nat} {σ : St} {lv : List (Nat × Value)} {pc : Nat} {st : List Value} {x y : Int32} {off : Int} {tgt : Nat} {β : Type} {dd : Decidable (x ≤ y)} {a b : Option β} {o : β} (cx : Cx G X own cc nL n) (hdg : decode cc pc = .ok (.if_icmp .le off, 3)) (ht : (pc : Int) + off = (tgt : Int)) (hF : @ite _ (x ≤ y) dd a b = some o) (kt : a = some o → WW G X nL σ lv tgt st) (kf : b = some o → WW G X nL σ lv (pc + 3) st) : WW G X nL σ lv pc (.int y :: .int x :: st) := by
  obtain ⟨p, e, R, s, m, args, below, meth, c, Q, A, ck, sk⟩ := X
  obtain ⟨hx, hb, hml, hown, hts, hG, hA, hck, hlv⟩ := cx
  intro H locs ls hl hP hS
  exact lv_icmp_le hx hb hdg ht (fun h => kt (it_t h hF) H locs ls hl hP hS) (fun h => kf (it_f h hF) H locs ls hl hP hS)

theorem ww_goto {G : GT} {X : CT} {own : String} {cc : ByteArray} {nL n : Nat} {σ : St} {lv : List (Nat × Value)} {pc : Nat} {st : List Value} {off : Int} {tgt : Nat} (cx : Cx G X own cc nL n) (hdg : decode cc pc = .ok (.goto off, 3)) (ht : (pc : Int) + off = (tgt : Int)) (k : WW G X nL σ lv tgt st) : WW G X nL σ lv pc st := by
  obtain ⟨p, e, R, s, m, args, below, meth, c, Q, A, ck, sk⟩ := X
  obtain ⟨hx, hb, hml, hown, hts, hG, hA, hck, hlv⟩ := cx
  intro H locs ls hl hP hS
  exact lv_goto hx hb hdg ht (k H locs ls hl hP hS)

theorem ww_get {G : GT} {X : CT} {own : String} {cc : ByteArray} {nL n : Nat} {σ : St} {lv : List (Nat × Value)} {pc : Nat} {st : List Value} {t j ci index : Nat} {fs : List (Option Nat)} {f : Option Nat} {C : String} {T : u_T} {N : Nat} (hc : clz[ci]? = some (C, T, N)) (hin : ∀ w ∈ u_ws C T N, w ∈ TBL) (hj : j < N) (hlink : Cond.fieldLink own index (T j).1 (T j).2.1 (T j).2.2.1 ∈ TBL) (cx : Cx G X own cc nL n) (hs : shp[t]? = some (.inr (.inl (ci, fs)))) (hf : fs[j]? = some f) (hdg : decode cc pc = .ok (.getfield index, 3)) (k : WW G X nL σ lv (pc + 3) (fld G σ t j f :: st)) : WW G X nL σ lv pc (.ref (gad G t) :: st) := by
  obtain ⟨p, e, R, s, m, args, below, meth, c, Q, A, ck, sk⟩ := X
  obtain ⟨hx, hb, hml, hown, hts, hG, hA, hck, hlv⟩ := cx
  intro H locs ls hl hP hS
  exact va_get (C := C) (T := T) (N := N) (ref := (T j).1) (fs := fs.mapIdx (fld G σ t)) hx hb hts hin hown hG.1 hP t (wld_at hs) hc j hj (hts _ hlink) (fun _ h => h) (by rw [List.getElem?_mapIdx, hf]; rfl) hdg (k H locs ls hl hP hS)

theorem ww_put {G : GT} {X : CT} {own : String} {cc : ByteArray} {nL n : Nat} {σ : St} {lv : List (Nat × Value)} {pc : Nat} {st : List Value} {t j ci index : Nat} {fs : List (Option Nat)} {C : String} {T : u_T} {N : Nat} {x : Int32} {β : Type} {F : St → Option β} {o : β} (hc : clz[ci]? = some (C, T, N)) (hin : ∀ w ∈ u_ws C T N, w ∈ TBL) (ty0 : Nat → FieldType) (hty : ∀ k, k < N → parseFieldDescriptor (T k).2.2.1 = some (ty0 k)) (hnm : ∀ a, a < N → ∀ b, b < N → a ≠ b → (T a).2.1 ≠ (T b).2.1) (hj : j < N) (hlink : Cond.fieldLink own index (T j).1 (T j).2.1 (T j).2.2.1 ∈ TBL) (hfin : (T j).2.2.2 = false) (hd : parseFieldDescriptor (T j).2.2.1 = some .int) (cx : Cx G X own cc nL n) (hs : shp[t]? = some (.inr (.inl (ci, fs)))) (hf : fs[j]? = some none) (hdg : decode cc pc = .ok (.putfield index, 3)) (hF : lt (setI σ t j x) F = some o) (k : ∀ σ1 : St, F σ1 = some o → WW G X nL σ1 lv (pc + 3) st) : WW G X nL σ lv pc (.int x :: .ref (gad G t) :: st) := by
  obtain ⟨p, e, R, s, m, args, below, meth, c, Q, A, ck, sk⟩ := X
  obtain ⟨hx, hb, hml, hown, hts, hG, hA, hck, hlv⟩ := cx
  intro H locs ls hl hP hS
  have lt2 : j < (fs.mapIdx (fld G σ t)).length := by rw [List.length_mapIdx]; exact (List.getElem?_eq_some_iff.mp hf).1
  exact va_put (C := C) (T := T) (N := N) (ref := (T j).1) (fs := fs.mapIdx (fld G σ t)) (ty := .int) hx hb hts hin ty0 hty hnm hown hG.1 hP (hG.2.1 σ) hS t (wld_at hs) hc j hj (hts _ hlink) (fun _ h => h) hfin hd rfl rfl lt2 hdg (fun H1 locs1 hP1 _ hS1 => k _ hF H1 locs1 ls hl (by rw [wld_setF hs hf] at hP1; exact hP1) hS1)
theorem ww_putZ {G : GT} {X : CT} {own : String} {cc : ByteArray} {nL n : Nat} {σ : St} {lv : List (Nat × Value)} {pc : Nat} {st : List Value} {t j ci index : Nat} {fs : List (Option Nat)} {C : String} {T : u_T} {N : Nat} {x : Int32} {β : Type} {F : St → Option β} {o : β} (hc : clz[ci]? = some (C, T, N)) (hin : ∀ w ∈ u_ws C T N, w ∈ TBL) (ty0 : Nat → FieldType) (hty : ∀ k, k < N → parseFieldDescriptor (T k).2.2.1 = some (ty0 k)) (hnm : ∀ a, a < N → ∀ b, b < N → a ≠ b → (T a).2.1 ≠ (T b).2.1) (hj : j < N) (hlink : Cond.fieldLink own index (T j).1 (T j).2.1 (T j).2.2.1 ∈ TBL) (hfin : (T j).2.2.2 = false) (hd : parseFieldDescriptor (T j).2.2.1 = some .boolean) (cx : Cx G X own cc nL n) (hs : shp[t]? = some (.inr (.inl (ci, fs)))) (hf : fs[j]? = some none) (hdg : decode cc pc = .ok (.putfield index, 3)) (hF : gd (x = 0 ∨ x = 1) (lt (setI σ t j x) F) = some o) (k : ∀ σ1 : St, F σ1 = some o → WW G X nL σ1 lv (pc + 3) st) : WW G X nL σ lv pc (.int x :: .ref (gad G t) :: st) := by
  obtain ⟨p, e, R, s, m, args, below, meth, c, Q, A, ck, sk⟩ := X
  obtain ⟨hx, hb, hml, hown, hts, hG, hA, hck, hlv⟩ := cx
  intro H locs ls hl hP hS
  have lt2 : j < (fs.mapIdx (fld G σ t)).length := by rw [List.length_mapIdx]; exact (List.getElem?_eq_some_iff.mp hf).1
  obtain ⟨hz, hF⟩ := gd_some hF
  exact va_put (C := C) (T := T) (N := N) (ref := (T j).1) (fs := fs.mapIdx (fld G σ t)) (ty := .boolean) hx hb hts hin ty0 hty hnm hown hG.1 hP (hG.2.1 σ) hS t (wld_at hs) hc j hj (hts _ hlink) (fun _ h => h) hfin hd (by rcases hz with rfl | rfl <;> rfl) (by rcases hz with rfl | rfl <;> rfl) lt2 hdg (fun H1 locs1 hP1 _ hS1 => k _ hF H1 locs1 ls hl (by rw [wld_setF hs hf] at hP1; exact hP1) hS1)

theorem ww_iald {G : GT} {X : CT} {own : String} {cc : ByteArray} {nL n : Nat} {σ : St} {lv : List (Nat × Value)} {pc : Nat} {st : List Value} {t N : Nat} {i : Int32} {β : Type} {F : Option β} {o : β} (cx : Cx G X own cc nL n) (hs : shp[t]? = some (.inl (0, N))) (hdg : decode cc pc = .ok (.iaload, 1)) (hF : gd (ir i N) F = some o) (k : F = some o → WW G X nL σ lv (pc + 1) (.int (σ.1 t i.toNatClampNeg) :: st)) : WW G X nL σ lv pc (.int i :: .ref (gad G t) :: st) := by
  obtain ⟨p, e, R, s, m, args, below, meth, c, Q, A, ck, sk⟩ := X
  obtain ⟨hx, hb, hml, hown, hts, hG, hA, hck, hlv⟩ := cx
  intro H locs ls hl hP hS
  exact va_iald hx hb hG.1 hP t 0 (cA := gca G 0) (n := N) (f := σ.1 t) (wld_at hs) rfl (vp_in_iff.mpr (gd_some hF).1) hdg (k (gd_some hF).2 H locs ls hl hP hS)

theorem ww_zald {G : GT} {X : CT} {own : String} {cc : ByteArray} {nL n : Nat} {σ : St} {lv : List (Nat × Value)} {pc : Nat} {st : List Value} {t N : Nat} {i : Int32} {β : Type} {F : Option β} {o : β} (cx : Cx G X own cc nL n) (hs : shp[t]? = some (.inl (1, N))) (hdg : decode cc pc = .ok (.baload, 1)) (hF : gd (ir i N) F = some o) (k : F = some o → WW G X nL σ lv (pc + 1) (.int (σ.1 t i.toNatClampNeg) :: st)) : WW G X nL σ lv pc (.int i :: .ref (gad G t) :: st) := by
  obtain ⟨p, e, R, s, m, args, below, meth, c, Q, A, ck, sk⟩ := X
  obtain ⟨hx, hb, hml, hown, hts, hG, hA, hck, hlv⟩ := cx
  intro H locs ls hl hP hS
  exact va_zald hx hb hG.1 hP t 1 (cA := gca G 1) (n := N) (f := σ.1 t) (wld_at hs) rfl (vp_in_iff.mpr (gd_some hF).1) hdg (k (gd_some hF).2 H locs ls hl hP hS)

theorem ww_bald {G : GT} {X : CT} {own : String} {cc : ByteArray} {nL n : Nat} {σ : St} {lv : List (Nat × Value)} {pc : Nat} {st : List Value} {t N : Nat} {i : Int32} {β : Type} {F : Option β} {o : β} (cx : Cx G X own cc nL n) (hs : shp[t]? = some (.inl (2, N))) (hdg : decode cc pc = .ok (.baload, 1)) (hF : gd (ir i N) F = some o) (k : F = some o → WW G X nL σ lv (pc + 1) (.int (σ.1 t i.toNatClampNeg) :: st)) : WW G X nL σ lv pc (.int i :: .ref (gad G t) :: st) := by
  obtain ⟨p, e, R, s, m, args, below, meth, c, Q, A, ck, sk⟩ := X
  obtain ⟨hx, hb, hml, hown, hts, hG, hA, hck, hlv⟩ := cx
  intro H locs ls hl hP hS
  exact va_bald hx hb hG.1 hP t 2 (cA := gca G 2) (n := N) (f := σ.1 t) (wld_at hs) rfl (vp_in_iff.mpr (gd_some hF).1) hdg (k (gd_some hF).2 H locs ls hl hP hS)

theorem ww_lald {G : GT} {X : CT} {own : String} {cc : ByteArray} {nL n : Nat} {σ : St} {lv : List (Nat × Value)} {pc : Nat} {st : List Value} {t N : Nat} {i : Int32} {β : Type} {F : Option β} {o : β} (cx : Cx G X own cc nL n) (hs : shp[t]? = some (.inl (3, N))) (hdg : decode cc pc = .ok (.laload, 1)) (hF : gd (ir i N) F = some o) (k : F = some o → WW G X nL σ lv (pc + 1) (.long (σ.2 t i.toNatClampNeg) :: st)) : WW G X nL σ lv pc (.int i :: .ref (gad G t) :: st) := by
  obtain ⟨p, e, R, s, m, args, below, meth, c, Q, A, ck, sk⟩ := X
  obtain ⟨hx, hb, hml, hown, hts, hG, hA, hck, hlv⟩ := cx
  intro H locs ls hl hP hS
  exact va_lald hx hb hG.1 hP t 3 (cA := gca G 3) (n := N) (f := σ.2 t) (wld_at hs) rfl (vp_in_iff.mpr (gd_some hF).1) hdg (k (gd_some hF).2 H locs ls hl hP hS)
theorem ww_iast {G : GT} {X : CT} {own : String} {cc : ByteArray} {nL n : Nat} {σ : St} {lv : List (Nat × Value)} {pc : Nat} {st : List Value} {t N : Nat} {i x : Int32} {β : Type} {F : St → Option β} {o : β} (cx : Cx G X own cc nL n) (hs : shp[t]? = some (.inl (0, N))) (hdg : decode cc pc = .ok (.iastore, 1)) (hF : gd (ir i N) (lt (setI σ t i.toNatClampNeg x) F) = some o) (k : ∀ σ1 : St, F σ1 = some o → WW G X nL σ1 lv (pc + 1) st) : WW G X nL σ lv pc (.int x :: .int i :: .ref (gad G t) :: st) := by
  obtain ⟨p, e, R, s, m, args, below, meth, c, Q, A, ck, sk⟩ := X
  obtain ⟨hx, hb, hml, hown, hts, hG, hA, hck, hlv⟩ := cx
  intro H locs ls hl hP hS
  exact va_iast hx hb hG.1 hP (hG.2.1 σ) hS t 0 (cA := gca G 0) (n := N) (f := σ.1 t) (wld_at hs) rfl (vp_in_iff.mpr (gd_some hF).1) hdg (fun H1 locs1 hP1 _ hS1 => k _ (gd_some hF).2 H1 locs1 ls hl (by rw [wld_setA hs (by decide)] at hP1; exact hP1) hS1)
theorem ww_bast {G : GT} {X : CT} {own : String} {cc : ByteArray} {nL n : Nat} {σ : St} {lv : List (Nat × Value)} {pc : Nat} {st : List Value} {t N : Nat} {i x : Int32} {β : Type} {F : St → Option β} {o : β} (cx : Cx G X own cc nL n) (hs : shp[t]? = some (.inl (2, N))) (hdg : decode cc pc = .ok (.bastore, 1)) (hF : gd (ir i N) (lt (setI σ t i.toNatClampNeg x.toInt8.toInt32) F) = some o) (k : ∀ σ1 : St, F σ1 = some o → WW G X nL σ1 lv (pc + 1) st) : WW G X nL σ lv pc (.int x :: .int i :: .ref (gad G t) :: st) := by
  obtain ⟨p, e, R, s, m, args, below, meth, c, Q, A, ck, sk⟩ := X
  obtain ⟨hx, hb, hml, hown, hts, hG, hA, hck, hlv⟩ := cx
  intro H locs ls hl hP hS
  exact va_bast hx hb hG.1 hP (hG.2.1 σ) hS t 2 (cA := gca G 2) (n := N) (f := σ.1 t) (wld_at hs) rfl (vp_in_iff.mpr (gd_some hF).1) hdg (fun H1 locs1 hP1 _ hS1 => k _ (gd_some hF).2 H1 locs1 ls hl (by rw [wld_setA hs (by decide)] at hP1; exact hP1) hS1)
theorem ww_zast {G : GT} {X : CT} {own : String} {cc : ByteArray} {nL n : Nat} {σ : St} {lv : List (Nat × Value)} {pc : Nat} {st : List Value} {t N : Nat} {i x : Int32} {β : Type} {F : St → Option β} {o : β} (cx : Cx G X own cc nL n) (hs : shp[t]? = some (.inl (1, N))) (hdg : decode cc pc = .ok (.bastore, 1)) (hF : gd (ir i N) (gd (x = 0 ∨ x = 1) (lt (setI σ t i.toNatClampNeg x) F)) = some o) (k : ∀ σ1 : St, F σ1 = some o → WW G X nL σ1 lv (pc + 1) st) : WW G X nL σ lv pc (.int x :: .int i :: .ref (gad G t) :: st) := by
  obtain ⟨p, e, R, s, m, args, below, meth, c, Q, A, ck, sk⟩ := X
  obtain ⟨hx, hb, hml, hown, hts, hG, hA, hck, hlv⟩ := cx
  intro H locs ls hl hP hS
  obtain ⟨hi, hF⟩ := gd_some hF
  obtain ⟨hz, hF⟩ := gd_some hF
  have hn : vp_nar .boolean x = x := by rcases hz with rfl | rfl <;> rfl
  exact va_zast hx hb hG.1 hP (hG.2.1 σ) hS t 1 (cA := gca G 1) (n := N) (f := σ.1 t) (wld_at hs) rfl (vp_in_iff.mpr hi) hdg (fun H1 locs1 hP1 _ hS1 => k _ hF H1 locs1 ls hl (by rw [hn, wld_setA hs (by decide)] at hP1; exact hP1) hS1)
theorem ww_last {G : GT} {X : CT} {own : String} {cc : ByteArray} {nL n : Nat} {σ : St} {lv : List (Nat × Value)} {pc : Nat} {st : List Value} {t N : Nat} {i : Int32} {x : Int64} {β : Type} {F : St → Option β} {o : β} (cx : Cx G X own cc nL n) (hs : shp[t]? = some (.inl (3, N))) (hdg : decode cc pc = .ok (.lastore, 1)) (hF : gd (ir i N) (lt (setL σ t i.toNatClampNeg x) F) = some o) (k : ∀ σ1 : St, F σ1 = some o → WW G X nL σ1 lv (pc + 1) st) : WW G X nL σ lv pc (.long x :: .int i :: .ref (gad G t) :: st) := by
  obtain ⟨p, e, R, s, m, args, below, meth, c, Q, A, ck, sk⟩ := X
  obtain ⟨hx, hb, hml, hown, hts, hG, hA, hck, hlv⟩ := cx
  intro H locs ls hl hP hS
  exact va_last hx hb hG.1 hP (hG.2.1 σ) hS t 3 (cA := gca G 3) (n := N) (f := σ.2 t) (wld_at hs) rfl (vp_in_iff.mpr (gd_some hF).1) hdg (fun H1 locs1 hP1 _ hS1 => k _ (gd_some hF).2 H1 locs1 ls hl (by rw [wld_setJ hs] at hP1; exact hP1) hS1)
theorem ww_aald {G : GT} {X : CT} {own : String} {cc : ByteArray} {nL n : Nat} {σ : St} {lv : List (Nat × Value)} {pc : Nat} {st : List Value} {t kd : Nat} {rs : List Nat} {C : String} {i : Int32} {f : Nat → Nat} {β : Type} {F : Option β} {o : β} (hty : ∀ ca : Nat → ClassId, (tyz ca)[kd]? = some (ca kd, .object C)) (hr : ∀ j, j < rs.length → rs[j]? = some (f j)) (cx : Cx G X own cc nL n) (hs : shp[t]? = some (.inr (.inr (kd, rs)))) (hdg : decode cc pc = .ok (.aaload, 1)) (hF : gd (ir i rs.length) F = some o) (k : i.toNatClampNeg < rs.length → F = some o → WW G X nL σ lv (pc + 1) (.ref (gad G (f i.toNatClampNeg)) :: st)) : WW G X nL σ lv pc (.int i :: .ref (gad G t) :: st) := by
  obtain ⟨p, e, R, s, m, args, below, meth, c, Q, A, ck, sk⟩ := X
  obtain ⟨hx, hb, hml, hown, hts, hG, hA, hck, hlv⟩ := cx
  intro H locs ls hl hP hS
  have hlt : i.toNatClampNeg < rs.length := by
    have h := vp_in_iff.mpr (gd_some hF).1
    unfold vp_in at h
    omega
  refine va_aldq hx hb hG.1 hP t kd (cA := gca G kd) (n := rs.length) (f := fun i => (rs[i]?).map (gad G)) (wld_at hs) (hty _) (vp_in_iff.mpr (gd_some hF).1) hdg ?_
  rw [hr _ hlt]
  exact k hlt (gd_some hF).2 H locs ls hl hP hS

theorem ww_lcmp {G : GT} {X : CT} {own : String} {cc : ByteArray} {nL n : Nat} {σ : St} {lv : List (Nat × Value)} {pc : Nat} {st : List Value} {x y : Int64} (cx : Cx G X own cc nL n) (hdg : decode cc pc = .ok (.lcmp, 1)) (k : WW G X nL σ lv (pc + 1) (.int (lg_cmp x y) :: st)) : WW G X nL σ lv pc (.long y :: .long x :: st) := by
  obtain ⟨p, e, R, s, m, args, below, meth, c, Q, A, ck, sk⟩ := X
  obtain ⟨hx, hb, hml, hown, hts, hG, hA, hck, hlv⟩ := cx
  intro H locs ls hl hP hS
  exact W.lcmp hx hb hdg (k H locs ls hl hP hS)

/-- what the tables say of a call of y at an entry of own's pool -/
def CallV (own : String) (ix : Nat) (C : String) (y : MethodName) (b : ByteArray) (nL : Nat) (rt : Option FieldType) (na : Nat) : Prop :=
  GoodIn TBL (wsV own ix C y (.code y b nL rt :: TBL)) ∧ (y.cls = C ∧ y.cls ≠ "java/lang/invoke/MethodHandle" ∧ y.cls ≠ "java/lang/invoke/VarHandle" ∧ (parseMethodDescriptor y.desc).map (fun d => d.parameters.length) = some na)
theorem tg {w : Cond} (h : w ∈ TBL) : w ∈ TBL ∧ ((w.onTables && w.keeps) = true ∨ ∃ ty, w = .arrayClass ty) := ⟨h, tbl_good w h⟩
theorem callV_of {own : String} {ix : Nat} {C : String} {y : MethodName} {b : ByteArray} {nL : Nat} {rt : Option FieldType} {na : Nat} (h1 : Cond.methodLink own ix y ∈ TBL) (h2 : Cond.instanceMethod y ∈ TBL) (h3 : Cond.selects C y y ∈ TBL) (h4 : Cond.initialized C ∈ TBL) (h5 : Cond.code y b nL rt ∈ TBL) (hd : y.cls = C ∧ y.cls ≠ "java/lang/invoke/MethodHandle" ∧ y.cls ≠ "java/lang/invoke/VarHandle" ∧ (parseMethodDescriptor y.desc).map (fun d => d.parameters.length) = some na) : CallV own ix C y b nL rt na := by
  refine ⟨fun w hw => ?_, hd⟩
  rcases List.mem_append.mp hw with h | h
  · simp only [List.mem_cons, List.not_mem_nil, or_false] at h
    rcases h with rfl | rfl | rfl | rfl
    · exact tg h1
    · exact tg h2
    · exact tg h3
    · exact tg h4
  · rcases List.mem_cons.mp h with rfl | h
    · exact tg h5
    · exact tg h
def CallS (own : String) (ix : Nat) (y : MethodName) (b : ByteArray) (nL : Nat) (rt : Option FieldType) (na : Nat) : Prop :=
  GoodIn TBL (va_wsS own ix y (.code y b nL rt :: TBL)) ∧ (y.cls ≠ "java/lang/invoke/MethodHandle" ∧ y.cls ≠ "java/lang/invoke/VarHandle" ∧ (parseMethodDescriptor y.desc).map (fun d => d.parameters.length) = some na)
theorem callS_of {own : String} {ix : Nat} {y : MethodName} {b : ByteArray} {nL : Nat} {rt : Option FieldType} {na : Nat} (h1 : Cond.methodLink own ix y ∈ TBL) (h2 : Cond.static y ∈ TBL) (h4 : Cond.initialized y.cls ∈ TBL) (h5 : Cond.code y b nL rt ∈ TBL) (hd : y.cls ≠ "java/lang/invoke/MethodHandle" ∧ y.cls ≠ "java/lang/invoke/VarHandle" ∧ (parseMethodDescriptor y.desc).map (fun d => d.parameters.length) = some na) : CallS own ix y b nL rt na := by
  refine ⟨fun w hw => ?_, hd⟩
  rcases List.mem_append.mp hw with h | h
  · simp only [List.mem_cons, List.not_mem_nil, or_false] at h
    rcases h with rfl | rfl | rfl
    · exact tg h1
    · exact tg h2
    · exact tg h4
  · rcases List.mem_cons.mp h with rfl | h
    · exact tg h5
    · exact tg h
theorem pc_blind {G : GT} {σ : St} {sz : Nat} {A : Nat → Prop} {as : List Value} : FrameBlind (va_Pc as (fun U => U.heap.size = sz ∧ va_P G.2.1 clz (wld G σ) U.heap ∧ GOOD G A U U.heap)) :=
  fun a U g mk q => by
    obtain ⟨q0, q1, qP, qK, qD, qS⟩ := q
    exact ⟨q0, q1, qP, va_K.moved (u := U) (U := U.calling g mk a) (Vm.Alike.refl U.vm) qK, qD, qS.calling g mk a⟩
/-- what a callee finds -/
theorem pc_at {G : GT} {A : Nat → Prop} {s : State} {H : Heap} {locs : List Loc} {σ : St} {as : List Value} (hG : GOOD G A s s.heap) (hA : ∀ q, s.heap.size ≤ q → A q) (hP : va_P G.2.1 clz (wld G σ) H) (hS : va_S A s.heap H locs) (U : State) (hU : U.heap = H) (hW : s.WarmedH U.vm) : va_Pc as (fun U => U.heap.size = H.size ∧ va_P G.2.1 clz (wld G σ) U.heap ∧ GOOD G (va_A (wld G σ) H.size) U U.heap) as.toArray U := by
  have hD : ∀ σ', va_D (va_A (wld G σ) H.size) (wld G σ') := fun σ' => wld_D (σ := σ) (hG.2.1 σ).self
  refine ⟨rfl, by rw [hU], by rw [hU]; exact hP, va_K.moved hW.alike hG.1, hD, ?_⟩
  rw [hU]
  refine ((hG.2.2.kept hS.2.1).warm hW).narrow (fun q h => ?_)
  rcases h with ⟨k, e, h⟩ | h
  · exact (hG.2.1 σ).2 k _ h
  · exact hA q (Nat.le_trans hS.1 h)
theorem va_A_sub {G : GT} {A : Nat → Prop} {s : State} {H : Heap} {locs : List Loc} {σ : St} (hG : GOOD G A s s.heap) (hA : ∀ q, s.heap.size ≤ q → A q) (hS : va_S A s.heap H locs) : ∀ q, va_A (wld G σ) H.size q → A q := fun q h => by
  rcases h with ⟨k, e, h⟩ | h
  · exact (hG.2.1 σ).2 k _ h
  · exact hA q (Nat.le_trans hS.1 h)
theorem ww_back {p : Program} {l : Launch} {e : Env} {R : Room} {s : State} {m : MethodId} {args : Array Value} {below : List Frame} {meth : Method} {c : Code} {Q : State → Prop} {A A1 : Nat → Prop} {ck sk pc : Nat} {H : Heap} {locs : List Loc} {ls : Array Slot} {st0 st : List Value} {rv : Option Value} {G : GT} {σ1 : St} (hr : va_Run p l e R s m args below meth c H locs ck sk 0 0 (F0 m pc ls st0) st (fun st oc t => oc = .returned rv ∧ va_P G.2.1 clz (wld G σ1) t.heap ∧ va_F A1 st t) A1) (hS : va_S A s.heap H locs) (hA1 : ∀ q, A1 q → A q) (kk : ∀ (H1 : Heap) (locs1 : List Loc), va_P G.2.1 clz (wld G σ1) H1 → va_S A s.heap H1 locs1 → W p l e R s m args below meth c H1 locs1 ck sk Q (F0 m (pc + 3) ls (rv.toList ++ st))) : W p l e R s m args below meth c H locs ck sk Q (F0 m pc ls st0) := by
  intro T hT X
  obtain ⟨v, st₀, t, T', L, h0, X', hL, e1, e2, ⟨hv, hp, hz, hk⟩, st⟩ := hr T hT X
  cases hv
  rw [h0] at hz hk
  obtain ⟨t2, a1, b1⟩ := kk T'.heap (locs ++ L) (by rw [e1]; exact hp)
    ⟨Nat.le_trans hS.1 (by rw [e1]; exact hz), fun q h1 h2 => by rw [e1, hk q (Nat.lt_of_lt_of_le h1 hS.1) (fun z => h2 (hA1 q z))]; exact hS.2.1 q h1 h2, fun q hq => by
      rcases List.mem_append.mp hq with h | h
      · exact hS.2.2 q h
      · exact hA1 _ (hL q h)⟩ T' rfl X'
  exact ⟨t2, st t2 a1, b1⟩
theorem lv_room8 {m : MethodId} {pc : Nat} {ls : Array Slot} {st0 st : List Value} (h : (st.map fun v => v.category).sum ≤ 8) : 2 * (F0 m pc ls st0).monitorRoom + (st.map fun v => v.category).sum ≤ 8 := lv_room h

theorem ww_callV {G : GT} {X : CT} {own : String} {cc : ByteArray} {nL n : Nat} {σ : St} {lv : List (Nat × Value)} {pc : Nat} {st : List Value} {k ix nL' na t ci : Nat} {C : String} {y : MethodName} {b : ByteArray} {rt : Option FieldType} {As st0 : List Value} {fs : List (Option Nat)} {T : u_T} {N : Nat} {rv : Option Value} {σ1 : St} (hC : CallV own ix C y b nL' rt na) (hc : clz[ci]? = some (C, T, N)) (cx : Cx G X own cc nL n) (hs : shp[t]? = some (.inr (.inl (ci, fs)))) (hk : k + 1 ≤ n ∧ nL' ≤ 45) (hst : (st.map fun v => v.category).sum ≤ 8) (hlen : As.length = na) (hst0 : st0 = As.reverse ++ .ref (gad G t) :: st) (hdg : decode cc pc = .ok (.invokevirtual ix, 3)) (hM : MCt G k y b nL' rt (.ref (gad G t) :: As) σ rv σ1) (kk : WW G X nL σ1 lv (pc + 3) (rv.toList ++ st)) : WW G X nL σ lv pc st0 := by
  obtain ⟨p, e, R, s, m, args, below, meth, c, Q, A, ck, sk⟩ := X
  obtain ⟨hx, hb, hml, hown, hts, hG, hA, hck, hlv⟩ := cx
  intro H locs ls hl hP hS
  exact ww_back (va_runV (As := As) (rest := st) ⟨hx, hb, hml, hown, hts⟩ (hM H.size) (cwV na hts hC.1 rfl rfl rfl hC.2 ⟨by simp only [rmL]; omega, by simp only [rmL]; omega⟩) ⟨pc_blind, va_recv hG.1 hP hc (wld_at hs), pc_at hG hA hP hS⟩ rfl hlen hl.1 hst0 (lv_room8 hst) hdg hck) hS (va_A_sub hG hA hS) (fun H1 locs1 hP1 hS1 => kk H1 locs1 ls hl hP1 hS1)
theorem ww_callS {G : GT} {X : CT} {own : String} {cc : ByteArray} {nL n : Nat} {σ : St} {lv : List (Nat × Value)} {pc : Nat} {st : List Value} {k ix nL' na : Nat} {y : MethodName} {b : ByteArray} {rt : Option FieldType} {As st0 : List Value} {rv : Option Value} {σ1 : St} (hC : CallS own ix y b nL' rt na) (cx : Cx G X own cc nL n) (hk : k + 1 ≤ n ∧ nL' ≤ 45) (hst : (st.map fun v => v.category).sum ≤ 8) (hlen : As.length = na) (hst0 : st0 = As.reverse ++ st) (hdg : decode cc pc = .ok (.invokestatic ix, 3)) (hM : MCt G k y b nL' rt As σ rv σ1) (kk : WW G X nL σ1 lv (pc + 3) (rv.toList ++ st)) : WW G X nL σ lv pc st0 := by
  obtain ⟨p, e, R, s, m, args, below, meth, c, Q, A, ck, sk⟩ := X
  obtain ⟨hx, hb, hml, hown, hts, hG, hA, hck, hlv⟩ := cx
  intro H locs ls hl hP hS
  have ok : ∀ w ∈ va_wsS own ix y (.code y b nL' rt :: TBL), w.before args s = true := fun w h => hts w (hC.1 w h).1
  exact ww_back (va_runS (As := As) (rest := st) ⟨hx, hb, hml, hown, hts⟩ (hM H.size) ⟨callB_of na hts (fun w h => hC.1 w (List.mem_append_right _ h)) rfl rfl rfl (ok _ (by simp [va_wsS])) (ok _ (by simp [va_wsS])) hC.2 ⟨by simp only [rmL]; omega, by simp only [rmL]; omega⟩, ok _ (by simp [va_wsS])⟩ ⟨pc_blind, pc_at hG hA hP hS⟩ rfl hlen hl.1 hst0 (lv_room8 hst) hdg hck) hS (va_A_sub hG hA hS) (fun H1 locs1 hP1 hS1 => kk H1 locs1 ls hl hP1 hS1)

theorem ww_V0_pi {G : GT} {X : CT} {own : String} {cc : ByteArray} {nL n : Nat} {σ : St} {lv : List (Nat × Value)} {pc : Nat} {st : List Value} {k ix nL' t ci : Nat} {C : String} {fs : List (Option Nat)} {T : u_T} {N : Nat} {y : MethodName} {b : ByteArray} {rt : Option FieldType} {β : Type} {F : Option Int32} {K : Int32 → Option β} {o : β} (hC : CallV own ix C y b nL' rt 0) (hc : clz[ci]? = some (C, T, N)) (cx : Cx G X own cc nL n) (hs : shp[t]? = some (.inr (.inl (ci, fs)))) (hk : k + 1 ≤ n ∧ nL' ≤ 45) (hst : (st.map fun v => v.category).sum ≤ 8) (hdg : decode cc pc = .ok (.invokevirtual ix, 3)) (hM : ∀ r : Int32, F = some r → MCt G k y b nL' rt (.ref (gad G t) :: []) σ (some (.int r)) σ) (hF : bp F K = some o) (kk : ∀ r : Int32, K r = some o → WW G X nL σ lv (pc + 3) (.int r :: st)) : WW G X nL σ lv pc (.ref (gad G t) :: st) := by
  obtain ⟨r, h1, h2⟩ := bp_some hF
  exact ww_callV hC hc cx hs hk hst rfl rfl hdg (hM r h1) (kk r h2)

theorem ww_V0_pl {G : GT} {X : CT} {own : String} {cc : ByteArray} {nL n : Nat} {σ : St} {lv : List (Nat × Value)} {pc : Nat} {st : List Value} {k ix nL' t ci : Nat} {C : String} {fs : List (Option Nat)} {T : u_T} {N : Nat} {y : MethodName} {b : ByteArray} {rt : Option FieldType} {β : Type} {F : Option Int64} {K : Int64 → Option β} {o : β} (hC : CallV own ix C y b nL' rt 0) (hc : clz[ci]? = some (C, T, N)) (cx : Cx G X own cc nL n) (hs : shp[t]? = some (.inr (.inl (ci, fs)))) (hk : k + 1 ≤ n ∧ nL' ≤ 45) (hst : (st.map fun v => v.category).sum ≤ 8) (hdg : decode cc pc = .ok (.invokevirtual ix, 3)) (hM : ∀ r : Int64, F = some r → MCt G k y b nL' rt (.ref (gad G t) :: []) σ (some (.long r)) σ) (hF : bp F K = some o) (kk : ∀ r : Int64, K r = some o → WW G X nL σ lv (pc + 3) (.long r :: st)) : WW G X nL σ lv pc (.ref (gad G t) :: st) := by
  obtain ⟨r, h1, h2⟩ := bp_some hF
  exact ww_callV hC hc cx hs hk hst rfl rfl hdg (hM r h1) (kk r h2)

theorem ww_V0_si {G : GT} {X : CT} {own : String} {cc : ByteArray} {nL n : Nat} {σ : St} {lv : List (Nat × Value)} {pc : Nat} {st : List Value} {k ix nL' t ci : Nat} {C : String} {fs : List (Option Nat)} {T : u_T} {N : Nat} {y : MethodName} {b : ByteArray} {rt : Option FieldType} {β : Type} {F : Option (Int32 × St)} {K : Int32 → St → Option β} {o : β} (hC : CallV own ix C y b nL' rt 0) (hc : clz[ci]? = some (C, T, N)) (cx : Cx G X own cc nL n) (hs : shp[t]? = some (.inr (.inl (ci, fs)))) (hk : k + 1 ≤ n ∧ nL' ≤ 45) (hst : (st.map fun v => v.category).sum ≤ 8) (hdg : decode cc pc = .ok (.invokevirtual ix, 3)) (hM : ∀ (r : Int32) (σ1 : St), F = some (r, σ1) → MCt G k y b nL' rt (.ref (gad G t) :: []) σ (some (.int r)) σ1) (hF : bs F K = some o) (kk : ∀ (r : Int32) (σ1 : St), K r σ1 = some o → WW G X nL σ1 lv (pc + 3) (.int r :: st)) : WW G X nL σ lv pc (.ref (gad G t) :: st) := by
  obtain ⟨r, σ1, h1, h2⟩ := bs_some hF
  exact ww_callV hC hc cx hs hk hst rfl rfl hdg (hM r σ1 h1) (kk r σ1 h2)

theorem ww_V0_sv {G : GT} {X : CT} {own : String} {cc : ByteArray} {nL n : Nat} {σ : St} {lv : List (Nat × Value)} {pc : Nat} {st : List Value} {k ix nL' t ci : Nat} {C : String} {fs : List (Option Nat)} {T : u_T} {N : Nat} {y : MethodName} {b : ByteArray} {rt : Option FieldType} {β : Type} {F : Option St} {K : St → Option β} {o : β} (hC : CallV own ix C y b nL' rt 0) (hc : clz[ci]? = some (C, T, N)) (cx : Cx G X own cc nL n) (hs : shp[t]? = some (.inr (.inl (ci, fs)))) (hk : k + 1 ≤ n ∧ nL' ≤ 45) (hst : (st.map fun v => v.category).sum ≤ 8) (hdg : decode cc pc = .ok (.invokevirtual ix, 3)) (hM : ∀ σ1 : St, F = some σ1 → MCt G k y b nL' rt (.ref (gad G t) :: []) σ none σ1) (hF : bp F K = some o) (kk : ∀ σ1 : St, K σ1 = some o → WW G X nL σ1 lv (pc + 3) st) : WW G X nL σ lv pc (.ref (gad G t) :: st) := by
  obtain ⟨σ1, h1, h2⟩ := bp_some hF
  exact ww_callV hC hc cx hs hk hst rfl rfl hdg (hM σ1 h1) (kk σ1 h2)

theorem ww_V0_sr {G : GT} {X : CT} {own : String} {cc : ByteArray} {nL n : Nat} {σ : St} {lv : List (Nat × Value)} {pc : Nat} {st : List Value} {k ix nL' t ci : Nat} {C : String} {fs : List (Option Nat)} {T : u_T} {N : Nat} {y : MethodName} {b : ByteArray} {rt : Option FieldType} {a : Nat} {β : Type} {F : Option St} {K : St → Option β} {o : β} (hC : CallV own ix C y b nL' rt 0) (hc : clz[ci]? = some (C, T, N)) (cx : Cx G X own cc nL n) (hs : shp[t]? = some (.inr (.inl (ci, fs)))) (hk : k + 1 ≤ n ∧ nL' ≤ 45) (hst : (st.map fun v => v.category).sum ≤ 8) (hdg : decode cc pc = .ok (.invokevirtual ix, 3)) (hM : ∀ σ1 : St, F = some σ1 → MCt G k y b nL' rt (.ref (gad G t) :: []) σ (some (.ref a)) σ1) (hF : bp F K = some o) (kk : ∀ σ1 : St, K σ1 = some o → WW G X nL σ1 lv (pc + 3) (.ref a :: st)) : WW G X nL σ lv pc (.ref (gad G t) :: st) := by
  obtain ⟨σ1, h1, h2⟩ := bp_some hF
  exact ww_callV hC hc cx hs hk hst rfl rfl hdg (hM σ1 h1) (kk σ1 h2)

theorem ww_S0_pi {G : GT} {X : CT} {own : String} {cc : ByteArray} {nL n : Nat} {σ : St} {lv : List (Nat × Value)} {pc : Nat} {st : List Value} {k ix nL' : Nat} {y : MethodName} {b : ByteArray} {rt : Option FieldType} {β : Type} {F : Option Int32} {K : Int32 → Option β} {o : β} (hC : CallS own ix y b nL' rt 0) (cx : Cx G X own cc nL n) (hk : k + 1 ≤ n ∧ nL' ≤ 45) (hst : (st.map fun v => v.category).sum ≤ 8) (hdg : decode cc pc = .ok (.invokestatic ix, 3)) (hM : ∀ r : Int32, F = some r → MCt G k y b nL' rt [] σ (some (.int r)) σ) (hF : bp F K = some o) (kk : ∀ r : Int32, K r = some o → WW G X nL σ lv (pc + 3) (.int r :: st)) : WW G X nL σ lv pc (st) := by
  obtain ⟨r, h1, h2⟩ := bp_some hF
  exact ww_callS hC cx hk hst rfl rfl hdg (hM r h1) (kk r h2)

theorem ww_S0_pl {G : GT} {X : CT} {own : String} {cc : ByteArray} {nL n : Nat} {σ : St} {lv : List (Nat × Value)} {pc : Nat} {st : List Value} {k ix nL' : Nat} {y : MethodName} {b : ByteArray} {rt : Option FieldType} {β : Type} {F : Option Int64} {K : Int64 → Option β} {o : β} (hC : CallS own ix y b nL' rt 0) (cx : Cx G X own cc nL n) (hk : k + 1 ≤ n ∧ nL' ≤ 45) (hst : (st.map fun v => v.category).sum ≤ 8) (hdg : decode cc pc = .ok (.invokestatic ix, 3)) (hM : ∀ r : Int64, F = some r → MCt G k y b nL' rt [] σ (some (.long r)) σ) (hF : bp F K = some o) (kk : ∀ r : Int64, K r = some o → WW G X nL σ lv (pc + 3) (.long r :: st)) : WW G X nL σ lv pc (st) := by
  obtain ⟨r, h1, h2⟩ := bp_some hF
  exact ww_callS hC cx hk hst rfl rfl hdg (hM r h1) (kk r h2)

theorem ww_S0_si {G : GT} {X : CT} {own : String} {cc : ByteArray} {nL n : Nat} {σ : St} {lv : List (Nat × Value)} {pc : Nat} {st : List Value} {k ix nL' : Nat} {y : MethodName} {b : ByteArray} {rt : Option FieldType} {β : Type} {F : Option (Int32 × St)} {K : Int32 → St → Option β} {o : β} (hC : CallS own ix y b nL' rt 0) (cx : Cx G X own cc nL n) (hk : k + 1 ≤ n ∧ nL' ≤ 45) (hst : (st.map fun v => v.category).sum ≤ 8) (hdg : decode cc pc = .ok (.invokestatic ix, 3)) (hM : ∀ (r : Int32) (σ1 : St), F = some (r, σ1) → MCt G k y b nL' rt [] σ (some (.int r)) σ1) (hF : bs F K = some o) (kk : ∀ (r : Int32) (σ1 : St), K r σ1 = some o → WW G X nL σ1 lv (pc + 3) (.int r :: st)) : WW G X nL σ lv pc (st) := by
  obtain ⟨r, σ1, h1, h2⟩ := bs_some hF
  exact ww_callS hC cx hk hst rfl rfl hdg (hM r σ1 h1) (kk r σ1 h2)

theorem ww_S0_sv {G : GT} {X : CT} {own : String} {cc : ByteArray} {nL n : Nat} {σ : St} {lv : List (Nat × Value)} {pc : Nat} {st : List Value} {k ix nL' : Nat} {y : MethodName} {b : ByteArray} {rt : Option FieldType} {β : Type} {F : Option St} {K : St → Option β} {o : β} (hC : CallS own ix y b nL' rt 0) (cx : Cx G X own cc nL n) (hk : k + 1 ≤ n ∧ nL' ≤ 45) (hst : (st.map fun v => v.category).sum ≤ 8) (hdg : decode cc pc = .ok (.invokestatic ix, 3)) (hM : ∀ σ1 : St, F = some σ1 → MCt G k y b nL' rt [] σ none σ1) (hF : bp F K = some o) (kk : ∀ σ1 : St, K σ1 = some o → WW G X nL σ1 lv (pc + 3) st) : WW G X nL σ lv pc (st) := by
  obtain ⟨σ1, h1, h2⟩ := bp_some hF
  exact ww_callS hC cx hk hst rfl rfl hdg (hM σ1 h1) (kk σ1 h2)

theorem ww_S0_sr {G : GT} {X : CT} {own : String} {cc : ByteArray} {nL n : Nat} {σ : St} {lv : List (Nat × Value)} {pc : Nat} {st : List Value} {k ix nL' : Nat} {y : MethodName} {b : ByteArray} {rt : Option FieldType} {a : Nat} {β : Type} {F : Option St} {K : St → Option β} {o : β} (hC : CallS own ix y b nL' rt 0) (cx : Cx G X own cc nL n) (hk : k + 1 ≤ n ∧ nL' ≤ 45) (hst : (st.map fun v => v.category).sum ≤ 8) (hdg : decode cc pc = .ok (.invokestatic ix, 3)) (hM : ∀ σ1 : St, F = some σ1 → MCt G k y b nL' rt [] σ (some (.ref a)) σ1) (hF : bp F K = some o) (kk : ∀ σ1 : St, K σ1 = some o → WW G X nL σ1 lv (pc + 3) (.ref a :: st)) : WW G X nL σ lv pc (st) := by
  obtain ⟨σ1, h1, h2⟩ := bp_some hF
  exact ww_callS hC cx hk hst rfl rfl hdg (hM σ1 h1) (kk σ1 h2)

theorem ww_V1_pi {G : GT} {X : CT} {own : String} {cc : ByteArray} {nL n : Nat} {σ : St} {lv : List (Nat × Value)} {pc : Nat} {st : List Value} {k ix nL' t ci : Nat} {C : String} {fs : List (Option Nat)} {T : u_T} {N : Nat} {y : MethodName} {b : ByteArray} {rt : Option FieldType} {v0 : Value} {β : Type} {F : Option Int32} {K : Int32 → Option β} {o : β} (hC : CallV own ix C y b nL' rt 1) (hc : clz[ci]? = some (C, T, N)) (cx : Cx G X own cc nL n) (hs : shp[t]? = some (.inr (.inl (ci, fs)))) (hk : k + 1 ≤ n ∧ nL' ≤ 45) (hst : (st.map fun v => v.category).sum ≤ 8) (hdg : decode cc pc = .ok (.invokevirtual ix, 3)) (hM : ∀ r : Int32, F = some r → MCt G k y b nL' rt (.ref (gad G t) :: [v0]) σ (some (.int r)) σ) (hF : bp F K = some o) (kk : ∀ r : Int32, K r = some o → WW G X nL σ lv (pc + 3) (.int r :: st)) : WW G X nL σ lv pc (v0 :: .ref (gad G t) :: st) := by
  obtain ⟨r, h1, h2⟩ := bp_some hF
  exact ww_callV hC hc cx hs hk hst rfl rfl hdg (hM r h1) (kk r h2)

theorem ww_V1_pl {G : GT} {X : CT} {own : String} {cc : ByteArray} {nL n : Nat} {σ : St} {lv : List (Nat × Value)} {pc : Nat} {st : List Value} {k ix nL' t ci : Nat} {C : String} {fs : List (Option Nat)} {T : u_T} {N : Nat} {y : MethodName} {b : ByteArray} {rt : Option FieldType} {v0 : Value} {β : Type} {F : Option Int64} {K : Int64 → Option β} {o : β} (hC : CallV own ix C y b nL' rt 1) (hc : clz[ci]? = some (C, T, N)) (cx : Cx G X own cc nL n) (hs : shp[t]? = some (.inr (.inl (ci, fs)))) (hk : k + 1 ≤ n ∧ nL' ≤ 45) (hst : (st.map fun v => v.category).sum ≤ 8) (hdg : decode cc pc = .ok (.invokevirtual ix, 3)) (hM : ∀ r : Int64, F = some r → MCt G k y b nL' rt (.ref (gad G t) :: [v0]) σ (some (.long r)) σ) (hF : bp F K = some o) (kk : ∀ r : Int64, K r = some o → WW G X nL σ lv (pc + 3) (.long r :: st)) : WW G X nL σ lv pc (v0 :: .ref (gad G t) :: st) := by
  obtain ⟨r, h1, h2⟩ := bp_some hF
  exact ww_callV hC hc cx hs hk hst rfl rfl hdg (hM r h1) (kk r h2)

theorem ww_V1_si {G : GT} {X : CT} {own : String} {cc : ByteArray} {nL n : Nat} {σ : St} {lv : List (Nat × Value)} {pc : Nat} {st : List Value} {k ix nL' t ci : Nat} {C : String} {fs : List (Option Nat)} {T : u_T} {N : Nat} {y : MethodName} {b : ByteArray} {rt : Option FieldType} {v0 : Value} {β : Type} {F : Option (Int32 × St)} {K : Int32 → St → Option β} {o : β} (hC : CallV own ix C y b nL' rt 1) (hc : clz[ci]? = some (C, T, N)) (cx : Cx G X own cc nL n) (hs : shp[t]? = some (.inr (.inl (ci, fs)))) (hk : k + 1 ≤ n ∧ nL' ≤ 45) (hst : (st.map fun v => v.category).sum ≤ 8) (hdg : decode cc pc = .ok (.invokevirtual ix, 3)) (hM : ∀ (r : Int32) (σ1 : St), F = some (r, σ1) → MCt G k y b nL' rt (.ref (gad G t) :: [v0]) σ (some (.int r)) σ1) (hF : bs F K = some o) (kk : ∀ (r : Int32) (σ1 : St), K r σ1 = some o → WW G X nL σ1 lv (pc + 3) (.int r :: st)) : WW G X nL σ lv pc (v0 :: .ref (gad G t) :: st) := by
  obtain ⟨r, σ1, h1, h2⟩ := bs_some hF
  exact ww_callV hC hc cx hs hk hst rfl rfl hdg (hM r σ1 h1) (kk r σ1 h2)

theorem ww_V1_sv {G : GT} {X : CT} {own : String} {cc : ByteArray} {nL n : Nat} {σ : St} {lv : List (Nat × Value)} {pc : Nat} {st : List Value} {k ix nL' t ci : Nat} {C : String} {fs : List (Option Nat)} {T : u_T} {N : Nat} {y : MethodName} {b : ByteArray} {rt : Option FieldType} {v0 : Value} {β : Type} {F : Option St} {K : St → Option β} {o : β} (hC : CallV own ix C y b nL' rt 1) (hc : clz[ci]? = some (C, T, N)) (cx : Cx G X own cc nL n) (hs : shp[t]? = some (.inr (.inl (ci, fs)))) (hk : k + 1 ≤ n ∧ nL' ≤ 45) (hst : (st.map fun v => v.category).sum ≤ 8) (hdg : decode cc pc = .ok (.invokevirtual ix, 3)) (hM : ∀ σ1 : St, F = some σ1 → MCt G k y b nL' rt (.ref (gad G t) :: [v0]) σ none σ1) (hF : bp F K = some o) (kk : ∀ σ1 : St, K σ1 = some o → WW G X nL σ1 lv (pc + 3) st) : WW G X nL σ lv pc (v0 :: .ref (gad G t) :: st) := by
  obtain ⟨σ1, h1, h2⟩ := bp_some hF
  exact ww_callV hC hc cx hs hk hst rfl rfl hdg (hM σ1 h1) (kk σ1 h2)

theorem ww_V1_sr {G : GT} {X : CT} {own : String} {cc : ByteArray} {nL n : Nat} {σ : St} {lv : List (Nat × Value)} {pc : Nat} {st : List Value} {k ix nL' t ci : Nat} {C : String} {fs : List (Option Nat)} {T : u_T} {N : Nat} {y : MethodName} {b : ByteArray} {rt : Option FieldType} {v0 : Value} {a : Nat} {β : Type} {F : Option St} {K : St → Option β} {o : β} (hC : CallV own ix C y b nL' rt 1) (hc : clz[ci]? = some (C, T, N)) (cx : Cx G X own cc nL n) (hs : shp[t]? = some (.inr (.inl (ci, fs)))) (hk : k + 1 ≤ n ∧ nL' ≤ 45) (hst : (st.map fun v => v.category).sum ≤ 8) (hdg : decode cc pc = .ok (.invokevirtual ix, 3)) (hM : ∀ σ1 : St, F = some σ1 → MCt G k y b nL' rt (.ref (gad G t) :: [v0]) σ (some (.ref a)) σ1) (hF : bp F K = some o) (kk : ∀ σ1 : St, K σ1 = some o → WW G X nL σ1 lv (pc + 3) (.ref a :: st)) : WW G X nL σ lv pc (v0 :: .ref (gad G t) :: st) := by
  obtain ⟨σ1, h1, h2⟩ := bp_some hF
  exact ww_callV hC hc cx hs hk hst rfl rfl hdg (hM σ1 h1) (kk σ1 h2)

theorem ww_S1_pi {G : GT} {X : CT} {own : String} {cc : ByteArray} {nL n : Nat} {σ : St} {lv : List (Nat × Value)} {pc : Nat} {st : List Value} {k ix nL' : Nat} {y : MethodName} {b : ByteArray} {rt : Option FieldType} {v0 : Value} {β : Type} {F : Option Int32} {K : Int32 → Option β} {o : β} (hC : CallS own ix y b nL' rt 1) (cx : Cx G X own cc nL n) (hk : k + 1 ≤ n ∧ nL' ≤ 45) (hst : (st.map fun v => v.category).sum ≤ 8) (hdg : decode cc pc = .ok (.invokestatic ix, 3)) (hM : ∀ r : Int32, F = some r → MCt G k y b nL' rt [v0] σ (some (.int r)) σ) (hF : bp F K = some o) (kk : ∀ r : Int32, K r = some o → WW G X nL σ lv (pc + 3) (.int r :: st)) : WW G X nL σ lv pc (v0 :: st) := by
  obtain ⟨r, h1, h2⟩ := bp_some hF
  exact ww_callS hC cx hk hst rfl rfl hdg (hM r h1) (kk r h2)

theorem ww_S1_pl {G : GT} {X : CT} {own : String} {cc : ByteArray} {nL n : Nat} {σ : St} {lv : List (Nat × Value)} {pc : Nat} {st : List Value} {k ix nL' : Nat} {y : MethodName} {b : ByteArray} {rt : Option FieldType} {v0 : Value} {β : Type} {F : Option Int64} {K : Int64 → Option β} {o : β} (hC : CallS own ix y b nL' rt 1) (cx : Cx G X own cc nL n) (hk : k + 1 ≤ n ∧ nL' ≤ 45) (hst : (st.map fun v => v.category).sum ≤ 8) (hdg : decode cc pc = .ok (.invokestatic ix, 3)) (hM : ∀ r : Int64, F = some r → MCt G k y b nL' rt [v0] σ (some (.long r)) σ) (hF : bp F K = some o) (kk : ∀ r : Int64, K r = some o → WW G X nL σ lv (pc + 3) (.long r :: st)) : WW G X nL σ lv pc (v0 :: st) := by
  obtain ⟨r, h1, h2⟩ := bp_some hF
  exact ww_callS hC cx hk hst rfl rfl hdg (hM r h1) (kk r h2)

theorem ww_S1_si {G : GT} {X : CT} {own : String} {cc : ByteArray} {nL n : Nat} {σ : St} {lv : List (Nat × Value)} {pc : Nat} {st : List Value} {k ix nL' : Nat} {y : MethodName} {b : ByteArray} {rt : Option FieldType} {v0 : Value} {β : Type} {F : Option (Int32 × St)} {K : Int32 → St → Option β} {o : β} (hC : CallS own ix y b nL' rt 1) (cx : Cx G X own cc nL n) (hk : k + 1 ≤ n ∧ nL' ≤ 45) (hst : (st.map fun v => v.category).sum ≤ 8) (hdg : decode cc pc = .ok (.invokestatic ix, 3)) (hM : ∀ (r : Int32) (σ1 : St), F = some (r, σ1) → MCt G k y b nL' rt [v0] σ (some (.int r)) σ1) (hF : bs F K = some o) (kk : ∀ (r : Int32) (σ1 : St), K r σ1 = some o → WW G X nL σ1 lv (pc + 3) (.int r :: st)) : WW G X nL σ lv pc (v0 :: st) := by
  obtain ⟨r, σ1, h1, h2⟩ := bs_some hF
  exact ww_callS hC cx hk hst rfl rfl hdg (hM r σ1 h1) (kk r σ1 h2)

theorem ww_S1_sv {G : GT} {X : CT} {own : String} {cc : ByteArray} {nL n : Nat} {σ : St} {lv : List (Nat × Value)} {pc : Nat} {st : List Value} {k ix nL' : Nat} {y : MethodName} {b : ByteArray} {rt : Option FieldType} {v0 : Value} {β : Type} {F : Option St} {K : St → Option β} {o : β} (hC : CallS own ix y b nL' rt 1) (cx : Cx G X own cc nL n) (hk : k + 1 ≤ n ∧ nL' ≤ 45) (hst : (st.map fun v => v.category).sum ≤ 8) (hdg : decode cc pc = .ok (.invokestatic ix, 3)) (hM : ∀ σ1 : St, F = some σ1 → MCt G k y b nL' rt [v0] σ none σ1) (hF : bp F K = some o) (kk : ∀ σ1 : St, K σ1 = some o → WW G X nL σ1 lv (pc + 3) st) : WW G X nL σ lv pc (v0 :: st) := by
  obtain ⟨σ1, h1, h2⟩ := bp_some hF
  exact ww_callS hC cx hk hst rfl rfl hdg (hM σ1 h1) (kk σ1 h2)

theorem ww_S1_sr {G : GT} {X : CT} {own : String} {cc : ByteArray} {nL n : Nat} {σ : St} {lv : List (Nat × Value)} {pc : Nat} {st : List Value} {k ix nL' : Nat} {y : MethodName} {b : ByteArray} {rt : Option FieldType} {v0 : Value} {a : Nat} {β : Type} {F : Option St} {K : St → Option β} {o : β} (hC : CallS own ix y b nL' rt 1) (cx : Cx G X own cc nL n) (hk : k + 1 ≤ n ∧ nL' ≤ 45) (hst : (st.map fun v => v.category).sum ≤ 8) (hdg : decode cc pc = .ok (.invokestatic ix, 3)) (hM : ∀ σ1 : St, F = some σ1 → MCt G k y b nL' rt [v0] σ (some (.ref a)) σ1) (hF : bp F K = some o) (kk : ∀ σ1 : St, K σ1 = some o → WW G X nL σ1 lv (pc + 3) (.ref a :: st)) : WW G X nL σ lv pc (v0 :: st) := by
  obtain ⟨σ1, h1, h2⟩ := bp_some hF
  exact ww_callS hC cx hk hst rfl rfl hdg (hM σ1 h1) (kk σ1 h2)

theorem ww_V2_pi {G : GT} {X : CT} {own : String} {cc : ByteArray} {nL n : Nat} {σ : St} {lv : List (Nat × Value)} {pc : Nat} {st : List Value} {k ix nL' t ci : Nat} {C : String} {fs : List (Option Nat)} {T : u_T} {N : Nat} {y : MethodName} {b : ByteArray} {rt : Option FieldType} {v0 v1 : Value} {β : Type} {F : Option Int32} {K : Int32 → Option β} {o : β} (hC : CallV own ix C y b nL' rt 2) (hc : clz[ci]? = some (C, T, N)) (cx : Cx G X own cc nL n) (hs : shp[t]? = some (.inr (.inl (ci, fs)))) (hk : k + 1 ≤ n ∧ nL' ≤ 45) (hst : (st.map fun v => v.category).sum ≤ 8) (hdg : decode cc pc = .ok (.invokevirtual ix, 3)) (hM : ∀ r : Int32, F = some r → MCt G k y b nL' rt (.ref (gad G t) :: [v0, v1]) σ (some (.int r)) σ) (hF : bp F K = some o) (kk : ∀ r : Int32, K r = some o → WW G X nL σ lv (pc + 3) (.int r :: st)) : WW G X nL σ lv pc (v1 :: v0 :: .ref (gad G t) :: st) := by
  obtain ⟨r, h1, h2⟩ := bp_some hF
  exact ww_callV hC hc cx hs hk hst rfl rfl hdg (hM r h1) (kk r h2)

theorem ww_V2_pl {G : GT} {X : CT} {own : String} {cc : ByteArray} {nL n : Nat} {σ : St} {lv : List (Nat × Value)} {pc : Nat} {st : List Value} {k ix nL' t ci : Nat} {C : String} {fs : List (Option Nat)} {T : u_T} {N : Nat} {y : MethodName} {b : ByteArray} {rt : Option FieldType} {v0 v1 : Value} {β : Type} {F : Option Int64} {K : Int64 → Option β} {o : β} (hC : CallV own ix C y b nL' rt 2) (hc : clz[ci]? = some (C, T, N)) (cx : Cx G X own cc nL n) (hs : shp[t]? = some (.inr (.inl (ci, fs)))) (hk : k + 1 ≤ n ∧ nL' ≤ 45) (hst : (st.map fun v => v.category).sum ≤ 8) (hdg : decode cc pc = .ok (.invokevirtual ix, 3)) (hM : ∀ r : Int64, F = some r → MCt G k y b nL' rt (.ref (gad G t) :: [v0, v1]) σ (some (.long r)) σ) (hF : bp F K = some o) (kk : ∀ r : Int64, K r = some o → WW G X nL σ lv (pc + 3) (.long r :: st)) : WW G X nL σ lv pc (v1 :: v0 :: .ref (gad G t) :: st) := by
  obtain ⟨r, h1, h2⟩ := bp_some hF
  exact ww_callV hC hc cx hs hk hst rfl rfl hdg (hM r h1) (kk r h2)

theorem ww_V2_si {G : GT} {X : CT} {own : String} {cc : ByteArray} {nL n : Nat} {σ : St} {lv : List (Nat × Value)} {pc : Nat} {st : List Value} {k ix nL' t ci : Nat} {C : String} {fs : List (Option Nat)} {T : u_T} {N : Nat} {y : MethodName} {b : ByteArray} {rt : Option FieldType} {v0 v1 : Value} {β : Type} {F : Option (Int32 × St)} {K : Int32 → St → Option β} {o : β} (hC : CallV own ix C y b nL' rt 2) (hc : clz[ci]? = some (C, T, N)) (cx : Cx G X own cc nL n) (hs : shp[t]? = some (.inr (.inl (ci, fs)))) (hk : k + 1 ≤ n ∧ nL' ≤ 45) (hst : (st.map fun v => v.category).sum ≤ 8) (hdg : decode cc pc = .ok (.invokevirtual ix, 3)) (hM : ∀ (r : Int32) (σ1 : St), F = some (r, σ1) → MCt G k y b nL' rt (.ref (gad G t) :: [v0, v1]) σ (some (.int r)) σ1) (hF : bs F K = some o) (kk : ∀ (r : Int32) (σ1 : St), K r σ1 = some o → WW G X nL σ1 lv (pc + 3) (.int r :: st)) : WW G X nL σ lv pc (v1 :: v0 :: .ref (gad G t) :: st) := by
  obtain ⟨r, σ1, h1, h2⟩ := bs_some hF
  exact ww_callV hC hc cx hs hk hst rfl rfl hdg (hM r σ1 h1) (kk r σ1 h2)

theorem ww_V2_sv {G : GT} {X : CT} {own : String} {cc : ByteArray} {nL n : Nat} {σ : St} {lv : List (Nat × Value)} {pc : Nat} {st : List Value} {k ix nL' t ci : Nat} {C : String} {fs : List (Option Nat)} {T : u_T} {N : Nat} {y : MethodName} {b : ByteArray} {rt : Option FieldType} {v0 v1 : Value} {β : Type} {F : Option St} {K : St → Option β} {o : β} (hC : CallV own ix C y b nL' rt 2) (hc : clz[ci]? = some (C, T, N)) (cx : Cx G X own cc nL n) (hs : shp[t]? = some (.inr (.inl (ci, fs)))) (hk : k + 1 ≤ n ∧ nL' ≤ 45) (hst : (st.map fun v => v.category).sum ≤ 8) (hdg : decode cc pc = .ok (.invokevirtual ix, 3)) (hM : ∀ σ1 : St, F = some σ1 → MCt G k y b nL' rt (.ref (gad G t) :: [v0, v1]) σ none σ1) (hF : bp F K = some o) (kk : ∀ σ1 : St, K σ1 = some o → WW G X nL σ1 lv (pc + 3) st) : WW G X nL σ lv pc (v1 :: v0 :: .ref (gad G t) :: st) := by
  obtain ⟨σ1, h1, h2⟩ := bp_some hF
  exact ww_callV hC hc cx hs hk hst rfl rfl hdg (hM σ1 h1) (kk σ1 h2)

theorem ww_V2_sr {G : GT} {X : CT} {own : String} {cc : ByteArray} {nL n : Nat} {σ : St} {lv : List (Nat × Value)} {pc : Nat} {st : List Value} {k ix nL' t ci : Nat} {C : String} {fs : List (Option Nat)} {T : u_T} {N : Nat} {y : MethodName} {b : ByteArray} {rt : Option FieldType} {v0 v1 : Value} {a : Nat} {β : Type} {F : Option St} {K : St → Option β} {o : β} (hC : CallV own ix C y b nL' rt 2) (hc : clz[ci]? = some (C, T, N)) (cx : Cx G X own cc nL n) (hs : shp[t]? = some (.inr (.inl (ci, fs)))) (hk : k + 1 ≤ n ∧ nL' ≤ 45) (hst : (st.map fun v => v.category).sum ≤ 8) (hdg : decode cc pc = .ok (.invokevirtual ix, 3)) (hM : ∀ σ1 : St, F = some σ1 → MCt G k y b nL' rt (.ref (gad G t) :: [v0, v1]) σ (some (.ref a)) σ1) (hF : bp F K = some o) (kk : ∀ σ1 : St, K σ1 = some o → WW G X nL σ1 lv (pc + 3) (.ref a :: st)) : WW G X nL σ lv pc (v1 :: v0 :: .ref (gad G t) :: st) := by
  obtain ⟨σ1, h1, h2⟩ := bp_some hF
  exact ww_callV hC hc cx hs hk hst rfl rfl hdg (hM σ1 h1) (kk σ1 h2)

theorem ww_S2_pi {G : GT} {X : CT} {own : String} {cc : ByteArray} {nL n : Nat} {σ : St} {lv : List (Nat × Value)} {pc : Nat} {st : List Value} {k ix nL' : Nat} {y : MethodName} {b : ByteArray} {rt : Option FieldType} {v0 v1 : Value} {β : Type} {F : Option Int32} {K : Int32 → Option β} {o : β} (hC : CallS own ix y b nL' rt 2) (cx : Cx G X own cc nL n) (hk : k + 1 ≤ n ∧ nL' ≤ 45) (hst : (st.map fun v => v.category).sum ≤ 8) (hdg : decode cc pc = .ok (.invokestatic ix, 3)) (hM : ∀ r : Int32, F = some r → MCt G k y b nL' rt [v0, v1] σ (some (.int r)) σ) (hF : bp F K = some o) (kk : ∀ r : Int32, K r = some o → WW G X nL σ lv (pc + 3) (.int r :: st)) : WW G X nL σ lv pc (v1 :: v0 :: st) := by
  obtain ⟨r, h1, h2⟩ := bp_some hF
  exact ww_callS hC cx hk hst rfl rfl hdg (hM r h1) (kk r h2)

theorem ww_S2_pl {G : GT} {X : CT} {own : String} {cc : ByteArray} {nL n : Nat} {σ : St} {lv : List (Nat × Value)} {pc : Nat} {st : List Value} {k ix nL' : Nat} {y : MethodName} {b : ByteArray} {rt : Option FieldType} {v0 v1 : Value} {β : Type} {F : Option Int64} {K : Int64 → Option β} {o : β} (hC : CallS own ix y b nL' rt 2) (cx : Cx G X own cc nL n) (hk : k + 1 ≤ n ∧ nL' ≤ 45) (hst : (st.map fun v => v.category).sum ≤ 8) (hdg : decode cc pc = .ok (.invokestatic ix, 3)) (hM : ∀ r : Int64, F = some r → MCt G k y b nL' rt [v0, v1] σ (some (.long r)) σ) (hF : bp F K = some o) (kk : ∀ r : Int64, K r = some o → WW G X nL σ lv (pc + 3) (.long r :: st)) : WW G X nL σ lv pc (v1 :: v0 :: st) := by
  obtain ⟨r, h1, h2⟩ := bp_some hF
  exact ww_callS hC cx hk hst rfl rfl hdg (hM r h1) (kk r h2)

theorem ww_S2_si {G : GT} {X : CT} {own : String} {cc : ByteArray} {nL n : Nat} {σ : St} {lv : List (Nat × Value)} {pc : Nat} {st : List Value} {k ix nL' : Nat} {y : MethodName} {b : ByteArray} {rt : Option FieldType} {v0 v1 : Value} {β : Type} {F : Option (Int32 × St)} {K : Int32 → St → Option β} {o : β} (hC : CallS own ix y b nL' rt 2) (cx : Cx G X own cc nL n) (hk : k + 1 ≤ n ∧ nL' ≤ 45) (hst : (st.map fun v => v.category).sum ≤ 8) (hdg : decode cc pc = .ok (.invokestatic ix, 3)) (hM : ∀ (r : Int32) (σ1 : St), F = some (r, σ1) → MCt G k y b nL' rt [v0, v1] σ (some (.int r)) σ1) (hF : bs F K = some o) (kk : ∀ (r : Int32) (σ1 : St), K r σ1 = some o → WW G X nL σ1 lv (pc + 3) (.int r :: st)) : WW G X nL σ lv pc (v1 :: v0 :: st) := by
  obtain ⟨r, σ1, h1, h2⟩ := bs_some hF
  exact ww_callS hC cx hk hst rfl rfl hdg (hM r σ1 h1) (kk r σ1 h2)

theorem ww_S2_sv {G : GT} {X : CT} {own : String} {cc : ByteArray} {nL n : Nat} {σ : St} {lv : List (Nat × Value)} {pc : Nat} {st : List Value} {k ix nL' : Nat} {y : MethodName} {b : ByteArray} {rt : Option FieldType} {v0 v1 : Value} {β : Type} {F : Option St} {K : St → Option β} {o : β} (hC : CallS own ix y b nL' rt 2) (cx : Cx G X own cc nL n) (hk : k + 1 ≤ n ∧ nL' ≤ 45) (hst : (st.map fun v => v.category).sum ≤ 8) (hdg : decode cc pc = .ok (.invokestatic ix, 3)) (hM : ∀ σ1 : St, F = some σ1 → MCt G k y b nL' rt [v0, v1] σ none σ1) (hF : bp F K = some o) (kk : ∀ σ1 : St, K σ1 = some o → WW G X nL σ1 lv (pc + 3) st) : WW G X nL σ lv pc (v1 :: v0 :: st) := by
  obtain ⟨σ1, h1, h2⟩ := bp_some hF
  exact ww_callS hC cx hk hst rfl rfl hdg (hM σ1 h1) (kk σ1 h2)

theorem ww_S2_sr {G : GT} {X : CT} {own : String} {cc : ByteArray} {nL n : Nat} {σ : St} {lv : List (Nat × Value)} {pc : Nat} {st : List Value} {k ix nL' : Nat} {y : MethodName} {b : ByteArray} {rt : Option FieldType} {v0 v1 : Value} {a : Nat} {β : Type} {F : Option St} {K : St → Option β} {o : β} (hC : CallS own ix y b nL' rt 2) (cx : Cx G X own cc nL n) (hk : k + 1 ≤ n ∧ nL' ≤ 45) (hst : (st.map fun v => v.category).sum ≤ 8) (hdg : decode cc pc = .ok (.invokestatic ix, 3)) (hM : ∀ σ1 : St, F = some σ1 → MCt G k y b nL' rt [v0, v1] σ (some (.ref a)) σ1) (hF : bp F K = some o) (kk : ∀ σ1 : St, K σ1 = some o → WW G X nL σ1 lv (pc + 3) (.ref a :: st)) : WW G X nL σ lv pc (v1 :: v0 :: st) := by
  obtain ⟨σ1, h1, h2⟩ := bp_some hF
  exact ww_callS hC cx hk hst rfl rfl hdg (hM σ1 h1) (kk σ1 h2)

theorem ww_V3_pi {G : GT} {X : CT} {own : String} {cc : ByteArray} {nL n : Nat} {σ : St} {lv : List (Nat × Value)} {pc : Nat} {st : List Value} {k ix nL' t ci : Nat} {C : String} {fs : List (Option Nat)} {T : u_T} {N : Nat} {y : MethodName} {b : ByteArray} {rt : Option FieldType} {v0 v1 v2 : Value} {β : Type} {F : Option Int32} {K : Int32 → Option β} {o : β} (hC : CallV own ix C y b nL' rt 3) (hc : clz[ci]? = some (C, T, N)) (cx : Cx G X own cc nL n) (hs : shp[t]? = some (.inr (.inl (ci, fs)))) (hk : k + 1 ≤ n ∧ nL' ≤ 45) (hst : (st.map fun v => v.category).sum ≤ 8) (hdg : decode cc pc = .ok (.invokevirtual ix, 3)) (hM : ∀ r : Int32, F = some r → MCt G k y b nL' rt (.ref (gad G t) :: [v0, v1, v2]) σ (some (.int r)) σ) (hF : bp F K = some o) (kk : ∀ r : Int32, K r = some o → WW G X nL σ lv (pc + 3) (.int r :: st)) : WW G X nL σ lv pc (v2 :: v1 :: v0 :: .ref (gad G t) :: st) := by
  obtain ⟨r, h1, h2⟩ := bp_some hF
  exact ww_callV hC hc cx hs hk hst rfl rfl hdg (hM r h1) (kk r h2)

theorem ww_V3_si {G : GT} {X : CT} {own : String} {cc : ByteArray} {nL n : Nat} {σ : St} {lv : List (Nat × Value)} {pc : Nat} {st : List Value} {k ix nL' t ci : Nat} {C : String} {fs : List (Option Nat)} {T : u_T} {N : Nat} {y : MethodName} {b : ByteArray} {rt : Option FieldType} {v0 v1 v2 : Value} {β : Type} {F : Option (Int32 × St)} {K : Int32 → St → Option β} {o : β} (hC : CallV own ix C y b nL' rt 3) (hc : clz[ci]? = some (C, T, N)) (cx : Cx G X own cc nL n) (hs : shp[t]? = some (.inr (.inl (ci, fs)))) (hk : k + 1 ≤ n ∧ nL' ≤ 45) (hst : (st.map fun v => v.category).sum ≤ 8) (hdg : decode cc pc = .ok (.invokevirtual ix, 3)) (hM : ∀ (r : Int32) (σ1 : St), F = some (r, σ1) → MCt G k y b nL' rt (.ref (gad G t) :: [v0, v1, v2]) σ (some (.int r)) σ1) (hF : bs F K = some o) (kk : ∀ (r : Int32) (σ1 : St), K r σ1 = some o → WW G X nL σ1 lv (pc + 3) (.int r :: st)) : WW G X nL σ lv pc (v2 :: v1 :: v0 :: .ref (gad G t) :: st) := by
  obtain ⟨r, σ1, h1, h2⟩ := bs_some hF
  exact ww_callV hC hc cx hs hk hst rfl rfl hdg (hM r σ1 h1) (kk r σ1 h2)

theorem ww_V3_sv {G : GT} {X : CT} {own : String} {cc : ByteArray} {nL n : Nat} {σ : St} {lv : List (Nat × Value)} {pc : Nat} {st : List Value} {k ix nL' t ci : Nat} {C : String} {fs : List (Option Nat)} {T : u_T} {N : Nat} {y : MethodName} {b : ByteArray} {rt : Option FieldType} {v0 v1 v2 : Value} {β : Type} {F : Option St} {K : St → Option β} {o : β} (hC : CallV own ix C y b nL' rt 3) (hc : clz[ci]? = some (C, T, N)) (cx : Cx G X own cc nL n) (hs : shp[t]? = some (.inr (.inl (ci, fs)))) (hk : k + 1 ≤ n ∧ nL' ≤ 45) (hst : (st.map fun v => v.category).sum ≤ 8) (hdg : decode cc pc = .ok (.invokevirtual ix, 3)) (hM : ∀ σ1 : St, F = some σ1 → MCt G k y b nL' rt (.ref (gad G t) :: [v0, v1, v2]) σ none σ1) (hF : bp F K = some o) (kk : ∀ σ1 : St, K σ1 = some o → WW G X nL σ1 lv (pc + 3) st) : WW G X nL σ lv pc (v2 :: v1 :: v0 :: .ref (gad G t) :: st) := by
  obtain ⟨σ1, h1, h2⟩ := bp_some hF
  exact ww_callV hC hc cx hs hk hst rfl rfl hdg (hM σ1 h1) (kk σ1 h2)

theorem ww_S3_pi {G : GT} {X : CT} {own : String} {cc : ByteArray} {nL n : Nat} {σ : St} {lv : List (Nat × Value)} {pc : Nat} {st : List Value} {k ix nL' : Nat} {y : MethodName} {b : ByteArray} {rt : Option FieldType} {v0 v1 v2 : Value} {β : Type} {F : Option Int32} {K : Int32 → Option β} {o : β} (hC : CallS own ix y b nL' rt 3) (cx : Cx G X own cc nL n) (hk : k + 1 ≤ n ∧ nL' ≤ 45) (hst : (st.map fun v => v.category).sum ≤ 8) (hdg : decode cc pc = .ok (.invokestatic ix, 3)) (hM : ∀ r : Int32, F = some r → MCt G k y b nL' rt [v0, v1, v2] σ (some (.int r)) σ) (hF : bp F K = some o) (kk : ∀ r : Int32, K r = some o → WW G X nL σ lv (pc + 3) (.int r :: st)) : WW G X nL σ lv pc (v2 :: v1 :: v0 :: st) := by
  obtain ⟨r, h1, h2⟩ := bp_some hF
  exact ww_callS hC cx hk hst rfl rfl hdg (hM r h1) (kk r h2)

theorem ww_S3_si {G : GT} {X : CT} {own : String} {cc : ByteArray} {nL n : Nat} {σ : St} {lv : List (Nat × Value)} {pc : Nat} {st : List Value} {k ix nL' : Nat} {y : MethodName} {b : ByteArray} {rt : Option FieldType} {v0 v1 v2 : Value} {β : Type} {F : Option (Int32 × St)} {K : Int32 → St → Option β} {o : β} (hC : CallS own ix y b nL' rt 3) (cx : Cx G X own cc nL n) (hk : k + 1 ≤ n ∧ nL' ≤ 45) (hst : (st.map fun v => v.category).sum ≤ 8) (hdg : decode cc pc = .ok (.invokestatic ix, 3)) (hM : ∀ (r : Int32) (σ1 : St), F = some (r, σ1) → MCt G k y b nL' rt [v0, v1, v2] σ (some (.int r)) σ1) (hF : bs F K = some o) (kk : ∀ (r : Int32) (σ1 : St), K r σ1 = some o → WW G X nL σ1 lv (pc + 3) (.int r :: st)) : WW G X nL σ lv pc (v2 :: v1 :: v0 :: st) := by
  obtain ⟨r, σ1, h1, h2⟩ := bs_some hF
  exact ww_callS hC cx hk hst rfl rfl hdg (hM r σ1 h1) (kk r σ1 h2)

theorem ww_S3_sv {G : GT} {X : CT} {own : String} {cc : ByteArray} {nL n : Nat} {σ : St} {lv : List (Nat × Value)} {pc : Nat} {st : List Value} {k ix nL' : Nat} {y : MethodName} {b : ByteArray} {rt : Option FieldType} {v0 v1 v2 : Value} {β : Type} {F : Option St} {K : St → Option β} {o : β} (hC : CallS own ix y b nL' rt 3) (cx : Cx G X own cc nL n) (hk : k + 1 ≤ n ∧ nL' ≤ 45) (hst : (st.map fun v => v.category).sum ≤ 8) (hdg : decode cc pc = .ok (.invokestatic ix, 3)) (hM : ∀ σ1 : St, F = some σ1 → MCt G k y b nL' rt [v0, v1, v2] σ none σ1) (hF : bp F K = some o) (kk : ∀ σ1 : St, K σ1 = some o → WW G X nL σ1 lv (pc + 3) st) : WW G X nL σ lv pc (v2 :: v1 :: v0 :: st) := by
  obtain ⟨σ1, h1, h2⟩ := bp_some hF
  exact ww_callS hC cx hk hst rfl rfl hdg (hM σ1 h1) (kk σ1 h2)

theorem ww_V4_pi {G : GT} {X : CT} {own : String} {cc : ByteArray} {nL n : Nat} {σ : St} {lv : List (Nat × Value)} {pc : Nat} {st : List Value} {k ix nL' t ci : Nat} {C : String} {fs : List (Option Nat)} {T : u_T} {N : Nat} {y : MethodName} {b : ByteArray} {rt : Option FieldType} {v0 v1 v2 v3 : Value} {β : Type} {F : Option Int32} {K : Int32 → Option β} {o : β} (hC : CallV own ix C y b nL' rt 4) (hc : clz[ci]? = some (C, T, N)) (cx : Cx G X own cc nL n) (hs : shp[t]? = some (.inr (.inl (ci, fs)))) (hk : k + 1 ≤ n ∧ nL' ≤ 45) (hst : (st.map fun v => v.category).sum ≤ 8) (hdg : decode cc pc = .ok (.invokevirtual ix, 3)) (hM : ∀ r : Int32, F = some r → MCt G k y b nL' rt (.ref (gad G t) :: [v0, v1, v2, v3]) σ (some (.int r)) σ) (hF : bp F K = some o) (kk : ∀ r : Int32, K r = some o → WW G X nL σ lv (pc + 3) (.int r :: st)) : WW G X nL σ lv pc (v3 :: v2 :: v1 :: v0 :: .ref (gad G t) :: st) := by
  obtain ⟨r, h1, h2⟩ := bp_some hF
  exact ww_callV hC hc cx hs hk hst rfl rfl hdg (hM r h1) (kk r h2)

theorem ww_V4_si {G : GT} {X : CT} {own : String} {cc : ByteArray} {nL n : Nat} {σ : St} {lv : List (Nat × Value)} {pc : Nat} {st : List Value} {k ix nL' t ci : Nat} {C : String} {fs : List (Option Nat)} {T : u_T} {N : Nat} {y : MethodName} {b : ByteArray} {rt : Option FieldType} {v0 v1 v2 v3 : Value} {β : Type} {F : Option (Int32 × St)} {K : Int32 → St → Option β} {o : β} (hC : CallV own ix C y b nL' rt 4) (hc : clz[ci]? = some (C, T, N)) (cx : Cx G X own cc nL n) (hs : shp[t]? = some (.inr (.inl (ci, fs)))) (hk : k + 1 ≤ n ∧ nL' ≤ 45) (hst : (st.map fun v => v.category).sum ≤ 8) (hdg : decode cc pc = .ok (.invokevirtual ix, 3)) (hM : ∀ (r : Int32) (σ1 : St), F = some (r, σ1) → MCt G k y b nL' rt (.ref (gad G t) :: [v0, v1, v2, v3]) σ (some (.int r)) σ1) (hF : bs F K = some o) (kk : ∀ (r : Int32) (σ1 : St), K r σ1 = some o → WW G X nL σ1 lv (pc + 3) (.int r :: st)) : WW G X nL σ lv pc (v3 :: v2 :: v1 :: v0 :: .ref (gad G t) :: st) := by
  obtain ⟨r, σ1, h1, h2⟩ := bs_some hF
  exact ww_callV hC hc cx hs hk hst rfl rfl hdg (hM r σ1 h1) (kk r σ1 h2)

theorem ww_V4_sv {G : GT} {X : CT} {own : String} {cc : ByteArray} {nL n : Nat} {σ : St} {lv : List (Nat × Value)} {pc : Nat} {st : List Value} {k ix nL' t ci : Nat} {C : String} {fs : List (Option Nat)} {T : u_T} {N : Nat} {y : MethodName} {b : ByteArray} {rt : Option FieldType} {v0 v1 v2 v3 : Value} {β : Type} {F : Option St} {K : St → Option β} {o : β} (hC : CallV own ix C y b nL' rt 4) (hc : clz[ci]? = some (C, T, N)) (cx : Cx G X own cc nL n) (hs : shp[t]? = some (.inr (.inl (ci, fs)))) (hk : k + 1 ≤ n ∧ nL' ≤ 45) (hst : (st.map fun v => v.category).sum ≤ 8) (hdg : decode cc pc = .ok (.invokevirtual ix, 3)) (hM : ∀ σ1 : St, F = some σ1 → MCt G k y b nL' rt (.ref (gad G t) :: [v0, v1, v2, v3]) σ none σ1) (hF : bp F K = some o) (kk : ∀ σ1 : St, K σ1 = some o → WW G X nL σ1 lv (pc + 3) st) : WW G X nL σ lv pc (v3 :: v2 :: v1 :: v0 :: .ref (gad G t) :: st) := by
  obtain ⟨σ1, h1, h2⟩ := bp_some hF
  exact ww_callV hC hc cx hs hk hst rfl rfl hdg (hM σ1 h1) (kk σ1 h2)

theorem ww_S4_pi {G : GT} {X : CT} {own : String} {cc : ByteArray} {nL n : Nat} {σ : St} {lv : List (Nat × Value)} {pc : Nat} {st : List Value} {k ix nL' : Nat} {y : MethodName} {b : ByteArray} {rt : Option FieldType} {v0 v1 v2 v3 : Value} {β : Type} {F : Option Int32} {K : Int32 → Option β} {o : β} (hC : CallS own ix y b nL' rt 4) (cx : Cx G X own cc nL n) (hk : k + 1 ≤ n ∧ nL' ≤ 45) (hst : (st.map fun v => v.category).sum ≤ 8) (hdg : decode cc pc = .ok (.invokestatic ix, 3)) (hM : ∀ r : Int32, F = some r → MCt G k y b nL' rt [v0, v1, v2, v3] σ (some (.int r)) σ) (hF : bp F K = some o) (kk : ∀ r : Int32, K r = some o → WW G X nL σ lv (pc + 3) (.int r :: st)) : WW G X nL σ lv pc (v3 :: v2 :: v1 :: v0 :: st) := by
  obtain ⟨r, h1, h2⟩ := bp_some hF
  exact ww_callS hC cx hk hst rfl rfl hdg (hM r h1) (kk r h2)

theorem ww_S4_si {G : GT} {X : CT} {own : String} {cc : ByteArray} {nL n : Nat} {σ : St} {lv : List (Nat × Value)} {pc : Nat} {st : List Value} {k ix nL' : Nat} {y : MethodName} {b : ByteArray} {rt : Option FieldType} {v0 v1 v2 v3 : Value} {β : Type} {F : Option (Int32 × St)} {K : Int32 → St → Option β} {o : β} (hC : CallS own ix y b nL' rt 4) (cx : Cx G X own cc nL n) (hk : k + 1 ≤ n ∧ nL' ≤ 45) (hst : (st.map fun v => v.category).sum ≤ 8) (hdg : decode cc pc = .ok (.invokestatic ix, 3)) (hM : ∀ (r : Int32) (σ1 : St), F = some (r, σ1) → MCt G k y b nL' rt [v0, v1, v2, v3] σ (some (.int r)) σ1) (hF : bs F K = some o) (kk : ∀ (r : Int32) (σ1 : St), K r σ1 = some o → WW G X nL σ1 lv (pc + 3) (.int r :: st)) : WW G X nL σ lv pc (v3 :: v2 :: v1 :: v0 :: st) := by
  obtain ⟨r, σ1, h1, h2⟩ := bs_some hF
  exact ww_callS hC cx hk hst rfl rfl hdg (hM r σ1 h1) (kk r σ1 h2)

theorem ww_S4_sv {G : GT} {X : CT} {own : String} {cc : ByteArray} {nL n : Nat} {σ : St} {lv : List (Nat × Value)} {pc : Nat} {st : List Value} {k ix nL' : Nat} {y : MethodName} {b : ByteArray} {rt : Option FieldType} {v0 v1 v2 v3 : Value} {β : Type} {F : Option St} {K : St → Option β} {o : β} (hC : CallS own ix y b nL' rt 4) (cx : Cx G X own cc nL n) (hk : k + 1 ≤ n ∧ nL' ≤ 45) (hst : (st.map fun v => v.category).sum ≤ 8) (hdg : decode cc pc = .ok (.invokestatic ix, 3)) (hM : ∀ σ1 : St, F = some σ1 → MCt G k y b nL' rt [v0, v1, v2, v3] σ none σ1) (hF : bp F K = some o) (kk : ∀ σ1 : St, K σ1 = some o → WW G X nL σ1 lv (pc + 3) st) : WW G X nL σ lv pc (v3 :: v2 :: v1 :: v0 :: st) := by
  obtain ⟨σ1, h1, h2⟩ := bp_some hF
  exact ww_callS hC cx hk hst rfl rfl hdg (hM σ1 h1) (kk σ1 h2)

theorem ww_V5_pi {G : GT} {X : CT} {own : String} {cc : ByteArray} {nL n : Nat} {σ : St} {lv : List (Nat × Value)} {pc : Nat} {st : List Value} {k ix nL' t ci : Nat} {C : String} {fs : List (Option Nat)} {T : u_T} {N : Nat} {y : MethodName} {b : ByteArray} {rt : Option FieldType} {v0 v1 v2 v3 v4 : Value} {β : Type} {F : Option Int32} {K : Int32 → Option β} {o : β} (hC : CallV own ix C y b nL' rt 5) (hc : clz[ci]? = some (C, T, N)) (cx : Cx G X own cc nL n) (hs : shp[t]? = some (.inr (.inl (ci, fs)))) (hk : k + 1 ≤ n ∧ nL' ≤ 45) (hst : (st.map fun v => v.category).sum ≤ 8) (hdg : decode cc pc = .ok (.invokevirtual ix, 3)) (hM : ∀ r : Int32, F = some r → MCt G k y b nL' rt (.ref (gad G t) :: [v0, v1, v2, v3, v4]) σ (some (.int r)) σ) (hF : bp F K = some o) (kk : ∀ r : Int32, K r = some o → WW G X nL σ lv (pc + 3) (.int r :: st)) : WW G X nL σ lv pc (v4 :: v3 :: v2 :: v1 :: v0 :: .ref (gad G t) :: st) := by
  obtain ⟨r, h1, h2⟩ := bp_some hF
  exact ww_callV hC hc cx hs hk hst rfl rfl hdg (hM r h1) (kk r h2)

theorem ww_V5_si {G : GT} {X : CT} {own : String} {cc : ByteArray} {nL n : Nat} {σ : St} {lv : List (Nat × Value)} {pc : Nat} {st : List Value} {k ix nL' t ci : Nat} {C : String} {fs : List (Option Nat)} {T : u_T} {N : Nat} {y : MethodName} {b : ByteArray} {rt : Option FieldType} {v0 v1 v2 v3 v4 : Value} {β : Type} {F : Option (Int32 × St)} {K : Int32 → St → Option β} {o : β} (hC : CallV own ix C y b nL' rt 5) (hc : clz[ci]? = some (C, T, N)) (cx : Cx G X own cc nL n) (hs : shp[t]? = some (.inr (.inl (ci, fs)))) (hk : k + 1 ≤ n ∧ nL' ≤ 45) (hst : (st.map fun v => v.category).sum ≤ 8) (hdg : decode cc pc = .ok (.invokevirtual ix, 3)) (hM : ∀ (r : Int32) (σ1 : St), F = some (r, σ1) → MCt G k y b nL' rt (.ref (gad G t) :: [v0, v1, v2, v3, v4]) σ (some (.int r)) σ1) (hF : bs F K = some o) (kk : ∀ (r : Int32) (σ1 : St), K r σ1 = some o → WW G X nL σ1 lv (pc + 3) (.int r :: st)) : WW G X nL σ lv pc (v4 :: v3 :: v2 :: v1 :: v0 :: .ref (gad G t) :: st) := by
  obtain ⟨r, σ1, h1, h2⟩ := bs_some hF
  exact ww_callV hC hc cx hs hk hst rfl rfl hdg (hM r σ1 h1) (kk r σ1 h2)

theorem ww_V5_sv {G : GT} {X : CT} {own : String} {cc : ByteArray} {nL n : Nat} {σ : St} {lv : List (Nat × Value)} {pc : Nat} {st : List Value} {k ix nL' t ci : Nat} {C : String} {fs : List (Option Nat)} {T : u_T} {N : Nat} {y : MethodName} {b : ByteArray} {rt : Option FieldType} {v0 v1 v2 v3 v4 : Value} {β : Type} {F : Option St} {K : St → Option β} {o : β} (hC : CallV own ix C y b nL' rt 5) (hc : clz[ci]? = some (C, T, N)) (cx : Cx G X own cc nL n) (hs : shp[t]? = some (.inr (.inl (ci, fs)))) (hk : k + 1 ≤ n ∧ nL' ≤ 45) (hst : (st.map fun v => v.category).sum ≤ 8) (hdg : decode cc pc = .ok (.invokevirtual ix, 3)) (hM : ∀ σ1 : St, F = some σ1 → MCt G k y b nL' rt (.ref (gad G t) :: [v0, v1, v2, v3, v4]) σ none σ1) (hF : bp F K = some o) (kk : ∀ σ1 : St, K σ1 = some o → WW G X nL σ1 lv (pc + 3) st) : WW G X nL σ lv pc (v4 :: v3 :: v2 :: v1 :: v0 :: .ref (gad G t) :: st) := by
  obtain ⟨σ1, h1, h2⟩ := bp_some hF
  exact ww_callV hC hc cx hs hk hst rfl rfl hdg (hM σ1 h1) (kk σ1 h2)

theorem ww_S5_pi {G : GT} {X : CT} {own : String} {cc : ByteArray} {nL n : Nat} {σ : St} {lv : List (Nat × Value)} {pc : Nat} {st : List Value} {k ix nL' : Nat} {y : MethodName} {b : ByteArray} {rt : Option FieldType} {v0 v1 v2 v3 v4 : Value} {β : Type} {F : Option Int32} {K : Int32 → Option β} {o : β} (hC : CallS own ix y b nL' rt 5) (cx : Cx G X own cc nL n) (hk : k + 1 ≤ n ∧ nL' ≤ 45) (hst : (st.map fun v => v.category).sum ≤ 8) (hdg : decode cc pc = .ok (.invokestatic ix, 3)) (hM : ∀ r : Int32, F = some r → MCt G k y b nL' rt [v0, v1, v2, v3, v4] σ (some (.int r)) σ) (hF : bp F K = some o) (kk : ∀ r : Int32, K r = some o → WW G X nL σ lv (pc + 3) (.int r :: st)) : WW G X nL σ lv pc (v4 :: v3 :: v2 :: v1 :: v0 :: st) := by
  obtain ⟨r, h1, h2⟩ := bp_some hF
  exact ww_callS hC cx hk hst rfl rfl hdg (hM r h1) (kk r h2)

theorem ww_S5_si {G : GT} {X : CT} {own : String} {cc : ByteArray} {nL n : Nat} {σ : St} {lv : List (Nat × Value)} {pc : Nat} {st : List Value} {k ix nL' : Nat} {y : MethodName} {b : ByteArray} {rt : Option FieldType} {v0 v1 v2 v3 v4 : Value} {β : Type} {F : Option (Int32 × St)} {K : Int32 → St → Option β} {o : β} (hC : CallS own ix y b nL' rt 5) (cx : Cx G X own cc nL n) (hk : k + 1 ≤ n ∧ nL' ≤ 45) (hst : (st.map fun v => v.category).sum ≤ 8) (hdg : decode cc pc = .ok (.invokestatic ix, 3)) (hM : ∀ (r : Int32) (σ1 : St), F = some (r, σ1) → MCt G k y b nL' rt [v0, v1, v2, v3, v4] σ (some (.int r)) σ1) (hF : bs F K = some o) (kk : ∀ (r : Int32) (σ1 : St), K r σ1 = some o → WW G X nL σ1 lv (pc + 3) (.int r :: st)) : WW G X nL σ lv pc (v4 :: v3 :: v2 :: v1 :: v0 :: st) := by
  obtain ⟨r, σ1, h1, h2⟩ := bs_some hF
  exact ww_callS hC cx hk hst rfl rfl hdg (hM r σ1 h1) (kk r σ1 h2)

theorem ww_S5_sv {G : GT} {X : CT} {own : String} {cc : ByteArray} {nL n : Nat} {σ : St} {lv : List (Nat × Value)} {pc : Nat} {st : List Value} {k ix nL' : Nat} {y : MethodName} {b : ByteArray} {rt : Option FieldType} {v0 v1 v2 v3 v4 : Value} {β : Type} {F : Option St} {K : St → Option β} {o : β} (hC : CallS own ix y b nL' rt 5) (cx : Cx G X own cc nL n) (hk : k + 1 ≤ n ∧ nL' ≤ 45) (hst : (st.map fun v => v.category).sum ≤ 8) (hdg : decode cc pc = .ok (.invokestatic ix, 3)) (hM : ∀ σ1 : St, F = some σ1 → MCt G k y b nL' rt [v0, v1, v2, v3, v4] σ none σ1) (hF : bp F K = some o) (kk : ∀ σ1 : St, K σ1 = some o → WW G X nL σ1 lv (pc + 3) st) : WW G X nL σ lv pc (v4 :: v3 :: v2 :: v1 :: v0 :: st) := by
  obtain ⟨σ1, h1, h2⟩ := bp_some hF
  exact ww_callS hC cx hk hst rfl rfl hdg (hM σ1 h1) (kk σ1 h2)

theorem met_core {G : GT} {k : Nat} {y : MethodName} {b : ByteArray} {nL : Nat} {rt : Option FieldType} {as : List Value} {σ : St} {rv : Option Value} {σ1 : St} {EndP : CT → Prop} (hy : plainName y.cls = true) (hsl : (lg_sl as).length ≤ nL)
    (hEnd : ∀ (p : Program) (e : Env) (R : Room) (s : State) (m : MethodId) (args : Array Value) (below : List Frame) (meth : Method) (c : Code) (A : Nat → Prop), p.tables.exec = Jvm.exec → c.code = b → meth.sig.returnType = rt → meth.locks = false → EndP (p, e, R, s, m, args, below, meth, c, MQ below (fun _ st oc t => oc = .returned rv ∧ va_P G.2.1 clz (wld G σ1) t.heap ∧ va_F A st t) args s 0 0 A, A, 0, 0))
    (body : ∀ X : CT, Cx G X y.cls b nL k → EndP X → WW G X nL σ (lv_args 0 as) 0 []) : MCt G k y b nL rt as σ rv σ1 := by
  intro sz
  refine Met.ofW (cc := b) (maxL := nL) (ret := rt) hy rfl ?_
  intro p e s m args below meth c s₁ B hml hv
  obtain ⟨rfl, hsz, hP, hG⟩ := hv
  have hts := atoms_spec (ws := .code y b nL rt :: TBL) B.pre
  subst hsz
  generalize hAe : va_A (wld G σ) s.heap.size = A at hG ⊢
  have hA : ∀ q : Nat, s.heap.size ≤ q → A q := fun q h => by rw [← hAe]; exact Or.inr h
  have hl := lv_entry as hsl
  rw [lg_entry_eq]
  have h0 := body (p, e, rmL k, s, m, as.toArray, below, meth, c, MQ below (fun _ st oc t => oc = .returned rv ∧ va_P G.2.1 clz (wld G σ1) t.heap ∧ va_F A st t) as.toArray s 0 0 A, A, 0, 0) ⟨B.exec, B.bytes, hml, findClass_of_methodNamed B.named, fun w hw => hts w (List.mem_cons_of_mem _ hw), hG, hA, ⟨Nat.le_refl _, Nat.le_refl _⟩, ⟨Nat.le_refl _, Nat.le_refl _⟩⟩ (hEnd _ _ _ _ _ _ _ _ _ _ B.exec B.bytes B.returns B.notSynchronized)
  exact h0 s.heap [] _ hl hP va_S.rf

theorem met_i {G : GT} {k : Nat} {y : MethodName} {b : ByteArray} {nL : Nat} {as : List Value} {σ : St} {r : Int32} {σ1 : St} (hy : plainName y.cls = true) (hsl : (lg_sl as).length ≤ nL) (body : ∀ X : CT, Cx G X y.cls b nL k → (∀ (lv : List (Nat × Value)) (pc : Nat), decode b pc = .ok (.ireturn, 1) → WW G X nL σ1 lv pc [.int r]) → WW G X nL σ (lv_args 0 as) 0 []) : MCt G k y b nL (some .int) as σ (some (.int r)) σ1 :=
  met_core (EndP := fun X => ∀ (lv : List (Nat × Value)) (pc : Nat), decode b pc = .ok (.ireturn, 1) → WW G X nL σ1 lv pc [.int r]) hy hsl (fun p e R s m args below meth c A hx hb hr hlocks lv pc hdg H locs ls hl hP hS => W.iret hx hb hr (fun t ht hW => ⟨rfl, by rw [ht]; exact hP, hS.F ht⟩) hS.2.2 hdg) body

theorem met_z {G : GT} {k : Nat} {y : MethodName} {b : ByteArray} {nL : Nat} {as : List Value} {σ : St} {r : Int32} {σ1 : St} (hy : plainName y.cls = true) (hsl : (lg_sl as).length ≤ nL) (hz : r = 0 ∨ r = 1) (body : ∀ X : CT, Cx G X y.cls b nL k → (∀ (lv : List (Nat × Value)) (pc : Nat), decode b pc = .ok (.ireturn, 1) → WW G X nL σ1 lv pc [.int r]) → WW G X nL σ (lv_args 0 as) 0 []) : MCt G k y b nL (some .boolean) as σ (some (.int r)) σ1 :=
  met_core (EndP := fun X => ∀ (lv : List (Nat × Value)) (pc : Nat), decode b pc = .ok (.ireturn, 1) → WW G X nL σ1 lv pc [.int r]) hy hsl (fun p e R s m args below meth c A hx hb hr hlocks lv pc hdg H locs ls hl hP hS => W.zret hx hb hr (by rcases hz with rfl | rfl <;> rfl) (fun t ht hW => ⟨rfl, by rw [ht]; exact hP, hS.F ht⟩) hS.2.2 hdg) body

theorem met_v {G : GT} {k : Nat} {y : MethodName} {b : ByteArray} {nL : Nat} {as : List Value} {σ : St} {σ1 : St} (hy : plainName y.cls = true) (hsl : (lg_sl as).length ≤ nL) (body : ∀ X : CT, Cx G X y.cls b nL k → (∀ (lv : List (Nat × Value)) (pc : Nat), decode b pc = .ok (.return_, 1) → WW G X nL σ1 lv pc []) → WW G X nL σ (lv_args 0 as) 0 []) : MCt G k y b nL (none) as σ (none) σ1 :=
  met_core (EndP := fun X => ∀ (lv : List (Nat × Value)) (pc : Nat), decode b pc = .ok (.return_, 1) → WW G X nL σ1 lv pc []) hy hsl (fun p e R s m args below meth c A hx hb hr hlocks lv pc hdg H locs ls hl hP hS => W.vret hx hb hr (fun t ht hW => ⟨rfl, by rw [ht]; exact hP, hS.F ht⟩) hS.2.2 hdg) body

theorem met_l {G : GT} {k : Nat} {y : MethodName} {b : ByteArray} {nL : Nat} {as : List Value} {σ : St} {r : Int64} {σ1 : St} (hy : plainName y.cls = true) (hsl : (lg_sl as).length ≤ nL) (body : ∀ X : CT, Cx G X y.cls b nL k → (∀ (lv : List (Nat × Value)) (pc : Nat), decode b pc = .ok (.lreturn, 1) → WW G X nL σ1 lv pc [.long r]) → WW G X nL σ (lv_args 0 as) 0 []) : MCt G k y b nL (some .long) as σ (some (.long r)) σ1 :=
  met_core (EndP := fun X => ∀ (lv : List (Nat × Value)) (pc : Nat), decode b pc = .ok (.lreturn, 1) → WW G X nL σ1 lv pc [.long r]) hy hsl (fun p e R s m args below meth c A hx hb hr hlocks lv pc hdg H locs ls hl hP hS => W.lret hx hb hr (fun t ht hW => ⟨rfl, by rw [ht]; exact hP, hS.F ht⟩) hS.2.2 hdg) body

theorem met_a {G : GT} {k : Nat} {y : MethodName} {b : ByteArray} {nL : Nat} {as : List Value} {σ : St} {a : Nat} {C : String} {σ1 : St} (hy : plainName y.cls = true) (hsl : (lg_sl as).length ≤ nL) (body : ∀ X : CT, Cx G X y.cls b nL k → (∀ (lv : List (Nat × Value)) (pc : Nat), decode b pc = .ok (.areturn, 1) → WW G X nL σ1 lv pc [.ref a]) → WW G X nL σ (lv_args 0 as) 0 []) : MCt G k y b nL (some (.object C)) as σ (some (.ref a)) σ1 :=
  met_core (EndP := fun X => ∀ (lv : List (Nat × Value)) (pc : Nat), decode b pc = .ok (.areturn, 1) → WW G X nL σ1 lv pc [.ref a]) hy hsl (fun p e R s m args below meth c A hx hb hr hlocks lv pc hdg H locs ls hl hP hS => W.aret hx hb hr (Or.inl ⟨_, rfl⟩) (Or.inr ⟨_, rfl⟩) (fun t ht hW => ⟨rfl, by rw [ht]; exact hP, hS.F ht⟩) hS.2.2 hdg) body
end
section
theorem mm_max_s : Cond.static Lib.Math.max.name ∈ TBL := tm 1014 (by decide +kernel) (by decide +kernel)
theorem mm_max_c : Cond.code Lib.Math.max.name Lib.Math.max.code 2 (some .int) ∈ TBL := tm 1015 (by decide +kernel) (by decide +kernel)
theorem mm_min_s : Cond.static Lib.Math.min.name ∈ TBL := tm 454 (by decide +kernel) (by decide +kernel)
theorem mm_min_c : Cond.code Lib.Math.min.name Lib.Math.min.code 2 (some .int) ∈ TBL := tm 455 (by decide +kernel) (by decide +kernel)
theorem mm_i : Cond.initialized "java/lang/Math" ∈ TBL := tm 131 (by decide +kernel) (by decide +kernel)
theorem ac_n : Cond.native arraycopyName ∈ TBL := tm 618 (by decide +kernel) (by decide +kernel)
theorem ac_s : Cond.static arraycopyName ∈ TBL := tm 617 (by decide +kernel) (by decide +kernel)
theorem ac_i : Cond.initialized "java/lang/System" ∈ TBL := tm 137 (by decide +kernel) (by decide +kernel)
theorem wi0 : ∀ w ∈ u_ws RX0 TX0 1, w ∈ TBL := by
  intro w hw
  have key : u_ws RX0 TX0 1 = [380].filterMap (fun i => lw_tbl[i]?) := by decide +kernel
  have hg : (u_ws RX0 TX0 1).all goodWord = true := by decide +kernel
  refine List.mem_filter.mpr ⟨?_, List.all_eq_true.mp hg w hw⟩
  rw [key] at hw
  obtain ⟨i, -, hi⟩ := List.mem_filterMap.mp hw
  exact List.mem_of_getElem? hi
theorem wi1 : ∀ w ∈ u_ws RX1 TX1 7, w ∈ TBL := by
  intro w hw
  have key : u_ws RX1 TX1 7 = [358, 360, 362, 364, 366, 368, 370].filterMap (fun i => lw_tbl[i]?) := by decide +kernel
  have hg : (u_ws RX1 TX1 7).all goodWord = true := by decide +kernel
  refine List.mem_filter.mpr ⟨?_, List.all_eq_true.mp hg w hw⟩
  rw [key] at hw
  obtain ⟨i, -, hi⟩ := List.mem_filterMap.mp hw
  exact List.mem_of_getElem? hi
theorem wi2 : ∀ w ∈ u_ws RX2 TX2 8, w ∈ TBL := by
  intro w hw
  have key : u_ws RX2 TX2 8 = [163, 165, 167, 169, 171, 173, 175, 177].filterMap (fun i => lw_tbl[i]?) := by decide +kernel
  have hg : (u_ws RX2 TX2 8).all goodWord = true := by decide +kernel
  refine List.mem_filter.mpr ⟨?_, List.all_eq_true.mp hg w hw⟩
  rw [key] at hw
  obtain ⟨i, -, hi⟩ := List.mem_filterMap.mp hw
  exact List.mem_of_getElem? hi
theorem wi3 : ∀ w ∈ u_ws RX3 TX3 4, w ∈ TBL := by
  intro w hw
  have key : u_ws RX3 TX3 4 = [329, 331, 333, 335].filterMap (fun i => lw_tbl[i]?) := by decide +kernel
  have hg : (u_ws RX3 TX3 4).all goodWord = true := by decide +kernel
  refine List.mem_filter.mpr ⟨?_, List.all_eq_true.mp hg w hw⟩
  rw [key] at hw
  obtain ⟨i, -, hi⟩ := List.mem_filterMap.mp hw
  exact List.mem_of_getElem? hi
theorem wi4 : ∀ w ∈ u_ws RX4 TX4 4, w ∈ TBL := by
  intro w hw
  have key : u_ws RX4 TX4 4 = [293, 295, 297, 299].filterMap (fun i => lw_tbl[i]?) := by decide +kernel
  have hg : (u_ws RX4 TX4 4).all goodWord = true := by decide +kernel
  refine List.mem_filter.mpr ⟨?_, List.all_eq_true.mp hg w hw⟩
  rw [key] at hw
  obtain ⟨i, -, hi⟩ := List.mem_filterMap.mp hw
  exact List.mem_of_getElem? hi
theorem wi5 : ∀ w ∈ u_ws RX5 TX5 1, w ∈ TBL := by
  intro w hw
  have key : u_ws RX5 TX5 1 = [312].filterMap (fun i => lw_tbl[i]?) := by decide +kernel
  have hg : (u_ws RX5 TX5 1).all goodWord = true := by decide +kernel
  refine List.mem_filter.mpr ⟨?_, List.all_eq_true.mp hg w hw⟩
  rw [key] at hw
  obtain ⟨i, -, hi⟩ := List.mem_filterMap.mp hw
  exact List.mem_of_getElem? hi
theorem wi6 : ∀ w ∈ u_ws RX6 TX6 14, w ∈ TBL := by
  intro w hw
  have key : u_ws RX6 TX6 14 = [243, 245, 247, 249, 251, 253, 255, 257, 259, 261, 263, 265, 267, 269].filterMap (fun i => lw_tbl[i]?) := by decide +kernel
  have hg : (u_ws RX6 TX6 14).all goodWord = true := by decide +kernel
  refine List.mem_filter.mpr ⟨?_, List.all_eq_true.mp hg w hw⟩
  rw [key] at hw
  obtain ⟨i, -, hi⟩ := List.mem_filterMap.mp hw
  exact List.mem_of_getElem? hi
theorem wi7 : ∀ w ∈ u_ws RX7 TX7 12, w ∈ TBL := by
  intro w hw
  have key : u_ws RX7 TX7 12 = [395, 397, 399, 401, 403, 405, 407, 409, 411, 413, 415, 417].filterMap (fun i => lw_tbl[i]?) := by decide +kernel
  have hg : (u_ws RX7 TX7 12).all goodWord = true := by decide +kernel
  refine List.mem_filter.mpr ⟨?_, List.all_eq_true.mp hg w hw⟩
  rw [key] at hw
  obtain ⟨i, -, hi⟩ := List.mem_filterMap.mp hw
  exact List.mem_of_getElem? hi
theorem wi8 : ∀ w ∈ u_ws RX8 TX8 34, w ∈ TBL := by
  intro w hw
  have key : u_ws RX8 TX8 34 = [1266, 1268, 1270, 1272, 1274, 1276, 1278, 1280, 1282, 1284, 1286, 1288, 1290, 1292, 1294, 1296, 1298, 1300, 1302, 1304, 1306, 1308, 1310, 1312, 1314, 1316, 1318, 1320, 1322, 1324, 1326, 1328, 1330, 1332].filterMap (fun i => lw_tbl[i]?) := by decide +kernel
  have hg : (u_ws RX8 TX8 34).all goodWord = true := by decide +kernel
  refine List.mem_filter.mpr ⟨?_, List.all_eq_true.mp hg w hw⟩
  rw [key] at hw
  obtain ⟨i, -, hi⟩ := List.mem_filterMap.mp hw
  exact List.mem_of_getElem? hi
end
section
def FU : Nat := 100000
theorem sh_0 : shp[0]? = some (.inr (.inl (7, [some 1, some 3, some 10, some 17, some 39, some 40, some 49, none, some 51, some 53, some 55, some 60]))) := rfl
theorem sh_1 : shp[1]? = some (.inr (.inl (2, [some 2, none, none, none, none, none, none, none]))) := rfl
theorem sh_2 : shp[2]? = some (.inl (2, 1600)) := rfl
theorem sh_3 : shp[3]? = some (.inr (.inl (6, [none, none, none, none, none, none, none, none, some 4, some 5, some 6, some 7, some 8, some 9]))) := rfl
theorem sh_4 : shp[4]? = some (.inl (0, 12)) := rfl
theorem sh_5 : shp[5]? = some (.inl (0, 12)) := rfl
theorem sh_6 : shp[6]? = some (.inl (0, 12)) := rfl
theorem sh_7 : shp[7]? = some (.inl (0, 12)) := rfl
theorem sh_8 : shp[8]? = some (.inl (0, 5)) := rfl
theorem sh_9 : shp[9]? = some (.inl (0, 5)) := rfl
theorem sh_10 : shp[10]? = some (.inr (.inl (6, [none, none, none, none, none, none, none, none, some 11, some 12, some 13, some 14, some 15, some 16]))) := rfl
theorem sh_11 : shp[11]? = some (.inl (0, 12)) := rfl
theorem sh_12 : shp[12]? = some (.inl (0, 12)) := rfl
theorem sh_13 : shp[13]? = some (.inl (0, 12)) := rfl
theorem sh_14 : shp[14]? = some (.inl (0, 12)) := rfl
theorem sh_15 : shp[15]? = some (.inl (0, 5)) := rfl
theorem sh_16 : shp[16]? = some (.inl (0, 5)) := rfl
theorem sh_17 : shp[17]? = some (.inr (.inr (4, [18, 25, 32]))) := rfl
theorem sh_18 : shp[18]? = some (.inr (.inl (6, [none, none, none, none, none, none, none, none, some 19, some 20, some 21, some 22, some 23, some 24]))) := rfl
theorem sh_19 : shp[19]? = some (.inl (0, 12)) := rfl
theorem sh_20 : shp[20]? = some (.inl (0, 12)) := rfl
theorem sh_21 : shp[21]? = some (.inl (0, 12)) := rfl
theorem sh_22 : shp[22]? = some (.inl (0, 12)) := rfl
theorem sh_23 : shp[23]? = some (.inl (0, 5)) := rfl
theorem sh_24 : shp[24]? = some (.inl (0, 5)) := rfl
theorem sh_25 : shp[25]? = some (.inr (.inl (6, [none, none, none, none, none, none, none, none, some 26, some 27, some 28, some 29, some 30, some 31]))) := rfl
theorem sh_26 : shp[26]? = some (.inl (0, 12)) := rfl
theorem sh_27 : shp[27]? = some (.inl (0, 12)) := rfl
theorem sh_28 : shp[28]? = some (.inl (0, 12)) := rfl
theorem sh_29 : shp[29]? = some (.inl (0, 12)) := rfl
theorem sh_30 : shp[30]? = some (.inl (0, 5)) := rfl
theorem sh_31 : shp[31]? = some (.inl (0, 5)) := rfl
theorem sh_32 : shp[32]? = some (.inr (.inl (6, [none, none, none, none, none, none, none, none, some 33, some 34, some 35, some 36, some 37, some 38]))) := rfl
theorem sh_33 : shp[33]? = some (.inl (0, 12)) := rfl
theorem sh_34 : shp[34]? = some (.inl (0, 12)) := rfl
theorem sh_35 : shp[35]? = some (.inl (0, 12)) := rfl
theorem sh_36 : shp[36]? = some (.inl (0, 12)) := rfl
theorem sh_37 : shp[37]? = some (.inl (0, 5)) := rfl
theorem sh_38 : shp[38]? = some (.inl (0, 5)) := rfl
theorem sh_39 : shp[39]? = some (.inl (1, 3)) := rfl
theorem sh_40 : shp[40]? = some (.inr (.inr (5, [41, 43, 45, 47]))) := rfl
theorem sh_41 : shp[41]? = some (.inr (.inl (4, [none, none, none, some 42]))) := rfl
theorem sh_42 : shp[42]? = some (.inl (3, 60)) := rfl
theorem sh_43 : shp[43]? = some (.inr (.inl (4, [none, none, none, some 44]))) := rfl
theorem sh_44 : shp[44]? = some (.inl (3, 60)) := rfl
theorem sh_45 : shp[45]? = some (.inr (.inl (4, [none, none, none, some 46]))) := rfl
theorem sh_46 : shp[46]? = some (.inl (3, 60)) := rfl
theorem sh_47 : shp[47]? = some (.inr (.inl (4, [none, none, none, some 48]))) := rfl
theorem sh_48 : shp[48]? = some (.inl (3, 60)) := rfl
theorem sh_49 : shp[49]? = some (.inr (.inl (5, [some 50]))) := rfl
theorem sh_50 : shp[50]? = some (.inl (0, 4096)) := rfl
theorem sh_51 : shp[51]? = some (.inr (.inl (5, [some 52]))) := rfl
theorem sh_52 : shp[52]? = some (.inl (0, 4096)) := rfl
theorem sh_53 : shp[53]? = some (.inr (.inl (3, [none, none, none, some 54]))) := rfl
theorem sh_54 : shp[54]? = some (.inl (0, 12)) := rfl
theorem sh_55 : shp[55]? = some (.inr (.inl (1, [none, none, none, some 56, some 57, some 58, some 59]))) := rfl
theorem sh_56 : shp[56]? = some (.inl (0, 12)) := rfl
theorem sh_57 : shp[57]? = some (.inl (0, 12)) := rfl
theorem sh_58 : shp[58]? = some (.inl (0, 5)) := rfl
theorem sh_59 : shp[59]? = some (.inl (0, 5)) := rfl
theorem sh_60 : shp[60]? = some (.inr (.inl (0, [some 61]))) := rfl
theorem sh_61 : shp[61]? = some (.inl (0, 16)) := rfl
theorem sh_62 : shp[62]? = some (.inr (.inl (8, [none, some 63, some 64, some 65, some 66, none, some 67, none, none, none, none, none, none, none, some 68, some 69, some 70, some 71, none, none, none, none, some 72, some 73, some 74, some 75, some 76, none, none, some 77, some 78, some 79, some 80, some 81]))) := rfl
theorem sh_63 : shp[63]? = some (.inl (0, 70)) := rfl
theorem sh_64 : shp[64]? = some (.inl (0, 210)) := rfl
theorem sh_65 : shp[65]? = some (.inl (1, 3)) := rfl
theorem sh_66 : shp[66]? = some (.inl (2, 1600)) := rfl
theorem sh_67 : shp[67]? = some (.inl (0, 5)) := rfl
theorem sh_68 : shp[68]? = some (.inl (0, 70)) := rfl
theorem sh_69 : shp[69]? = some (.inl (0, 8)) := rfl
theorem sh_70 : shp[70]? = some (.inl (1, 8)) := rfl
theorem sh_71 : shp[71]? = some (.inl (0, 8)) := rfl
theorem sh_72 : shp[72]? = some (.inl (1, 32)) := rfl
theorem sh_73 : shp[73]? = some (.inl (0, 12)) := rfl
theorem sh_74 : shp[74]? = some (.inl (0, 12)) := rfl
theorem sh_75 : shp[75]? = some (.inl (0, 5)) := rfl
theorem sh_76 : shp[76]? = some (.inl (0, 5)) := rfl
theorem sh_77 : shp[77]? = some (.inl (0, 4096)) := rfl
theorem sh_78 : shp[78]? = some (.inl (0, 4)) := rfl
theorem sh_79 : shp[79]? = some (.inl (0, 4)) := rfl
theorem sh_80 : shp[80]? = some (.inl (3, 240)) := rfl
theorem sh_81 : shp[81]? = some (.inl (3, 60)) := rfl
def sTab (t : Nat) : List (Option Nat) := [none, none, none, none, none, none, none, none, some (t + 1), some (t + 2), some (t + 3), some (t + 4), some (t + 5), some (t + 6)]
def isTab (t : Nat) : Prop := shp[t]? = some (.inr (.inl (6, sTab t))) ∧ shp[t + 1]? = some (.inl (0, 12)) ∧ shp[t + 2]? = some (.inl (0, 12)) ∧ shp[t + 3]? = some (.inl (0, 12)) ∧ shp[t + 4]? = some (.inl (0, 12)) ∧ shp[t + 5]? = some (.inl (0, 5)) ∧ shp[t + 6]? = some (.inl (0, 5))
def isRow (w : Nat) : Prop := shp[w]? = some (.inr (.inl (4, [none, none, none, some (w + 1)]))) ∧ shp[w + 1]? = some (.inl (3, 60))
def isShe (h : Nat) : Prop := shp[h]? = some (.inr (.inl (5, [some (h + 1)]))) ∧ shp[h + 1]? = some (.inl (0, 4096))
def imgp (i : Nat) : Nat := 18 + 7 * i
def rowp (i : Nat) : Nat := 41 + 2 * i
theorem imgp_ok : ∀ i, i < 3 → isTab (imgp i) := fun i hi => by
  have : i = 0 ∨ i = 1 ∨ i = 2 := by omega
  rcases this with rfl | rfl | rfl <;> exact ⟨rfl, rfl, rfl, rfl, rfl, rfl, rfl⟩
theorem rowp_ok : ∀ i, i < 4 → isRow (rowp i) := fun i hi => by
  have : i = 0 ∨ i = 1 ∨ i = 2 ∨ i = 3 := by omega
  rcases this with rfl | rfl | rfl | rfl <;> exact ⟨rfl, rfl⟩
theorem isTab_3 : isTab 3 := ⟨rfl, rfl, rfl, rfl, rfl, rfl, rfl⟩
theorem isTab_10 : isTab 10 := ⟨rfl, rfl, rfl, rfl, rfl, rfl, rfl⟩
theorem isTab_18 : isTab 18 := ⟨rfl, rfl, rfl, rfl, rfl, rfl, rfl⟩
theorem isTab_25 : isTab 25 := ⟨rfl, rfl, rfl, rfl, rfl, rfl, rfl⟩
theorem isTab_32 : isTab 32 := ⟨rfl, rfl, rfl, rfl, rfl, rfl, rfl⟩
theorem isRow_41 : isRow 41 := ⟨rfl, rfl⟩
theorem isRow_43 : isRow 43 := ⟨rfl, rfl⟩
theorem isRow_45 : isRow 45 := ⟨rfl, rfl⟩
theorem isRow_47 : isRow 47 := ⟨rfl, rfl⟩
theorem isShe_49 : isShe 49 := ⟨rfl, rfl⟩
theorem isShe_51 : isShe 51 := ⟨rfl, rfl⟩
theorem ar_X6_8 {t : Nat} (h : isTab t) : shp[t + 1]? = some (.inl (0, 12)) := h.2.1
theorem ar_X6_9 {t : Nat} (h : isTab t) : shp[t + 2]? = some (.inl (0, 12)) := h.2.2.1
theorem ar_X6_10 {t : Nat} (h : isTab t) : shp[t + 3]? = some (.inl (0, 12)) := h.2.2.2.1
theorem ar_X6_11 {t : Nat} (h : isTab t) : shp[t + 4]? = some (.inl (0, 12)) := h.2.2.2.2.1
theorem ar_X6_12 {t : Nat} (h : isTab t) : shp[t + 5]? = some (.inl (0, 5)) := h.2.2.2.2.2.1
theorem ar_X6_13 {t : Nat} (h : isTab t) : shp[t + 6]? = some (.inl (0, 5)) := h.2.2.2.2.2.2
theorem ar_X4_3 {w : Nat} (h : isRow w) : shp[w + 1]? = some (.inl (3, 60)) := h.2
theorem ar_X5_0 {h : Nat} (q : isShe h) : shp[h + 1]? = some (.inl (0, 4096)) := q.2
theorem ww_rip {G : GT} {X : CT} {cc : ByteArray} {nL : Nat} {σ : St} {lv : List (Nat × Value)} {pc : Nat} {x r : Int32} (hE : ∀ (lv : List (Nat × Value)) (pc : Nat), decode cc pc = .ok (.ireturn, 1) → WW G X nL σ lv pc [.int r]) (hdg : decode cc pc = .ok (.ireturn, 1)) (hF : some x = some r) : WW G X nL σ lv pc [.int x] := by
  cases hF
  exact hE lv pc hdg
theorem ww_ris {G : GT} {X : CT} {cc : ByteArray} {nL : Nat} {σ : St} {lv : List (Nat × Value)} {pc : Nat} {x r : Int32} {σo : St} (hE : ∀ (lv : List (Nat × Value)) (pc : Nat), decode cc pc = .ok (.ireturn, 1) → WW G X nL σo lv pc [.int r]) (hdg : decode cc pc = .ok (.ireturn, 1)) (hF : some (x, σ) = some (r, σo)) : WW G X nL σ lv pc [.int x] := by
  cases hF
  exact hE lv pc hdg
theorem ww_rzp {G : GT} {X : CT} {cc : ByteArray} {nL : Nat} {σ : St} {lv : List (Nat × Value)} {pc : Nat} {x r : Int32} (hE : ∀ (lv : List (Nat × Value)) (pc : Nat), decode cc pc = .ok (.ireturn, 1) → (r = 0 ∨ r = 1) → WW G X nL σ lv pc [.int r]) (hdg : decode cc pc = .ok (.ireturn, 1)) (hF : gd (x = 0 ∨ x = 1) (some x) = some r) : WW G X nL σ lv pc [.int x] := by
  obtain ⟨hz, hF⟩ := gd_some hF
  cases hF
  exact hE lv pc hdg hz
theorem ww_rzs {G : GT} {X : CT} {cc : ByteArray} {nL : Nat} {σ : St} {lv : List (Nat × Value)} {pc : Nat} {x r : Int32} {σo : St} (hE : ∀ (lv : List (Nat × Value)) (pc : Nat), decode cc pc = .ok (.ireturn, 1) → (r = 0 ∨ r = 1) → WW G X nL σo lv pc [.int r]) (hdg : decode cc pc = .ok (.ireturn, 1)) (hF : gd (x = 0 ∨ x = 1) (some (x, σ)) = some (r, σo)) : WW G X nL σ lv pc [.int x] := by
  obtain ⟨hz, hF⟩ := gd_some hF
  cases hF
  exact hE lv pc hdg hz
theorem ww_rlp {G : GT} {X : CT} {cc : ByteArray} {nL : Nat} {σ : St} {lv : List (Nat × Value)} {pc : Nat} {x r : Int64} (hE : ∀ (lv : List (Nat × Value)) (pc : Nat), decode cc pc = .ok (.lreturn, 1) → WW G X nL σ lv pc [.long r]) (hdg : decode cc pc = .ok (.lreturn, 1)) (hF : some x = some r) : WW G X nL σ lv pc [.long x] := by
  cases hF
  exact hE lv pc hdg
theorem ww_rvs {G : GT} {X : CT} {cc : ByteArray} {nL : Nat} {σ : St} {lv : List (Nat × Value)} {pc : Nat} {σo : St} (hE : ∀ (lv : List (Nat × Value)) (pc : Nat), decode cc pc = .ok (.return_, 1) → WW G X nL σo lv pc []) (hdg : decode cc pc = .ok (.return_, 1)) (hF : some σ = some σo) : WW G X nL σ lv pc [] := by
  cases hF
  exact hE lv pc hdg
theorem ww_ras {G : GT} {X : CT} {cc : ByteArray} {nL : Nat} {σ : St} {lv : List (Nat × Value)} {pc : Nat} {b : Nat} {σo : St} (hE : ∀ (lv : List (Nat × Value)) (pc : Nat), decode cc pc = .ok (.areturn, 1) → WW G X nL σo lv pc [.ref b]) (hdg : decode cc pc = .ok (.areturn, 1)) (hF : some σ = some σo) : WW G X nL σ lv pc [.ref b] := by
  cases hF
  exact hE lv pc hdg
theorem ww_tsIn {G : GT} {X : CT} {own : String} {cc : ByteArray} {nL n : Nat} {σ : St} {lv : List (Nat × Value)} {pc : Nat} {st : List Value} {dflt lo hi : Int} {offs : Array Int} {len : Nat} {x v : Int32} {off : Int} {tgt : Nat} (cx : Cx G X own cc nL n) (hdg : decode cc pc = .ok (.tableswitch dflt lo hi offs, len)) (h : x = v) (h1 : ¬ v.toInt < lo) (h2 : ¬ hi < v.toInt) (ho : offs[(v.toInt - lo).toNat]? = some off) (ht : (pc : Int) + off = (tgt : Int)) (k : WW G X nL σ lv tgt st) : WW G X nL σ lv pc (.int x :: st) := by
  subst h
  obtain ⟨p, e, R, s, m, args, below, meth, c, Q, A, ck, sk⟩ := X
  obtain ⟨hx, hb, hml, hown, hts, hG, hA, hck, hlm⟩ := cx
  intro H locs ls hl hP hS
  exact lv_tableIn hx hb hdg h1 h2 ho ht (k H locs ls hl hP hS)
theorem ww_tsOut {G : GT} {X : CT} {own : String} {cc : ByteArray} {nL n : Nat} {σ : St} {lv : List (Nat × Value)} {pc : Nat} {st : List Value} {dflt lo hi : Int} {offs : Array Int} {len : Nat} {x : Int32} {tgt : Nat} (cx : Cx G X own cc nL n) (hdg : decode cc pc = .ok (.tableswitch dflt lo hi offs, len)) (h : x.toInt < lo ∨ hi < x.toInt) (ht : (pc : Int) + dflt = (tgt : Int)) (k : WW G X nL σ lv tgt st) : WW G X nL σ lv pc (.int x :: st) := by
  obtain ⟨p, e, R, s, m, args, below, meth, c, Q, A, ck, sk⟩ := X
  obtain ⟨hx, hb, hml, hown, hts, hG, hA, hck, hlm⟩ := cx
  intro H locs ls hl hP hS
  exact lv_tableOut hx hb hdg h ht (k H locs ls hl hP hS)
theorem ww_lsIn {G : GT} {X : CT} {own : String} {cc : ByteArray} {nL n : Nat} {σ : St} {lv : List (Nat × Value)} {pc : Nat} {st : List Value} {dflt : Int} {ps : Array (Int × Int)} {len : Nat} {x v : Int32} {off : Int} {tgt : Nat} (cx : Cx G X own cc nL n) (hdg : decode cc pc = .ok (.lookupswitch dflt ps, len)) (h : x = v) (hp : (ps.toList.zip (ps.toList.drop 1)).all (fun (a, next) => a.1 < next.1) = true) (ho : Op.lookupswitch.offset ps.toList dflt v.toInt = off) (ht : (pc : Int) + off = (tgt : Int)) (k : WW G X nL σ lv tgt st) : WW G X nL σ lv pc (.int x :: st) := by
  subst h
  obtain ⟨p, e, R, s, m, args, below, meth, c, Q, A, ck, sk⟩ := X
  obtain ⟨hx, hb, hml, hown, hts, hG, hA, hck, hlm⟩ := cx
  intro H locs ls hl hP hS
  exact lv_lookup hx hb hdg hp ho ht (k H locs ls hl hP hS)
theorem ww_lsOut {G : GT} {X : CT} {own : String} {cc : ByteArray} {nL n : Nat} {σ : St} {lv : List (Nat × Value)} {pc : Nat} {st : List Value} {dflt : Int} {ps : Array (Int × Int)} {len : Nat} {x : Int32} {tgt : Nat} (cx : Cx G X own cc nL n) (hdg : decode cc pc = .ok (.lookupswitch dflt ps, len)) (hp : (ps.toList.zip (ps.toList.drop 1)).all (fun (a, next) => a.1 < next.1) = true) (ho : Op.lookupswitch.offset ps.toList dflt x.toInt = dflt) (ht : (pc : Int) + dflt = (tgt : Int)) (k : WW G X nL σ lv tgt st) : WW G X nL σ lv pc (.int x :: st) := by
  obtain ⟨p, e, R, s, m, args, below, meth, c, Q, A, ck, sk⟩ := X
  obtain ⟨hx, hb, hml, hown, hts, hG, hA, hck, hlm⟩ := cx
  intro H locs ls hl hP hS
  exact lv_lookup hx hb hdg hp ho ht (k H locs ls hl hP hS)
theorem i32_ne {x y : Int32} (h : ¬ x = y) : x.toInt ≠ y.toInt := fun e => h (Int32.toInt_inj.mp e)
theorem ls_out2 {x v0 v1 : Int32} {k0 k1 dflt o0 o1 : Int} (h0 : ¬ x = v0) (h1 : ¬ x = v1) (e0 : v0.toInt = k0 := by decide) (e1 : v1.toInt = k1 := by decide) : Op.lookupswitch.offset [(k0, o0), (k1, o1)] dflt x.toInt = dflt := by
  have a0 := i32_ne h0
  have a1 := i32_ne h1
  rw [e0] at a0
  rw [e1] at a1
  rw [Op.lookupswitch.offset_cons, if_neg (fun h => a0 h.symm), Op.lookupswitch.offset_cons, if_neg (fun h => a1 h.symm), Op.lookupswitch.offset_nil]
theorem ts_out3 {x : Int32} (h0 : ¬ x = 0) (h1 : ¬ x = 1) (h2 : ¬ x = 2) : x.toInt < 0 ∨ 2 < x.toInt := by
  have a0 := i32_ne h0
  rw [show ((0 : Int32)).toInt = 0 from by decide] at a0
  have a1 := i32_ne h1
  rw [show ((1 : Int32)).toInt = 1 from by decide] at a1
  have a2 := i32_ne h2
  rw [show ((2 : Int32)).toInt = 2 from by decide] at a2
  omega
theorem ts_out9 {x : Int32} (h0 : ¬ x = 0) (h1 : ¬ x = 1) (h2 : ¬ x = 2) (h3 : ¬ x = 3) (h4 : ¬ x = 4) (h5 : ¬ x = 5) (h6 : ¬ x = 6) (h7 : ¬ x = 7) (h8 : ¬ x = 8) : x.toInt < 0 ∨ 8 < x.toInt := by
  have a0 := i32_ne h0
  rw [show ((0 : Int32)).toInt = 0 from by decide] at a0
  have a1 := i32_ne h1
  rw [show ((1 : Int32)).toInt = 1 from by decide] at a1
  have a2 := i32_ne h2
  rw [show ((2 : Int32)).toInt = 2 from by decide] at a2
  have a3 := i32_ne h3
  rw [show ((3 : Int32)).toInt = 3 from by decide] at a3
  have a4 := i32_ne h4
  rw [show ((4 : Int32)).toInt = 4 from by decide] at a4
  have a5 := i32_ne h5
  rw [show ((5 : Int32)).toInt = 5 from by decide] at a5
  have a6 := i32_ne h6
  rw [show ((6 : Int32)).toInt = 6 from by decide] at a6
  have a7 := i32_ne h7
  rw [show ((7 : Int32)).toInt = 7 from by decide] at a7
  have a8 := i32_ne h8
  rw [show ((8 : Int32)).toInt = 8 from by decide] at a8
  omega
theorem ww_mmax {G : GT} {X : CT} {own : String} {cc : ByteArray} {nL n : Nat} {σ : St} {lv : List (Nat × Value)} {pc : Nat} {st : List Value} {ix : Nat} {x y : Int32} (cx : Cx G X own cc nL n) (hw : Cond.methodLink own ix Lib.Math.max.name ∈ TBL) (hn : 1 ≤ n) (hst : (st.map fun v => v.category).sum ≤ 8) (hdg : decode cc pc = .ok (.invokestatic ix, 3)) (k : WW G X nL σ lv (pc + 3) (.int (if x < y then y else x) :: st)) : WW G X nL σ lv pc (.int y :: .int x :: st) := by
  obtain ⟨p, e, R, s, m, args, below, meth, c, Q, A, ck, sk⟩ := X
  obtain ⟨hx, hb, hml, hown, hts, hG, hA, hck, hlm⟩ := cx
  intro H locs ls hl hP hS
  exact va_mmax hx hb (by rw [hl.1]; exact hml) hown (hts _ hw) (hts _ mm_max_s) (hts _ mm_i) (hts _ mm_max_c) (by omega) (by omega) hck.1 hck.2 hdg (k H locs ls hl hP hS)
theorem ww_mmin {G : GT} {X : CT} {own : String} {cc : ByteArray} {nL n : Nat} {σ : St} {lv : List (Nat × Value)} {pc : Nat} {st : List Value} {ix : Nat} {x y : Int32} (cx : Cx G X own cc nL n) (hw : Cond.methodLink own ix Lib.Math.min.name ∈ TBL) (hn : 1 ≤ n) (hst : (st.map fun v => v.category).sum ≤ 8) (hdg : decode cc pc = .ok (.invokestatic ix, 3)) (k : WW G X nL σ lv (pc + 3) (.int (if y < x then y else x) :: st)) : WW G X nL σ lv pc (.int y :: .int x :: st) := by
  obtain ⟨p, e, R, s, m, args, below, meth, c, Q, A, ck, sk⟩ := X
  obtain ⟨hx, hb, hml, hown, hts, hG, hA, hck, hlm⟩ := cx
  intro H locs ls hl hP hS
  exact va_mmin hx hb (by rw [hl.1]; exact hml) hown (hts _ hw) (hts _ mm_min_s) (hts _ mm_i) (hts _ mm_min_c) (by omega) (by omega) hck.1 hck.2 hdg (k H locs ls hl hP hS)
def cpok (sp dp n : Int32) (N0 N1 : Nat) : Prop := 0 ≤ sp.toInt ∧ 0 ≤ dp.toInt ∧ 0 ≤ n.toInt ∧ sp.toInt + n.toInt ≤ (N0 : Int) ∧ dp.toInt + n.toInt ≤ (N1 : Int)
abbrev cpokD (sp dp n : Int32) (N0 N1 : Nat) : Prop := 0 ≤ sp.toInt ∧ 0 ≤ dp.toInt ∧ 0 ≤ n.toInt ∧ sp.toInt + n.toInt ≤ (N0 : Int) ∧ dp.toInt + n.toInt ≤ (N1 : Int)
def cpyI (σ : St) (q0 q1 sp dp n : Nat) : St := (fun a => if a = q1 then va_cpy (σ.1 q0) (σ.1 q1) sp dp n else σ.1 a, σ.2)
def cpyJ (σ : St) (q0 q1 sp dp n : Nat) : St := (σ.1, fun a => if a = q1 then va_cpy (σ.2 q0) (σ.2 q1) sp dp n else σ.2 a)
theorem clamp_toInt {x : Int32} (h : 0 ≤ x.toInt) : (x.toNatClampNeg : Int) = x.toInt := by
  unfold Int32.toNatClampNeg
  exact Int.toNat_of_nonneg h
theorem nlt0 {x : Int32} (h : 0 ≤ x.toInt) : ¬ x < 0 := by
  rw [Int32.lt_iff_toInt_lt, Int32.toInt_zero]
  omega
theorem ww_copyI {G : GT} {X : CT} {own : String} {cc : ByteArray} {nL nn : Nat} {σ : St} {lv : List (Nat × Value)} {pc : Nat} {st : List Value} {ix q0 q1 N0 N1 : Nat} {sp dp n : Int32} {β : Type} {F : St → Option β} {o : β} (cx : Cx G X own cc nL nn) (hw : Cond.methodLink own ix arraycopyName ∈ TBL) (h0 : shp[q0]? = some (.inl (0, N0))) (h1 : shp[q1]? = some (.inl (0, N1))) (hn : 1 ≤ nn) (hst : (st.map fun v => v.category).sum ≤ 8) (hdg : decode cc pc = .ok (.invokestatic ix, 3)) (hF : gd (cpokD sp dp n N0 N1) (lt (cpyI σ q0 q1 sp.toNatClampNeg dp.toNatClampNeg n.toNatClampNeg) F) = some o) (k : ∀ σ1 : St, F σ1 = some o → WW G X nL σ1 lv (pc + 3) st) : WW G X nL σ lv pc (.int n :: .int dp :: .ref (gad G q1) :: .int sp :: .ref (gad G q0) :: st) := by
  obtain ⟨p, e, R, s, m, args, below, meth, c, Q, A, ck, sk⟩ := X
  obtain ⟨hx, hb, hml, hown, hts, hG, hA, hck, hlm⟩ := cx
  intro H locs ls hl hP hS
  obtain ⟨⟨g1, g2, g3, g4, g5⟩, hF⟩ := gd_some hF
  have c1 := clamp_toInt g1
  have c2 := clamp_toInt g2
  have c3 := clamp_toInt g3
  have hnw : nativeFrameWords "java/lang/System" "arraycopy" 5 + 11 ≤ 50 := by decide +kernel
  refine va_copyi hx hb (by rw [hl.1]; exact hml) hown (hts _ hw) (hts _ ac_n) (hts _ ac_s) (hts _ ac_i) hG.1 hP (hG.2.1 σ) hS q0 q1 0 0 (c0 := gca G 0) (c1 := gca G 0) (n0 := N0) (n1 := N1) (f := σ.1 q0) (g := σ.1 q1) (ty := .int) (wld_at h0) (wld_at h1) rfl rfl rfl (nlt0 g1) (nlt0 g2) (nlt0 g3) (by omega) (by omega) (fun _ _ => rfl) (by omega) (by omega) hdg (fun H1 locs1 hP1 _ hS1 => k _ hF H1 locs1 ls hl ?_ hS1)
  rw [wld_set (σ' := cpyI σ q0 q1 sp.toNatClampNeg dp.toNatClampNeg n.toNatClampNeg) h1 (by simp [cel, cpyI]) (fun q hq => by simp [cpyI, hq])] at hP1
  exact hP1
theorem ww_copyJ {G : GT} {X : CT} {own : String} {cc : ByteArray} {nL nn : Nat} {σ : St} {lv : List (Nat × Value)} {pc : Nat} {st : List Value} {ix q0 q1 N0 N1 : Nat} {sp dp n : Int32} {β : Type} {F : St → Option β} {o : β} (cx : Cx G X own cc nL nn) (hw : Cond.methodLink own ix arraycopyName ∈ TBL) (h0 : shp[q0]? = some (.inl (3, N0))) (h1 : shp[q1]? = some (.inl (3, N1))) (hn : 1 ≤ nn) (hst : (st.map fun v => v.category).sum ≤ 8) (hdg : decode cc pc = .ok (.invokestatic ix, 3)) (hF : gd (cpokD sp dp n N0 N1) (lt (cpyJ σ q0 q1 sp.toNatClampNeg dp.toNatClampNeg n.toNatClampNeg) F) = some o) (k : ∀ σ1 : St, F σ1 = some o → WW G X nL σ1 lv (pc + 3) st) : WW G X nL σ lv pc (.int n :: .int dp :: .ref (gad G q1) :: .int sp :: .ref (gad G q0) :: st) := by
  obtain ⟨p, e, R, s, m, args, below, meth, c, Q, A, ck, sk⟩ := X
  obtain ⟨hx, hb, hml, hown, hts, hG, hA, hck, hlm⟩ := cx
  intro H locs ls hl hP hS
  obtain ⟨⟨g1, g2, g3, g4, g5⟩, hF⟩ := gd_some hF
  have c1 := clamp_toInt g1
  have c2 := clamp_toInt g2
  have c3 := clamp_toInt g3
  have hnw : nativeFrameWords "java/lang/System" "arraycopy" 5 + 11 ≤ 50 := by decide +kernel
  refine va_copyl hx hb (by rw [hl.1]; exact hml) hown (hts _ hw) (hts _ ac_n) (hts _ ac_s) (hts _ ac_i) hG.1 hP (hG.2.1 σ) hS q0 q1 3 3 (c0 := gca G 3) (c1 := gca G 3) (n0 := N0) (n1 := N1) (f := σ.2 q0) (g := σ.2 q1) (ty := .long) (wld_at h0) (wld_at h1) rfl rfl rfl (nlt0 g1) (nlt0 g2) (nlt0 g3) (by omega) (by omega) (fun _ _ => rfl) (by omega) (by omega) hdg (fun H1 locs1 hP1 _ hS1 => k _ hF H1 locs1 ls hl ?_ hS1)
  rw [wld_set (σ' := cpyJ σ q0 q1 sp.toNatClampNeg dp.toNatClampNeg n.toNatClampNeg) h1 (by simp [cel, cpyJ]) (fun q hq => by simp [cpyJ, hq])] at hP1
  exact hP1
theorem img_r (j : Nat) (hj : j < [18, 25, 32].length) : [18, 25, 32][j]? = some (imgp j) := by
  have h2 : j < 3 := hj
  have : j = 0 ∨ j = 1 ∨ j = 2 := by omega
  rcases this with rfl | rfl | rfl <;> rfl
theorem row_r (j : Nat) (hj : j < [41, 43, 45, 47].length) : [41, 43, 45, 47][j]? = some (rowp j) := by
  have h2 : j < 4 := hj
  have : j = 0 ∨ j = 1 ∨ j = 2 ∨ j = 3 := by omega
  rcases this with rfl | rfl | rfl | rfl <;> rfl
theorem ww_aaldT {G : GT} {X : CT} {own : String} {cc : ByteArray} {nL n : Nat} {σ : St} {lv : List (Nat × Value)} {pc : Nat} {st : List Value} {i : Int32} {β : Type} {F : Nat → Option β} {o : β} (cx : Cx G X own cc nL n) (hdg : decode cc pc = .ok (.aaload, 1)) (hF : gd (ir i 3) (lt (imgp i.toNatClampNeg) F) = some o) (k : ∀ k : Nat, isTab k → F k = some o → WW G X nL σ lv (pc + 1) (.ref (gad G k) :: st)) : WW G X nL σ lv pc (.int i :: .ref (gad G 17) :: st) :=
  ww_aald (C := RX6) (f := imgp) (fun _ => rfl) img_r cx sh_17 hdg hF (fun h hF => k _ (imgp_ok _ h) hF)
theorem ww_aaldR {G : GT} {X : CT} {own : String} {cc : ByteArray} {nL n : Nat} {σ : St} {lv : List (Nat × Value)} {pc : Nat} {st : List Value} {i : Int32} {β : Type} {F : Nat → Option β} {o : β} (cx : Cx G X own cc nL n) (hdg : decode cc pc = .ok (.aaload, 1)) (hF : gd (ir i 4) (lt (rowp i.toNatClampNeg) F) = some o) (k : ∀ k : Nat, isRow k → F k = some o → WW G X nL σ lv (pc + 1) (.ref (gad G k) :: st)) : WW G X nL σ lv pc (.int i :: .ref (gad G 40) :: st) :=
  ww_aald (C := RX4) (f := rowp) (fun _ => rfl) row_r cx sh_40 hdg hF (fun h hF => k _ (rowp_ok _ h) hF)
theorem ww_ldcw {G : GT} {X : CT} {own : String} {cc : ByteArray} {nL n : Nat} {σ : St} {lv : List (Nat × Value)} {pc : Nat} {st : List Value} {ix : Nat} {v : Int32} (cx : Cx G X own cc nL n) (hdg : decode cc pc = .ok (.ldc_w ix, 3)) (hw : Cond.constant own ix v ∈ TBL) (k : WW G X nL σ lv (pc + 3) (.int v :: st)) : WW G X nL σ lv pc (st) := by
  obtain ⟨p, e, R, s, m, args, below, meth, c, Q, A, ck, sk⟩ := X
  obtain ⟨hx, hb, hml, hown, hts, hG, hA, hck, hlm⟩ := cx
  intro H locs ls hl hP hS
  exact lv_ldcw hx hb hown (hts _ hw) hdg (k H locs ls hl hP hS)
theorem ww_ldcS {G : GT} {X : CT} {own : String} {cc : ByteArray} {nL n : Nat} {σ : St} {lv : List (Nat × Value)} {pc : Nat} {st : List Value} {ix w : Nat} {tx : String} (cx : Cx G X own cc nL n) (hm : (own, ix, tx, w) ∈ sldc) (hdg : decode cc pc = .ok (.ldc ix, 2)) (k : WW G X nL σ lv (pc + 2) (.ref (gsk G w) :: st)) : WW G X nL σ lv pc st := by
  obtain ⟨p, e, R, s, m, args, below, meth, c, Q, A, ck, sk⟩ := X
  obtain ⟨hx, hb, hml, hown, hts, hG, hA, hck, hlm⟩ := cx
  intro H locs ls hl hP hS
  exact va_ldcS hx hb hown (hG.2.2.2.2.1 _ hm) hdg (k H locs ls hl hP hS)
def slenI (w : Nat) : Int32 := nI (slen.getD w 0)
def scha (w k : Nat) : Int32 := (((sbyt.getD w []).getD k 0 &&& 255).toUInt32 % 65536).toInt32
def CallN (y : MethodName) (b : ByteArray) (nL : Nat) (rt : Option FieldType) (na : Nat) : Prop :=
  Cond.static y ∈ TBL ∧ Cond.initialized y.cls ∈ TBL ∧ Cond.code y b nL rt ∈ TBL ∧ (y.cls ≠ "java/lang/invoke/MethodHandle" ∧ y.cls ≠ "java/lang/invoke/VarHandle" ∧ (parseMethodDescriptor y.desc).map (fun d => d.parameters.length) = some na)
theorem callN_of {y : MethodName} {b : ByteArray} {nL : Nat} {rt : Option FieldType} {na : Nat} (h2 : Cond.static y ∈ TBL) (h4 : Cond.initialized y.cls ∈ TBL) (h5 : Cond.code y b nL rt ∈ TBL) (hd : y.cls ≠ "java/lang/invoke/MethodHandle" ∧ y.cls ≠ "java/lang/invoke/VarHandle" ∧ (parseMethodDescriptor y.desc).map (fun d => d.parameters.length) = some na) : CallN y b nL rt na := ⟨h2, h4, h5, hd⟩

theorem ww_N1_pi {G : GT} {X : CT} {cc : ByteArray} {nL n : Nat} {σ : St} {lv : List (Nat × Value)} {pc : Nat} {st : List Value} {k nL' : Nat} {b : ByteArray} {rt : Option FieldType} {v0 : Value} {β : Type} {F : Option Int32} {K : Int32 → Option β} {o : β} (hC : CallN yX7_lowestBit b nL' rt 1) (cx : Cx G X RX5 cc nL n) (hk : k + 1 ≤ n ∧ nL' ≤ 45) (hst : (st.map fun v => v.category).sum ≤ 8) (hdg : decode cc pc = .ok (.invokestatic 31, 3)) (hM : ∀ r : Int32, F = some r → MCt G k yX7_lowestBit b nL' rt [v0] σ (some (.int r)) σ) (hF : bp F K = some o) (kk : ∀ r : Int32, K r = some o → WW G X nL σ lv (pc + 3) (.int r :: st)) : WW G X nL σ lv pc (v0 :: st) := by
  obtain ⟨r, h1, h2⟩ := bp_some hF
  obtain ⟨p, e, R, s, m, args, below, meth, c, Q, A, ck, sk⟩ := X
  obtain ⟨hx, hb, hml, hown, hts, hG, hA, hck, hlv⟩ := cx
  obtain ⟨c2, c3, c4, c5⟩ := hC
  intro H locs ls hl hP hS
  exact ww_back (rv := some (.int r)) (va_runSN (As := [v0]) (rest := st) ⟨hx, hb, hml, hown, hts⟩ (hM r h1 H.size) ⟨va_cnB 1 hts (fun w hw => (List.mem_cons.mp hw).elim (fun h => by rw [h]; exact tg c4) (fun h => tg h)) rfl rfl rfl hG.2.2.1 (hts _ c3) c5 ⟨by simp only [rmL]; omega, by simp only [rmL]; omega⟩, hts _ c2, trivial⟩ ⟨pc_blind, pc_at hG hA hP hS⟩ rfl rfl hl.1 rfl (lv_room8 hst) hdg hck) hS (va_A_sub hG hA hS) (fun H1 locs1 hP1 hS1 => kk r h2 H1 locs1 ls hl hP1 hS1)
end
section
theorem sfl_9 : Cond.fieldLink RJ0 9 "java/lang/String" "value" "[B" ∈ TBL := tm 2014 (by decide +kernel) (by decide +kernel)
theorem sfl_15 : Cond.fieldLink RJ0 15 "java/lang/String" "coder" "B" ∈ TBL := tm 2015 (by decide +kernel) (by decide +kernel)
theorem sfl_38 : Cond.fieldLink RJ0 38 "java/lang/String" "COMPACT_STRINGS" "Z" ∈ TBL := tm 481 (by decide +kernel) (by decide +kernel)
theorem sfl_1053 : Cond.fieldLink RJ0 1053 "jdk/internal/util/Preconditions" "SIOOBE_FORMATTER" "Ljava/util/function/BiFunction;" ∈ TBL := tm 497 (by decide +kernel) (by decide +kernel)
theorem co_J0_coder_7d493 : Cond.code yJ0_coder_7d493 cJ0_coder_7d493 1 (some .byte) ∈ TBL := tm 480 (by decide +kernel) (by decide +kernel)
theorem sin_J0_coder_7d493 : Cond.initialized RJ0 ∈ TBL := tm 132 (by decide +kernel) (by decide +kernel)
theorem im_J0_coder_7d493 : Cond.instanceMethod yJ0_coder_7d493 ∈ TBL := tm 478 (by decide +kernel) (by decide +kernel)
theorem se_J0_coder_7d493 : Cond.selects RJ0 yJ0_coder_7d493 yJ0_coder_7d493 ∈ TBL := tm 479 (by decide +kernel) (by decide +kernel)
theorem ml_J0_335 : Cond.methodLink RJ0 335 yJ0_coder_7d493 ∈ TBL := tm 477 (by decide +kernel) (by decide +kernel)
theorem kv_J0_335 : CallV RJ0 335 RJ0 yJ0_coder_7d493 cJ0_coder_7d493 1 (some .byte) 0 := callV_of ml_J0_335 im_J0_coder_7d493 se_J0_coder_7d493 sin_J0_coder_7d493 co_J0_coder_7d493 (by decide +kernel)
theorem co_J0_isLatin1_aae02 : Cond.code yJ0_isLatin1_aae02 cJ0_isLatin1_aae02 1 (some .boolean) ∈ TBL := tm 490 (by decide +kernel) (by decide +kernel)
theorem sin_J0_isLatin1_aae02 : Cond.initialized RJ0 ∈ TBL := tm 132 (by decide +kernel) (by decide +kernel)
theorem im_J0_isLatin1_aae02 : Cond.instanceMethod yJ0_isLatin1_aae02 ∈ TBL := tm 488 (by decide +kernel) (by decide +kernel)
theorem se_J0_isLatin1_aae02 : Cond.selects RJ0 yJ0_isLatin1_aae02 yJ0_isLatin1_aae02 ∈ TBL := tm 489 (by decide +kernel) (by decide +kernel)
theorem ml_J0_492 : Cond.methodLink RJ0 492 yJ0_isLatin1_aae02 ∈ TBL := tm 487 (by decide +kernel) (by decide +kernel)
theorem kv_J0_492 : CallV RJ0 492 RJ0 yJ0_isLatin1_aae02 cJ0_isLatin1_aae02 1 (some .boolean) 0 := callV_of ml_J0_492 im_J0_isLatin1_aae02 se_J0_isLatin1_aae02 sin_J0_isLatin1_aae02 co_J0_isLatin1_aae02 (by decide +kernel)
theorem co_J3_checkIndex_8e157 : Cond.code yJ3_checkIndex_8e157 cJ3_checkIndex_8e157 3 (some .int) ∈ TBL := tm 501 (by decide +kernel) (by decide +kernel)
theorem sin_J3_checkIndex_8e157 : Cond.initialized RJ3 ∈ TBL := tm 134 (by decide +kernel) (by decide +kernel)
theorem sc_J3_checkIndex_8e157 : Cond.static yJ3_checkIndex_8e157 ∈ TBL := tm 500 (by decide +kernel) (by decide +kernel)
theorem ml_J0_1059 : Cond.methodLink RJ0 1059 yJ3_checkIndex_8e157 ∈ TBL := tm 499 (by decide +kernel) (by decide +kernel)
theorem kv_J0_1059 : CallS RJ0 1059 yJ3_checkIndex_8e157 cJ3_checkIndex_8e157 3 (some .int) 3 := callS_of ml_J0_1059 sc_J3_checkIndex_8e157 sin_J3_checkIndex_8e157 co_J3_checkIndex_8e157 (by decide +kernel)
theorem co_J0_checkIndex_df160 : Cond.code yJ0_checkIndex_df160 cJ0_checkIndex_df160 2 (none) ∈ TBL := tm 496 (by decide +kernel) (by decide +kernel)
theorem sin_J0_checkIndex_df160 : Cond.initialized RJ0 ∈ TBL := tm 132 (by decide +kernel) (by decide +kernel)
theorem sc_J0_checkIndex_df160 : Cond.static yJ0_checkIndex_df160 ∈ TBL := tm 495 (by decide +kernel) (by decide +kernel)
theorem ml_J1_9 : Cond.methodLink RJ1 9 yJ0_checkIndex_df160 ∈ TBL := tm 494 (by decide +kernel) (by decide +kernel)
theorem kv_J1_9 : CallS RJ1 9 yJ0_checkIndex_df160 cJ0_checkIndex_df160 2 (none) 2 := callS_of ml_J1_9 sc_J0_checkIndex_df160 sin_J0_checkIndex_df160 co_J0_checkIndex_df160 (by decide +kernel)
theorem co_J1_charAt_3b067 : Cond.code yJ1_charAt_3b067 cJ1_charAt_3b067 2 (some .char) ∈ TBL := tm 493 (by decide +kernel) (by decide +kernel)
theorem sin_J1_charAt_3b067 : Cond.initialized RJ1 ∈ TBL := tm 133 (by decide +kernel) (by decide +kernel)
theorem sc_J1_charAt_3b067 : Cond.static yJ1_charAt_3b067 ∈ TBL := tm 492 (by decide +kernel) (by decide +kernel)
theorem ml_J0_495 : Cond.methodLink RJ0 495 yJ1_charAt_3b067 ∈ TBL := tm 491 (by decide +kernel) (by decide +kernel)
theorem kv_J0_495 : CallS RJ0 495 yJ1_charAt_3b067 cJ1_charAt_3b067 2 (some .char) 2 := callS_of ml_J0_495 sc_J1_charAt_3b067 sin_J1_charAt_3b067 co_J1_charAt_3b067 (by decide +kernel)
theorem met_n {G : GT} {k : Nat} {y : MethodName} {b : ByteArray} {nL : Nat} {as : List Value} {σ : St} {r : Int32} {ty : FieldType} {σ1 : St} (hy : plainName y.cls = true) (hsl : (lg_sl as).length ≤ nL) (hn : narrow ty (.int r) = .int r) (body : ∀ X : CT, Cx G X y.cls b nL k → (∀ (lv : List (Nat × Value)) (pc : Nat), decode b pc = .ok (.ireturn, 1) → WW G X nL σ1 lv pc [.int r]) → WW G X nL σ (lv_args 0 as) 0 []) : MCt G k y b nL (some ty) as σ (some (.int r)) σ1 :=
  met_core (EndP := fun X => ∀ (lv : List (Nat × Value)) (pc : Nat), decode b pc = .ok (.ireturn, 1) → WW G X nL σ1 lv pc [.int r]) hy hsl (fun p e R s m args below meth c A hx hb hr hlocks lv pc hdg H locs ls hl hP hS => W.zret hx hb hr hn (fun t ht hW => ⟨rfl, by rw [ht]; exact hP, hS.F ht⟩) hS.2.2 hdg) body
theorem ww_sval {G : GT} {X : CT} {own : String} {cc : ByteArray} {nL n : Nat} {σ : St} {lv : List (Nat × Value)} {pc : Nat} {st : List Value} {w ix : Nat} (cx : Cx G X own cc nL n) (hlk : Cond.fieldLink own ix "java/lang/String" "value" "[B" ∈ TBL) (hw : w < 18) (hdg : decode cc pc = .ok (.getfield ix, 3)) (k : WW G X nL σ lv (pc + 3) (.ref (gsv G w) :: st)) : WW G X nL σ lv pc (.ref (gsk G w) :: st) := by
  obtain ⟨p, e, R, s, m, args, below, meth, c, Q, A, ck, sk⟩ := X
  obtain ⟨hx, hb, hml, hown, hts, hG, hA, hck, hlm⟩ := cx
  intro H locs ls hl hP hS
  exact vk_getf hx hb (hG.2.2.2.1.1 w hw).2.2.1 hS hown (hts _ hlk) (fun _ h => h) hdg (k H locs ls hl hP hS)
theorem ww_scod {G : GT} {X : CT} {own : String} {cc : ByteArray} {nL n : Nat} {σ : St} {lv : List (Nat × Value)} {pc : Nat} {st : List Value} {w ix : Nat} (cx : Cx G X own cc nL n) (hlk : Cond.fieldLink own ix "java/lang/String" "coder" "B" ∈ TBL) (hw : w < 18) (hdg : decode cc pc = .ok (.getfield ix, 3)) (k : WW G X nL σ lv (pc + 3) (.int 0 :: st)) : WW G X nL σ lv pc (.ref (gsk G w) :: st) := by
  obtain ⟨p, e, R, s, m, args, below, meth, c, Q, A, ck, sk⟩ := X
  obtain ⟨hx, hb, hml, hown, hts, hG, hA, hck, hlm⟩ := cx
  intro H locs ls hl hP hS
  exact vk_getf hx hb (hG.2.2.2.1.1 w hw).2.1 hS hown (hts _ hlk) (fun _ h => h) hdg (k H locs ls hl hP hS)
theorem ww_salen {G : GT} {X : CT} {own : String} {cc : ByteArray} {nL n : Nat} {σ : St} {lv : List (Nat × Value)} {pc : Nat} {st : List Value} {w : Nat} (cx : Cx G X own cc nL n) (hw : w < 18) (hdg : decode cc pc = .ok (.arraylength, 1)) (k : WW G X nL σ lv (pc + 1) (.int (slenI w) :: st)) : WW G X nL σ lv pc (.ref (gsv G w) :: st) := by
  obtain ⟨p, e, R, s, m, args, below, meth, c, Q, A, ck, sk⟩ := X
  obtain ⟨hx, hb, hml, hown, hts, hG, hA, hck, hlm⟩ := cx
  intro H locs ls hl hP hS
  exact va_tlen hx hb (hG.2.2.2.1.1 w hw).2.2.2 hS rfl hdg (k H locs ls hl hP hS)
theorem ww_sbald {G : GT} {X : CT} {own : String} {cc : ByteArray} {nL n : Nat} {σ : St} {lv : List (Nat × Value)} {pc : Nat} {st : List Value} {w : Nat} {i : Int32} (cx : Cx G X own cc nL n) (hw : w < 18) (hi : ir i (slen.getD w 0)) (hdg : decode cc pc = .ok (.baload, 1)) (k : WW G X nL σ lv (pc + 1) (.int ((sbyt.getD w []).getD i.toNatClampNeg 0) :: st)) : WW G X nL σ lv pc (.int i :: .ref (gsv G w) :: st) := by
  obtain ⟨p, e, R, s, m, args, below, meth, c, Q, A, ck, sk⟩ := X
  obtain ⟨hx, hb, hml, hown, hts, hG, hA, hck, hlm⟩ := cx
  intro H locs ls hl hP hS
  exact va_tb hx hb (hG.2.2.2.1.1 w hw).2.2.2 hS (vp_in_iff.mpr hi) rfl hdg (k H locs ls hl hP hS)
theorem ww_gsC {G : GT} {X : CT} {own : String} {cc : ByteArray} {nL n : Nat} {σ : St} {lv : List (Nat × Value)} {pc : Nat} {st : List Value} {ix : Nat} (cx : Cx G X own cc nL n) (hlk : Cond.fieldLink own ix "java/lang/String" "COMPACT_STRINGS" "Z" ∈ TBL) (hdg : decode cc pc = .ok (.getstatic ix, 3)) (k : WW G X nL σ lv (pc + 3) (.int 1 :: st)) : WW G X nL σ lv pc st := by
  obtain ⟨p, e, R, s, m, args, below, meth, c, Q, A, ck, sk⟩ := X
  obtain ⟨hx, hb, hml, hown, hts, hG, hA, hck, hlm⟩ := cx
  intro H locs ls hl hP hS
  exact va_gets hx hb hG.2.2.2.2.2.1 hS hown (hts _ hlk) (fun _ h => h) hdg (k H locs ls hl hP hS)
theorem ww_gsQ {G : GT} {X : CT} {own : String} {cc : ByteArray} {nL n : Nat} {σ : St} {lv : List (Nat × Value)} {pc : Nat} {st : List Value} {ix : Nat} (cx : Cx G X own cc nL n) (hlk : Cond.fieldLink own ix "jdk/internal/util/Preconditions" "SIOOBE_FORMATTER" "Ljava/util/function/BiFunction;" ∈ TBL) (hdg : decode cc pc = .ok (.getstatic ix, 3)) (k : ∀ v : Value, (v = .null ∨ ∃ t, v = .ref t) → WW G X nL σ lv (pc + 3) (v :: st)) : WW G X nL σ lv pc st := by
  obtain ⟨p, e, R, s, m, args, below, meth, c, Q, A, ck, sk⟩ := X
  obtain ⟨hx, hb, hml, hown, hts, hG, hA, hck, hlm⟩ := cx
  intro H locs ls hl hP hS
  rcases hG.2.2.2.2.2.2 with h | ⟨t, h⟩
  · exact va_gets hx hb h hS hown (hts _ hlk) (fun _ h => h) hdg (k .null (Or.inl rfl) H locs ls hl hP hS)
  · exact va_gets hx hb h hS hown (hts _ hlk) (fun _ h => h) hdg (k (.ref t) (Or.inr ⟨t, rfl⟩) H locs ls hl hP hS)
theorem ww_callT {G : GT} {X : CT} {own : String} {cc : ByteArray} {nL n : Nat} {σ : St} {lv : List (Nat × Value)} {pc : Nat} {st : List Value} {k ix nL' na w : Nat} {y : MethodName} {b : ByteArray} {rt : Option FieldType} {As st0 : List Value} {rv : Option Value} {σ1 : St} (hC : CallV own ix RJ0 y b nL' rt na) (cx : Cx G X own cc nL n) (hw : w < 18) (hk : k + 1 ≤ n ∧ nL' ≤ 45) (hst : (st.map fun v => v.category).sum ≤ 8) (hlen : As.length = na) (hst0 : st0 = As.reverse ++ .ref (gsk G w) :: st) (hdg : decode cc pc = .ok (.invokevirtual ix, 3)) (hM : MCt G k y b nL' rt (.ref (gsk G w) :: As) σ rv σ1) (kk : WW G X nL σ1 lv (pc + 3) (rv.toList ++ st)) : WW G X nL σ lv pc st0 := by
  obtain ⟨p, e, R, s, m, args, below, meth, c, Q, A, ck, sk⟩ := X
  obtain ⟨hx, hb, hml, hown, hts, hG, hA, hck, hlm⟩ := cx
  intro H locs ls hl hP hS
  exact ww_back (va_runV (As := As) (rest := st) ⟨hx, hb, hml, hown, hts⟩ (hM H.size) (cwV na hts hC.1 rfl rfl rfl hC.2 ⟨by simp only [rmL]; omega, by simp only [rmL]; omega⟩) ⟨pc_blind, vk_recv hG.2.2.2.1 hw hS, pc_at hG hA hP hS⟩ rfl hlen hl.1 hst0 (lv_room8 hst) hdg hck) hS (va_A_sub hG hA hS) (fun H1 locs1 hP1 hS1 => kk H1 locs1 ls hl hP1 hS1)
theorem ic_0s : Int32.ofInt 0 = 0 := by decide
theorem ic_1s : Int32.ofInt 1 = 1 := by decide
theorem sc_255s : (Int16.ofInt 255).toInt32 = 255 := by decide
set_option maxRecDepth 4000
theorem kJ0_coder (G : GT) {σ : St} {w : Nat} (hw : w < 18) : MCt G 1 yJ0_coder_7d493 cJ0_coder_7d493 1 (some .byte) [.ref (gsk G w)] σ (some (.int 0)) σ := by
  refine met_n (by decide) (Nat.le_of_ble_eq_true rfl) rfl (fun X cx hE => ?_)
  have cx : Cx G X RJ0 cJ0_coder_7d493 1 1 := cx
  show WW G X 1 σ [(0, .ref (gsk G w))] 0 []
  refine ww_gsC cx sfl_38 dJ0_coder_7d493_0 ?_
  have hF : (if (1 : Int32) = 0 then (none : Option Unit) else some ()) = some () := rfl
  refine ww_if_eq cx dJ0_coder_7d493_3 (tgt := 13) rfl hF (fun h => by cases h) (fun _ => ?_)
  refine ww_aload_n cx dJ0_coder_7d493_6 rfl 0 rfl ?_
  refine ww_scod cx sfl_15 hw dJ0_coder_7d493_7 ?_
  refine ww_goto cx dJ0_coder_7d493_10 (tgt := 14) rfl ?_
  exact hE _ _ dJ0_coder_7d493_14
theorem kJ0_isLatin1 (G : GT) {σ : St} {w : Nat} (hw : w < 18) : MCt G 1 yJ0_isLatin1_aae02 cJ0_isLatin1_aae02 1 (some .boolean) [.ref (gsk G w)] σ (some (.int 1)) σ := by
  refine met_n (by decide) (Nat.le_of_ble_eq_true rfl) rfl (fun X cx hE => ?_)
  have cx : Cx G X RJ0 cJ0_isLatin1_aae02 1 1 := cx
  show WW G X 1 σ [(0, .ref (gsk G w))] 0 []
  refine ww_gsC cx sfl_38 dJ0_isLatin1_aae02_0 ?_
  have hF : (if (1 : Int32) = 0 then (none : Option Unit) else some ()) = some () := rfl
  refine ww_if_eq cx dJ0_isLatin1_aae02_3 (tgt := 17) rfl hF (fun h => by cases h) (fun _ => ?_)
  refine ww_aload_n cx dJ0_isLatin1_aae02_6 rfl 0 rfl ?_
  refine ww_scod cx sfl_15 hw dJ0_isLatin1_aae02_7 ?_
  have hF : (if (0 : Int32) = 0 then some () else (none : Option Unit)) = some () := rfl
  refine ww_if_ne cx dJ0_isLatin1_aae02_10 (tgt := 17) rfl hF (fun h => by cases h) (fun _ => ?_)
  refine ww_iconst cx dJ0_isLatin1_aae02_13 ic_1s ?_
  refine ww_goto cx dJ0_isLatin1_aae02_14 (tgt := 18) rfl ?_
  exact hE _ _ dJ0_isLatin1_aae02_18
theorem kJ0_length (G : GT) {σ : St} {w : Nat} (hw : w < 18) : MCt G 2 yJ0_length_8abf5 cJ0_length_8abf5 1 (some .int) [.ref (gsk G w)] σ (some (.int (slenI w))) σ := by
  refine met_i (by decide) (Nat.le_of_ble_eq_true rfl) (fun X cx hE => ?_)
  have cx : Cx G X RJ0 cJ0_length_8abf5 1 2 := cx
  show WW G X 1 σ [(0, .ref (gsk G w))] 0 []
  refine ww_aload_n cx dJ0_length_8abf5_0 rfl 0 rfl ?_
  refine ww_sval cx sfl_9 hw dJ0_length_8abf5_1 ?_
  refine ww_salen cx hw dJ0_length_8abf5_4 ?_
  refine ww_aload_n cx dJ0_length_8abf5_5 rfl 0 rfl ?_
  refine ww_callT (As := []) kv_J0_335 cx hw ⟨Nat.le_of_ble_eq_true rfl, Nat.le_of_ble_eq_true rfl⟩ (Nat.le_of_ble_eq_true rfl) rfl rfl dJ0_length_8abf5_6 (kJ0_coder G hw) ?_
  refine ww_ishr cx dJ0_length_8abf5_9 ?_
  rw [sb_shr0]
  exact hE _ _ dJ0_length_8abf5_10
theorem kJ3_checkIndex (G : GT) {σ : St} {i m : Int32} {v : Value} (hv : v = .null ∨ ∃ t, v = .ref t) (h1 : ¬ i < 0) (h2 : i < m) : MCt G 1 yJ3_checkIndex_8e157 cJ3_checkIndex_8e157 3 (some .int) [.int i, .int m, v] σ (some (.int i)) σ := by
  have hlen : (lg_sl [.int i, .int m, v]).length ≤ 3 := by rcases hv with rfl | ⟨t, rfl⟩ <;> exact Nat.le_of_ble_eq_true rfl
  refine met_i (by decide) hlen (fun X cx hE => ?_)
  have cx : Cx G X RJ3 cJ3_checkIndex_8e157 3 1 := cx
  refine ww_sub (lv' := [(0, .int i), (1, .int m)]) [0, 1] rfl ?_
  refine ww_iload_n cx dJ3_checkIndex_8e157_0 rfl 0 rfl ?_
  have hF : (if i < 0 then (none : Option Unit) else some ()) = some () := if_neg h1
  refine ww_if_lt cx dJ3_checkIndex_8e157_1 (tgt := 9) rfl hF (fun h => by cases h) (fun _ => ?_)
  refine ww_iload_n cx dJ3_checkIndex_8e157_4 rfl 0 rfl ?_
  refine ww_iload_n cx dJ3_checkIndex_8e157_5 rfl 1 rfl ?_
  have hF : (if i < m then some () else (none : Option Unit)) = some () := if_pos h2
  refine ww_icmp_lt cx dJ3_checkIndex_8e157_6 (tgt := 16) rfl hF (fun _ => ?_) (fun h => by cases h)
  refine ww_iload_n cx dJ3_checkIndex_8e157_16 rfl 0 rfl ?_
  exact hE _ _ dJ3_checkIndex_8e157_17
theorem kJ0_checkIndex (G : GT) {σ : St} {i m : Int32} (h1 : ¬ i < 0) (h2 : i < m) : MCt G 2 yJ0_checkIndex_df160 cJ0_checkIndex_df160 2 none [.int i, .int m] σ none σ := by
  refine met_v (by decide) (Nat.le_of_ble_eq_true rfl) (fun X cx hE => ?_)
  have cx : Cx G X RJ0 cJ0_checkIndex_df160 2 2 := cx
  show WW G X 2 σ [(0, .int i), (1, .int m)] 0 []
  refine ww_iload_n cx dJ0_checkIndex_df160_0 rfl 0 rfl ?_
  refine ww_iload_n cx dJ0_checkIndex_df160_1 rfl 1 rfl ?_
  refine ww_gsQ cx sfl_1053 dJ0_checkIndex_df160_2 (fun v hv => ?_)
  refine ww_callS (As := [.int i, .int m, v]) (st := []) kv_J0_1059 cx ⟨Nat.le_of_ble_eq_true rfl, Nat.le_of_ble_eq_true rfl⟩ (Nat.le_of_ble_eq_true rfl) rfl rfl dJ0_checkIndex_df160_5 (kJ3_checkIndex G hv h1 h2) ?_
  refine ww_pop cx dJ0_checkIndex_df160_8 rfl ?_
  exact hE _ _ dJ0_checkIndex_df160_9
theorem slen_lt (w : Nat) : slen.getD w 0 < 2 ^ 31 := by
  rcases Nat.lt_or_ge w 18 with h | h
  · have : ∀ w, w < 18 → slen.getD w 0 < 2 ^ 31 := by decide
    exact this w h
  · have e : slen.getD w 0 = 0 := by
      rw [List.getD_eq_getElem?_getD, List.getElem?_eq_none (by exact h)]
      rfl
    omega
theorem kJ1_charAt (G : GT) {σ : St} {w : Nat} {i : Int32} (hw : w < 18) (hi : ir i (slen.getD w 0)) : MCt G 3 yJ1_charAt_3b067 cJ1_charAt_3b067 2 (some .char) [.ref (gsv G w), .int i] σ (some (.int (scha w i.toNatClampNeg))) σ := by
  refine met_n (by decide) (Nat.le_of_ble_eq_true rfl) (pk_nc _) (fun X cx hE => ?_)
  have cx : Cx G X RJ1 cJ1_charAt_3b067 2 3 := cx
  show WW G X 2 σ [(0, .ref (gsv G w)), (1, .int i)] 0 []
  refine ww_iload_n cx dJ1_charAt_3b067_0 rfl 1 rfl ?_
  refine ww_aload_n cx dJ1_charAt_3b067_1 rfl 0 rfl ?_
  refine ww_salen cx hw dJ1_charAt_3b067_2 ?_
  have hlt := slen_lt w
  have h2 : i < slenI w := by
    rw [Int32.lt_iff_toInt_lt, slenI, nI_toInt hlt]
    exact hi.2
  refine ww_callS (As := [.int i, .int (slenI w)]) (st := []) kv_J1_9 cx ⟨Nat.le_of_ble_eq_true rfl, Nat.le_of_ble_eq_true rfl⟩ (Nat.le_of_ble_eq_true rfl) rfl rfl dJ1_charAt_3b067_3 (kJ0_checkIndex G (nlt0 hi.1) h2) ?_
  refine ww_aload_n cx dJ1_charAt_3b067_6 rfl 0 rfl ?_
  refine ww_iload_n cx dJ1_charAt_3b067_7 rfl 1 rfl ?_
  refine ww_sbald cx hw hi dJ1_charAt_3b067_8 ?_
  refine ww_sipush cx dJ1_charAt_3b067_9 sc_255s ?_
  refine ww_iand cx dJ1_charAt_3b067_12 ?_
  refine ww_i2c cx dJ1_charAt_3b067_13 ?_
  exact hE _ _ dJ1_charAt_3b067_14
theorem kJ0_charAt (G : GT) {σ : St} {w : Nat} {i : Int32} (hw : w < 18) (hi : ir i (slen.getD w 0)) : MCt G 4 yJ0_charAt_5068e cJ0_charAt_5068e 2 (some .char) [.ref (gsk G w), .int i] σ (some (.int (scha w i.toNatClampNeg))) σ := by
  refine met_n (by decide) (Nat.le_of_ble_eq_true rfl) (pk_nc _) (fun X cx hE => ?_)
  have cx : Cx G X RJ0 cJ0_charAt_5068e 2 4 := cx
  show WW G X 2 σ [(0, .ref (gsk G w)), (1, .int i)] 0 []
  refine ww_aload_n cx dJ0_charAt_5068e_0 rfl 0 rfl ?_
  refine ww_callT (As := []) kv_J0_492 cx hw ⟨Nat.le_of_ble_eq_true rfl, Nat.le_of_ble_eq_true rfl⟩ (Nat.le_of_ble_eq_true rfl) rfl rfl dJ0_charAt_5068e_1 (kJ0_isLatin1 G hw) ?_
  have hF : (if (1 : Int32) = 0 then (none : Option Unit) else some ()) = some () := rfl
  refine ww_if_eq (st := []) cx dJ0_charAt_5068e_4 (tgt := 16) rfl hF (fun h => by cases h) (fun _ => ?_)
  refine ww_aload_n cx dJ0_charAt_5068e_7 rfl 0 rfl ?_
  refine ww_sval cx sfl_9 hw dJ0_charAt_5068e_8 ?_
  refine ww_iload_n cx dJ0_charAt_5068e_11 rfl 1 rfl ?_
  refine ww_callS (As := [.ref (gsv G w), .int i]) (st := []) kv_J0_495 cx ⟨Nat.le_of_ble_eq_true rfl, Nat.le_of_ble_eq_true rfl⟩ (Nat.le_of_ble_eq_true rfl) rfl rfl dJ0_charAt_5068e_12 (kJ1_charAt G hw hi) ?_
  exact hE _ _ dJ0_charAt_5068e_15
theorem ww_slen {G : GT} {X : CT} {own : String} {cc : ByteArray} {nL n : Nat} {σ : St} {lv : List (Nat × Value)} {pc : Nat} {st : List Value} {w ix : Nat} (cx : Cx G X own cc nL n) (hC : CallV own ix RJ0 yJ0_length_8abf5 cJ0_length_8abf5 1 (some .int) 0) (hw : w < 18) (hk : 3 ≤ n) (hst : (st.map fun v => v.category).sum ≤ 8) (hdg : decode cc pc = .ok (.invokevirtual ix, 3)) (k : WW G X nL σ lv (pc + 3) (.int (slenI w) :: st)) : WW G X nL σ lv pc (.ref (gsk G w) :: st) :=
  ww_callT (As := []) hC cx hw ⟨hk, Nat.le_of_ble_eq_true rfl⟩ hst rfl rfl hdg (kJ0_length G hw) k
theorem ww_scha {G : GT} {X : CT} {own : String} {cc : ByteArray} {nL n : Nat} {σ : St} {lv : List (Nat × Value)} {pc : Nat} {st : List Value} {w ix : Nat} {i : Int32} {β : Type} {F : Option β} {o : β} (cx : Cx G X own cc nL n) (hC : CallV own ix RJ0 yJ0_charAt_5068e cJ0_charAt_5068e 2 (some .char) 1) (hw : w < 18) (hk : 5 ≤ n) (hst : (st.map fun v => v.category).sum ≤ 8) (hdg : decode cc pc = .ok (.invokevirtual ix, 3)) (hF : gd (ir i (slen.getD w 0)) F = some o) (k : F = some o → WW G X nL σ lv (pc + 3) (.int (scha w i.toNatClampNeg) :: st)) : WW G X nL σ lv pc (.int i :: .ref (gsk G w) :: st) :=
  ww_callT (As := [.int i]) hC cx hw ⟨hk, Nat.le_of_ble_eq_true rfl⟩ hst rfl rfl hdg (kJ0_charAt G hw (gd_some hF).1) (k (gd_some hF).2)
end
section
theorem ic_0 : Int32.ofInt (0) = 0 := by decide
theorem ic_1 : Int32.ofInt (1) = 1 := by decide
theorem ic_m1 : Int32.ofInt (-1) = -1 := by decide
theorem bc_64 : (Int8.ofInt (64)).toInt32 = 64 := by decide
theorem ic_4 : Int32.ofInt (4) = 4 := by decide
theorem bc_16 : (Int8.ofInt (16)).toInt32 = 16 := by decide
theorem ic_5 : Int32.ofInt (5) = 5 := by decide
theorem bc_12 : (Int8.ofInt (12)).toInt32 = 12 := by decide
theorem sc_1600 : (Int16.ofInt (1600)).toInt32 = 1600 := by decide
theorem ic_m8 : Int32.ofInt (-8) = -8 := by decide
theorem bc_24 : (Int8.ofInt (24)).toInt32 = 24 := by decide
theorem ic_2 : Int32.ofInt (2) = 2 := by decide
theorem bc_59 : (Int8.ofInt (59)).toInt32 = 59 := by decide
theorem ic_3 : Int32.ofInt (3) = 3 := by decide
theorem bc_48 : (Int8.ofInt (48)).toInt32 = 48 := by decide
theorem bc_57 : (Int8.ofInt (57)).toInt32 = 57 := by decide
theorem bc_97 : (Int8.ofInt (97)).toInt32 = 97 := by decide
theorem bc_122 : (Int8.ofInt (122)).toInt32 = 122 := by decide
theorem lc_0 : Int64.ofNat ((0 : Fin 2) : Nat) = 0 := by decide
theorem bc_60 : (Int8.ofInt (60)).toInt32 = 60 := by decide
theorem bc_6 : (Int8.ofInt (6)).toInt32 = 6 := by decide
theorem bc_8 : (Int8.ofInt (8)).toInt32 = 8 := by decide
theorem bc_20 : (Int8.ofInt (20)).toInt32 = 20 := by decide
theorem bc_7 : (Int8.ofInt (7)).toInt32 = 7 := by decide
theorem bc_67 : (Int8.ofInt (67)).toInt32 = 67 := by decide
theorem bc_43 : (Int8.ofInt (43)).toInt32 = 43 := by decide
theorem sc_255 : (Int16.ofInt (255)).toInt32 = 255 := by decide
theorem bc_63 : (Int8.ofInt (63)).toInt32 = 63 := by decide
theorem bc_m2 : (Int8.ofInt (-2)).toInt32 = -2 := by decide
theorem bc_m5 : (Int8.ofInt (-5)).toInt32 = -5 := by decide
theorem bc_m6 : (Int8.ofInt (-6)).toInt32 = -6 := by decide
theorem bc_m7 : (Int8.ofInt (-7)).toInt32 = -7 := by decide
theorem bc_m8 : (Int8.ofInt (-8)).toInt32 = -8 := by decide
theorem bc_m3 : (Int8.ofInt (-3)).toInt32 = -3 := by decide
theorem bc_10 : (Int8.ofInt (10)).toInt32 = 10 := by decide
theorem bc_32 : (Int8.ofInt (32)).toInt32 = 32 := by decide
theorem bc_77 : (Int8.ofInt (77)).toInt32 = 77 := by decide
theorem lc_1 : Int64.ofNat ((1 : Fin 2) : Nat) = 1 := by decide
theorem bc_m100 : (Int8.ofInt (-100)).toInt32 = -100 := by decide
theorem sc_m600 : (Int16.ofInt (-600)).toInt32 = -600 := by decide
theorem bc_100 : (Int8.ofInt (100)).toInt32 = 100 := by decide
theorem bc_9 : (Int8.ofInt (9)).toInt32 = 9 := by decide
theorem bc_99 : (Int8.ofInt (99)).toInt32 = 99 := by decide
theorem bc_m4 : (Int8.ofInt (-4)).toInt32 = -4 := by decide
theorem fl_X7_10 : Cond.fieldLink RX7 10 (TX7 0).1 (TX7 0).2.1 (TX7 0).2.2.1 ∈ TBL := tm 383 (by decide +kernel) (by decide +kernel)
theorem fl_X7_76 : Cond.fieldLink RX7 76 (TX2 1).1 (TX2 1).2.1 (TX2 1).2.2.1 ∈ TBL := tm 153 (by decide +kernel) (by decide +kernel)
theorem fl_X7_95 : Cond.fieldLink RX7 95 (TX2 2).1 (TX2 2).2.1 (TX2 2).2.2.1 ∈ TBL := tm 156 (by decide +kernel) (by decide +kernel)
theorem fl_X7_98 : Cond.fieldLink RX7 98 (TX2 3).1 (TX2 3).2.1 (TX2 3).2.2.1 ∈ TBL := tm 158 (by decide +kernel) (by decide +kernel)
theorem cn_X7_389 : Cond.constant RX7 389 2000000000 ∈ TBL := tm 1172 (by decide +kernel) (by decide +kernel)
theorem fl_X7_36 : Cond.fieldLink RX7 36 (TX7 5).1 (TX7 5).2.1 (TX7 5).2.2.1 ∈ TBL := tm 388 (by decide +kernel) (by decide +kernel)
theorem fl_X7_199 : Cond.fieldLink RX7 199 (TX4 0).1 (TX4 0).2.1 (TX4 0).2.2.1 ∈ TBL := tm 282 (by decide +kernel) (by decide +kernel)
theorem fl_X0_9 : Cond.fieldLink RX0 9 (TX0 0).1 (TX0 0).2.1 (TX0 0).2.2.1 ∈ TBL := tm 379 (by decide +kernel) (by decide +kernel)
theorem fl_X0_21 : Cond.fieldLink RX0 21 (TX6 9).1 (TX6 9).2.1 (TX6 9).2.2.1 ∈ TBL := tm 222 (by decide +kernel) (by decide +kernel)
theorem fl_X0_15 : Cond.fieldLink RX0 15 (TX6 1).1 (TX6 1).2.1 (TX6 1).2.2.1 ∈ TBL := tm 191 (by decide +kernel) (by decide +kernel)
theorem fl_X1_9 : Cond.fieldLink RX1 9 (TX1 3).1 (TX1 3).2.1 (TX1 3).2.2.1 ∈ TBL := tm 350 (by decide +kernel) (by decide +kernel)
theorem fl_X1_48 : Cond.fieldLink RX1 48 (TX1 2).1 (TX1 2).2.1 (TX1 2).2.2.1 ∈ TBL := tm 348 (by decide +kernel) (by decide +kernel)
theorem fl_X1_15 : Cond.fieldLink RX1 15 (TX1 4).1 (TX1 4).2.1 (TX1 4).2.2.1 ∈ TBL := tm 352 (by decide +kernel) (by decide +kernel)
theorem fl_X1_18 : Cond.fieldLink RX1 18 (TX1 5).1 (TX1 5).2.1 (TX1 5).2.2.1 ∈ TBL := tm 354 (by decide +kernel) (by decide +kernel)
theorem fl_X1_21 : Cond.fieldLink RX1 21 (TX1 6).1 (TX1 6).2.1 (TX1 6).2.2.1 ∈ TBL := tm 356 (by decide +kernel) (by decide +kernel)
theorem fl_X1_51 : Cond.fieldLink RX1 51 (TX6 7).1 (TX6 7).2.1 (TX6 7).2.2.1 ∈ TBL := tm 214 (by decide +kernel) (by decide +kernel)
theorem fl_X1_42 : Cond.fieldLink RX1 42 (TX1 0).1 (TX1 0).2.1 (TX1 0).2.2.1 ∈ TBL := tm 344 (by decide +kernel) (by decide +kernel)
theorem fl_X1_45 : Cond.fieldLink RX1 45 (TX1 1).1 (TX1 1).2.1 (TX1 1).2.2.1 ∈ TBL := tm 346 (by decide +kernel) (by decide +kernel)
theorem fl_X2_19 : Cond.fieldLink RX2 19 (TX2 1).1 (TX2 1).2.1 (TX2 1).2.2.1 ∈ TBL := tm 154 (by decide +kernel) (by decide +kernel)
theorem fl_X2_9 : Cond.fieldLink RX2 9 (TX2 0).1 (TX2 0).2.1 (TX2 0).2.2.1 ∈ TBL := tm 152 (by decide +kernel) (by decide +kernel)
theorem fl_X2_27 : Cond.fieldLink RX2 27 (TX2 2).1 (TX2 2).2.1 (TX2 2).2.2.1 ∈ TBL := tm 155 (by decide +kernel) (by decide +kernel)
theorem fl_X2_177 : Cond.fieldLink RX2 177 (TX2 5).1 (TX2 5).2.1 (TX2 5).2.2.1 ∈ TBL := tm 160 (by decide +kernel) (by decide +kernel)
theorem fl_X2_15 : Cond.fieldLink RX2 15 (TX2 3).1 (TX2 3).2.1 (TX2 3).2.2.1 ∈ TBL := tm 157 (by decide +kernel) (by decide +kernel)
theorem fl_X2_36 : Cond.fieldLink RX2 36 (TX2 4).1 (TX2 4).2.1 (TX2 4).2.2.1 ∈ TBL := tm 159 (by decide +kernel) (by decide +kernel)
theorem fl_X2_122 : Cond.fieldLink RX2 122 (TX2 7).1 (TX2 7).2.1 (TX2 7).2.2.1 ∈ TBL := tm 162 (by decide +kernel) (by decide +kernel)
theorem fl_X3_46 : Cond.fieldLink RX3 46 (TX6 11).1 (TX6 11).2.1 (TX6 11).2.2.1 ∈ TBL := tm 231 (by decide +kernel) (by decide +kernel)
theorem fl_X3_27 : Cond.fieldLink RX3 27 (TX3 2).1 (TX3 2).2.1 (TX3 2).2.2.1 ∈ TBL := tm 325 (by decide +kernel) (by decide +kernel)
theorem fl_X3_43 : Cond.fieldLink RX3 43 (TX6 10).1 (TX6 10).2.1 (TX6 10).2.2.1 ∈ TBL := tm 227 (by decide +kernel) (by decide +kernel)
theorem fl_X3_52 : Cond.fieldLink RX3 52 (TX6 4).1 (TX6 4).2.1 (TX6 4).2.2.1 ∈ TBL := tm 202 (by decide +kernel) (by decide +kernel)
theorem fl_X3_9 : Cond.fieldLink RX3 9 (TX3 3).1 (TX3 3).2.1 (TX3 3).2.2.1 ∈ TBL := tm 327 (by decide +kernel) (by decide +kernel)
theorem fl_X4_23 : Cond.fieldLink RX4 23 (TX4 2).1 (TX4 2).2.1 (TX4 2).2.2.1 ∈ TBL := tm 285 (by decide +kernel) (by decide +kernel)
theorem fl_X4_9 : Cond.fieldLink RX4 9 (TX4 3).1 (TX4 3).2.1 (TX4 3).2.2.1 ∈ TBL := tm 289 (by decide +kernel) (by decide +kernel)
theorem fl_X4_15 : Cond.fieldLink RX4 15 (TX4 0).1 (TX4 0).2.1 (TX4 0).2.2.1 ∈ TBL := tm 281 (by decide +kernel) (by decide +kernel)
theorem fl_X4_19 : Cond.fieldLink RX4 19 (TX4 1).1 (TX4 1).2.1 (TX4 1).2.2.1 ∈ TBL := tm 283 (by decide +kernel) (by decide +kernel)
theorem fl_X5_9 : Cond.fieldLink RX5 9 (TX5 0).1 (TX5 0).2.1 (TX5 0).2.2.1 ∈ TBL := tm 310 (by decide +kernel) (by decide +kernel)
theorem fl_X6_46 : Cond.fieldLink RX6 46 (TX6 5).1 (TX6 5).2.1 (TX6 5).2.2.1 ∈ TBL := tm 206 (by decide +kernel) (by decide +kernel)
theorem fl_X6_18 : Cond.fieldLink RX6 18 (TX6 10).1 (TX6 10).2.1 (TX6 10).2.2.1 ∈ TBL := tm 226 (by decide +kernel) (by decide +kernel)
theorem fl_X6_21 : Cond.fieldLink RX6 21 (TX6 11).1 (TX6 11).2.1 (TX6 11).2.2.1 ∈ TBL := tm 230 (by decide +kernel) (by decide +kernel)
theorem fl_X6_34 : Cond.fieldLink RX6 34 (TX6 1).1 (TX6 1).2.1 (TX6 1).2.2.1 ∈ TBL := tm 190 (by decide +kernel) (by decide +kernel)
theorem fl_X6_24 : Cond.fieldLink RX6 24 (TX6 12).1 (TX6 12).2.1 (TX6 12).2.2.1 ∈ TBL := tm 234 (by decide +kernel) (by decide +kernel)
theorem fl_X6_37 : Cond.fieldLink RX6 37 (TX6 2).1 (TX6 2).2.1 (TX6 2).2.2.1 ∈ TBL := tm 194 (by decide +kernel) (by decide +kernel)
theorem fl_X6_43 : Cond.fieldLink RX6 43 (TX6 4).1 (TX6 4).2.1 (TX6 4).2.2.1 ∈ TBL := tm 201 (by decide +kernel) (by decide +kernel)
theorem fl_X6_15 : Cond.fieldLink RX6 15 (TX6 9).1 (TX6 9).2.1 (TX6 9).2.2.1 ∈ TBL := tm 221 (by decide +kernel) (by decide +kernel)
theorem fl_X6_30 : Cond.fieldLink RX6 30 (TX6 0).1 (TX6 0).2.1 (TX6 0).2.2.1 ∈ TBL := tm 187 (by decide +kernel) (by decide +kernel)
theorem fl_X6_40 : Cond.fieldLink RX6 40 (TX6 3).1 (TX6 3).2.1 (TX6 3).2.2.1 ∈ TBL := tm 198 (by decide +kernel) (by decide +kernel)
theorem fl_X6_49 : Cond.fieldLink RX6 49 (TX6 6).1 (TX6 6).2.1 (TX6 6).2.2.1 ∈ TBL := tm 209 (by decide +kernel) (by decide +kernel)
theorem fl_X6_52 : Cond.fieldLink RX6 52 (TX6 7).1 (TX6 7).2.1 (TX6 7).2.2.1 ∈ TBL := tm 213 (by decide +kernel) (by decide +kernel)
theorem fl_X6_27 : Cond.fieldLink RX6 27 (TX6 13).1 (TX6 13).2.1 (TX6 13).2.2.1 ∈ TBL := tm 238 (by decide +kernel) (by decide +kernel)
theorem cn_X6_91 : Cond.constantLong RX6 91 (1103515245) ∈ TBL := tm 1177 (by decide +kernel) (by decide +kernel)
theorem cn_X6_93 : Cond.constantLong RX6 93 (12345) ∈ TBL := tm 1178 (by decide +kernel) (by decide +kernel)
theorem cn_X6_95 : Cond.constantLong RX6 95 (2147483648) ∈ TBL := tm 1179 (by decide +kernel) (by decide +kernel)
theorem cn_X6_97 : Cond.constantLong RX6 97 (65536) ∈ TBL := tm 1180 (by decide +kernel) (by decide +kernel)
theorem cn_X6_99 : Cond.constantLong RX6 99 (100) ∈ TBL := tm 1181 (by decide +kernel) (by decide +kernel)
theorem fl_X6_9 : Cond.fieldLink RX6 9 (TX6 8).1 (TX6 8).2.1 (TX6 8).2.2.1 ∈ TBL := tm 218 (by decide +kernel) (by decide +kernel)
theorem fl_X8_9 : Cond.fieldLink RX8 9 (TX8 1).1 (TX8 1).2.1 (TX8 1).2.2.1 ∈ TBL := tm 1233 (by decide +kernel) (by decide +kernel)
theorem cn_X8_77 : Cond.constant RX8 77 1431655765 ∈ TBL := tm 1495 (by decide +kernel) (by decide +kernel)
theorem cn_X8_78 : Cond.constant RX8 78 858993459 ∈ TBL := tm 1496 (by decide +kernel) (by decide +kernel)
theorem cn_X8_79 : Cond.constant RX8 79 252645135 ∈ TBL := tm 1497 (by decide +kernel) (by decide +kernel)
theorem cn_X8_80 : Cond.constant RX8 80 16843009 ∈ TBL := tm 1498 (by decide +kernel) (by decide +kernel)
theorem fl_X8_61 : Cond.fieldLink RX8 61 (TX8 30).1 (TX8 30).2.1 (TX8 30).2.2.1 ∈ TBL := tm 1262 (by decide +kernel) (by decide +kernel)
theorem fl_X8_95 : Cond.fieldLink RX8 95 (TX8 5).1 (TX8 5).2.1 (TX8 5).2.2.1 ∈ TBL := tm 1237 (by decide +kernel) (by decide +kernel)
theorem fl_X8_27 : Cond.fieldLink RX8 27 (TX8 13).1 (TX8 13).2.1 (TX8 13).2.2.1 ∈ TBL := tm 1245 (by decide +kernel) (by decide +kernel)
theorem fl_X8_131 : Cond.fieldLink RX8 131 (TX8 12).1 (TX8 12).2.1 (TX8 12).2.2.1 ∈ TBL := tm 1244 (by decide +kernel) (by decide +kernel)
theorem fl_X8_20 : Cond.fieldLink RX8 20 (TX8 4).1 (TX8 4).2.1 (TX8 4).2.2.1 ∈ TBL := tm 1236 (by decide +kernel) (by decide +kernel)
theorem fl_X8_24 : Cond.fieldLink RX8 24 (TX8 6).1 (TX8 6).2.1 (TX8 6).2.2.1 ∈ TBL := tm 1238 (by decide +kernel) (by decide +kernel)
theorem fl_X8_31 : Cond.fieldLink RX8 31 (TX8 14).1 (TX8 14).2.1 (TX8 14).2.2.1 ∈ TBL := tm 1246 (by decide +kernel) (by decide +kernel)
theorem cn_X8_447 : Cond.constantLong RX8 447 (1103515245) ∈ TBL := tm 1976 (by decide +kernel) (by decide +kernel)
theorem cn_X8_449 : Cond.constantLong RX8 449 (12345) ∈ TBL := tm 1977 (by decide +kernel) (by decide +kernel)
theorem cn_X8_451 : Cond.constantLong RX8 451 (2147483648) ∈ TBL := tm 1978 (by decide +kernel) (by decide +kernel)
theorem cn_X8_453 : Cond.constantLong RX8 453 (65536) ∈ TBL := tm 1979 (by decide +kernel) (by decide +kernel)
theorem cn_X8_455 : Cond.constantLong RX8 455 (100) ∈ TBL := tm 1980 (by decide +kernel) (by decide +kernel)
theorem fl_X8_67 : Cond.fieldLink RX8 67 (TX8 32).1 (TX8 32).2.1 (TX8 32).2.2.1 ∈ TBL := tm 1264 (by decide +kernel) (by decide +kernel)
theorem fl_X8_98 : Cond.fieldLink RX8 98 (TX8 7).1 (TX8 7).2.1 (TX8 7).2.2.1 ∈ TBL := tm 1239 (by decide +kernel) (by decide +kernel)
theorem cn_J6_265 : Cond.constant RJ6 265 1431655765 ∈ TBL := tm 594 (by decide +kernel) (by decide +kernel)
theorem cn_J6_266 : Cond.constant RJ6 266 858993459 ∈ TBL := tm 595 (by decide +kernel) (by decide +kernel)
theorem cn_J6_267 : Cond.constant RJ6 267 252645135 ∈ TBL := tm 596 (by decide +kernel) (by decide +kernel)
theorem fl_X7_19 : Cond.fieldLink RX7 19 (TX7 1).1 (TX7 1).2.1 (TX7 1).2.2.1 ∈ TBL := tm 384 (by decide +kernel) (by decide +kernel)
theorem co_X6_hasClaim : Cond.code yX6_hasClaim cX6_hasClaim 2 (some .boolean) ∈ TBL := tm 630 (by decide +kernel) (by decide +kernel)
theorem ml_X7_101 : Cond.methodLink RX7 101 yX6_hasClaim ∈ TBL := tm 627 (by decide +kernel) (by decide +kernel)
theorem in_X6 : Cond.initialized RX6 ∈ TBL := tm 124 (by decide +kernel) (by decide +kernel)
theorem im_X6_hasClaim : Cond.instanceMethod yX6_hasClaim ∈ TBL := tm 628 (by decide +kernel) (by decide +kernel)
theorem se_X6_hasClaim : Cond.selects RX6 yX6_hasClaim yX6_hasClaim ∈ TBL := tm 629 (by decide +kernel) (by decide +kernel)
theorem fl_X7_112 : Cond.fieldLink RX7 112 (TX6 9).1 (TX6 9).2.1 (TX6 9).2.2.1 ∈ TBL := tm 224 (by decide +kernel) (by decide +kernel)
theorem co_X6_claimsHoldingIn : Cond.code yX6_claimsHoldingIn cX6_claimsHoldingIn 4 (some .int) ∈ TBL := tm 703 (by decide +kernel) (by decide +kernel)
theorem ml_X7_163 : Cond.methodLink RX7 163 yX6_claimsHoldingIn ∈ TBL := tm 700 (by decide +kernel) (by decide +kernel)
theorem im_X6_claimsHoldingIn : Cond.instanceMethod yX6_claimsHoldingIn ∈ TBL := tm 701 (by decide +kernel) (by decide +kernel)
theorem se_X6_claimsHoldingIn : Cond.selects RX6 yX6_claimsHoldingIn yX6_claimsHoldingIn ∈ TBL := tm 702 (by decide +kernel) (by decide +kernel)
theorem fl_X7_105 : Cond.fieldLink RX7 105 (TX6 8).1 (TX6 8).2.1 (TX6 8).2.2.1 ∈ TBL := tm 219 (by decide +kernel) (by decide +kernel)
theorem fl_X7_109 : Cond.fieldLink RX7 109 (TX6 7).1 (TX6 7).2.1 (TX6 7).2.2.1 ∈ TBL := tm 216 (by decide +kernel) (by decide +kernel)
theorem co_J6_bitCount_0f7a4 : Cond.code yJ6_bitCount_0f7a4 cJ6_bitCount_0f7a4 1 (some .int) ∈ TBL := tm 593 (by decide +kernel) (by decide +kernel)
theorem ml_X7_115 : Cond.methodLink RX7 115 yJ6_bitCount_0f7a4 ∈ TBL := tm 631 (by decide +kernel) (by decide +kernel)
theorem in_J6 : Cond.initialized RJ6 ∈ TBL := tm 136 (by decide +kernel) (by decide +kernel)
theorem sc_J6_bitCount_0f7a4 : Cond.static yJ6_bitCount_0f7a4 ∈ TBL := tm 592 (by decide +kernel) (by decide +kernel)
theorem co_X7_isBit : Cond.code yX7_isBit cX7_isBit 1 (some .boolean) ∈ TBL := tm 976 (by decide +kernel) (by decide +kernel)
theorem ml_X7_270 : Cond.methodLink RX7 270 yX7_isBit ∈ TBL := tm 974 (by decide +kernel) (by decide +kernel)
theorem in_X7 : Cond.initialized RX7 ∈ TBL := tm 122 (by decide +kernel) (by decide +kernel)
theorem sc_X7_isBit : Cond.static yX7_isBit ∈ TBL := tm 975 (by decide +kernel) (by decide +kernel)
theorem fl_X7_72 : Cond.fieldLink RX7 72 (TX7 11).1 (TX7 11).2.1 (TX7 11).2.2.1 ∈ TBL := tm 394 (by decide +kernel) (by decide +kernel)
theorem co_X0_worldThatComes : Cond.code yX0_worldThatComes cX0_worldThatComes 11 (some .int) ∈ TBL := tm 980 (by decide +kernel) (by decide +kernel)
theorem ml_X7_273 : Cond.methodLink RX7 273 yX0_worldThatComes ∈ TBL := tm 977 (by decide +kernel) (by decide +kernel)
theorem in_X0 : Cond.initialized RX0 ∈ TBL := tm 129 (by decide +kernel) (by decide +kernel)
theorem im_X0_worldThatComes : Cond.instanceMethod yX0_worldThatComes ∈ TBL := tm 978 (by decide +kernel) (by decide +kernel)
theorem se_X0_worldThatComes : Cond.selects RX0 yX0_worldThatComes yX0_worldThatComes ∈ TBL := tm 979 (by decide +kernel) (by decide +kernel)
theorem fl_X7_361 : Cond.fieldLink RX7 361 (TX6 1).1 (TX6 1).2.1 (TX6 1).2.2.1 ∈ TBL := tm 193 (by decide +kernel) (by decide +kernel)
theorem fl_X7_364 : Cond.fieldLink RX7 364 (TX6 2).1 (TX6 2).2.1 (TX6 2).2.2.1 ∈ TBL := tm 197 (by decide +kernel) (by decide +kernel)
theorem fl_X7_367 : Cond.fieldLink RX7 367 (TX6 3).1 (TX6 3).2.1 (TX6 3).2.2.1 ∈ TBL := tm 200 (by decide +kernel) (by decide +kernel)
theorem fl_X7_252 : Cond.fieldLink RX7 252 (TX6 4).1 (TX6 4).2.1 (TX6 4).2.2.1 ∈ TBL := tm 205 (by decide +kernel) (by decide +kernel)
theorem fl_X7_202 : Cond.fieldLink RX7 202 (TX6 5).1 (TX6 5).2.1 (TX6 5).2.2.1 ∈ TBL := tm 208 (by decide +kernel) (by decide +kernel)
theorem fl_X7_345 : Cond.fieldLink RX7 345 (TX6 6).1 (TX6 6).2.1 (TX6 6).2.2.1 ∈ TBL := tm 211 (by decide +kernel) (by decide +kernel)
theorem fl_X7_92 : Cond.fieldLink RX7 92 (TX6 0).1 (TX6 0).2.1 (TX6 0).2.2.1 ∈ TBL := tm 189 (by decide +kernel) (by decide +kernel)
theorem co_X7_rowsThere : Cond.code yX7_rowsThere cX7_rowsThere 3 (some .int) ∈ TBL := tm 1197 (by decide +kernel) (by decide +kernel)
theorem ml_X7_370 : Cond.methodLink RX7 370 yX7_rowsThere ∈ TBL := tm 1194 (by decide +kernel) (by decide +kernel)
theorem im_X7_rowsThere : Cond.instanceMethod yX7_rowsThere ∈ TBL := tm 1196 (by decide +kernel) (by decide +kernel)
theorem se_X7_rowsThere : Cond.selects RX7 yX7_rowsThere yX7_rowsThere ∈ TBL := tm 44 (by decide +kernel) (by decide +kernel)
theorem co_X6_isTold : Cond.code yX6_isTold cX6_isTold 1 (some .boolean) ∈ TBL := tm 675 (by decide +kernel) (by decide +kernel)
theorem ml_X7_149 : Cond.methodLink RX7 149 yX6_isTold ∈ TBL := tm 672 (by decide +kernel) (by decide +kernel)
theorem im_X6_isTold : Cond.instanceMethod yX6_isTold ∈ TBL := tm 673 (by decide +kernel) (by decide +kernel)
theorem se_X6_isTold : Cond.selects RX6 yX6_isTold yX6_isTold ∈ TBL := tm 674 (by decide +kernel) (by decide +kernel)
theorem co_X7_isSeed : Cond.code yX7_isSeed cX7_isSeed 1 (some .boolean) ∈ TBL := tm 1171 (by decide +kernel) (by decide +kernel)
theorem ml_X7_355 : Cond.methodLink RX7 355 yX7_isSeed ∈ TBL := tm 1169 (by decide +kernel) (by decide +kernel)
theorem sc_X7_isSeed : Cond.static yX7_isSeed ∈ TBL := tm 1170 (by decide +kernel) (by decide +kernel)
theorem co_X6_holedSteps : Cond.code yX6_holedSteps cX6_holedSteps 6 (some .int) ∈ TBL := tm 1176 (by decide +kernel) (by decide +kernel)
theorem ml_X7_358 : Cond.methodLink RX7 358 yX6_holedSteps ∈ TBL := tm 1173 (by decide +kernel) (by decide +kernel)
theorem im_X6_holedSteps : Cond.instanceMethod yX6_holedSteps ∈ TBL := tm 1174 (by decide +kernel) (by decide +kernel)
theorem se_X6_holedSteps : Cond.selects RX6 yX6_holedSteps yX6_holedSteps ∈ TBL := tm 1175 (by decide +kernel) (by decide +kernel)
theorem co_X6_dropStep : Cond.code yX6_dropStep cX6_dropStep 2 (none) ∈ TBL := tm 1160 (by decide +kernel) (by decide +kernel)
theorem ml_X7_352 : Cond.methodLink RX7 352 yX6_dropStep ∈ TBL := tm 1157 (by decide +kernel) (by decide +kernel)
theorem im_X6_dropStep : Cond.instanceMethod yX6_dropStep ∈ TBL := tm 1158 (by decide +kernel) (by decide +kernel)
theorem se_X6_dropStep : Cond.selects RX6 yX6_dropStep yX6_dropStep ∈ TBL := tm 1159 (by decide +kernel) (by decide +kernel)
theorem fl_X7_48 : Cond.fieldLink RX7 48 (TX7 7).1 (TX7 7).2.1 (TX7 7).2.2.1 ∈ TBL := tm 390 (by decide +kernel) (by decide +kernel)
theorem co_X7_bit : Cond.code yX7_bit cX7_bit 1 (some .int) ∈ TBL := tm 655 (by decide +kernel) (by decide +kernel)
theorem ml_X7_133 : Cond.methodLink RX7 133 yX7_bit ∈ TBL := tm 653 (by decide +kernel) (by decide +kernel)
theorem sc_X7_bit : Cond.static yX7_bit ∈ TBL := tm 654 (by decide +kernel) (by decide +kernel)
theorem co_X2_append : Cond.code yX2_append cX2_append 3 (none) ∈ TBL := tm 427 (by decide +kernel) (by decide +kernel)
theorem ml_X7_80 : Cond.methodLink RX7 80 yX2_append ∈ TBL := tm 424 (by decide +kernel) (by decide +kernel)
theorem in_X2 : Cond.initialized RX2 ∈ TBL := tm 123 (by decide +kernel) (by decide +kernel)
theorem im_X2_append : Cond.instanceMethod yX2_append ∈ TBL := tm 425 (by decide +kernel) (by decide +kernel)
theorem se_X2_append : Cond.selects RX2 yX2_append yX2_append ∈ TBL := tm 426 (by decide +kernel) (by decide +kernel)
theorem co_X6_hasGuest : Cond.code yX6_hasGuest cX6_hasGuest 2 (some .boolean) ∈ TBL := tm 663 (by decide +kernel) (by decide +kernel)
theorem ml_X7_137 : Cond.methodLink RX7 137 yX6_hasGuest ∈ TBL := tm 660 (by decide +kernel) (by decide +kernel)
theorem im_X6_hasGuest : Cond.instanceMethod yX6_hasGuest ∈ TBL := tm 661 (by decide +kernel) (by decide +kernel)
theorem se_X6_hasGuest : Cond.selects RX6 yX6_hasGuest yX6_hasGuest ∈ TBL := tm 662 (by decide +kernel) (by decide +kernel)
theorem fl_X7_140 : Cond.fieldLink RX7 140 (TX6 12).1 (TX6 12).2.1 (TX6 12).2.2.1 ∈ TBL := tm 236 (by decide +kernel) (by decide +kernel)
theorem fl_X7_143 : Cond.fieldLink RX7 143 (TX6 13).1 (TX6 13).2.1 (TX6 13).2.2.1 ∈ TBL := tm 241 (by decide +kernel) (by decide +kernel)
theorem co_X6_canDo : Cond.code yX6_canDo cX6_canDo 2 (some .int) ∈ TBL := tm 667 (by decide +kernel) (by decide +kernel)
theorem ml_X7_146 : Cond.methodLink RX7 146 yX6_canDo ∈ TBL := tm 664 (by decide +kernel) (by decide +kernel)
theorem im_X6_canDo : Cond.instanceMethod yX6_canDo ∈ TBL := tm 665 (by decide +kernel) (by decide +kernel)
theorem se_X6_canDo : Cond.selects RX6 yX6_canDo yX6_canDo ∈ TBL := tm 666 (by decide +kernel) (by decide +kernel)
theorem co_X7_greatestDivisor : Cond.code yX7_greatestDivisor cX7_greatestDivisor 6 (some .int) ∈ TBL := tm 1079 (by decide +kernel) (by decide +kernel)
theorem ml_X7_390 : Cond.methodLink RX7 390 yX7_greatestDivisor ∈ TBL := tm 1077 (by decide +kernel) (by decide +kernel)
theorem sc_X7_greatestDivisor : Cond.static yX7_greatestDivisor ∈ TBL := tm 1078 (by decide +kernel) (by decide +kernel)
theorem co_X7_isSlot : Cond.code yX7_isSlot cX7_isSlot 1 (some .boolean) ∈ TBL := tm 774 (by decide +kernel) (by decide +kernel)
theorem ml_X7_196 : Cond.methodLink RX7 196 yX7_isSlot ∈ TBL := tm 772 (by decide +kernel) (by decide +kernel)
theorem sc_X7_isSlot : Cond.static yX7_isSlot ∈ TBL := tm 773 (by decide +kernel) (by decide +kernel)
theorem fl_X7_380 : Cond.fieldLink RX7 380 (TX4 1).1 (TX4 1).2.1 (TX4 1).2.2.1 ∈ TBL := tm 284 (by decide +kernel) (by decide +kernel)
theorem fl_X7_338 : Cond.fieldLink RX7 338 (TX4 2).1 (TX4 2).2.1 (TX4 2).2.2.1 ∈ TBL := tm 288 (by decide +kernel) (by decide +kernel)
theorem fl_X7_341 : Cond.fieldLink RX7 341 (TX4 3).1 (TX4 3).2.1 (TX4 3).2.2.1 ∈ TBL := tm 292 (by decide +kernel) (by decide +kernel)
theorem ml_X7_383 : Cond.methodLink RX7 383 arraycopyName ∈ TBL := tm 1226 (by decide +kernel) (by decide +kernel)
theorem co_X4_begin : Cond.code yX4_begin cX4_begin 4 (none) ∈ TBL := tm 1213 (by decide +kernel) (by decide +kernel)
theorem ml_X7_373 : Cond.methodLink RX7 373 yX4_begin ∈ TBL := tm 1210 (by decide +kernel) (by decide +kernel)
theorem in_X4 : Cond.initialized RX4 ∈ TBL := tm 125 (by decide +kernel) (by decide +kernel)
theorem im_X4_begin : Cond.instanceMethod yX4_begin ∈ TBL := tm 1211 (by decide +kernel) (by decide +kernel)
theorem se_X4_begin : Cond.selects RX4 yX4_begin yX4_begin ∈ TBL := tm 1212 (by decide +kernel) (by decide +kernel)
theorem co_X7_withBit : Cond.code yX7_withBit cX7_withBit 3 (some .int) ∈ TBL := tm 1127 (by decide +kernel) (by decide +kernel)
theorem ml_X7_329 : Cond.methodLink RX7 329 yX7_withBit ∈ TBL := tm 1125 (by decide +kernel) (by decide +kernel)
theorem sc_X7_withBit : Cond.static yX7_withBit ∈ TBL := tm 1126 (by decide +kernel) (by decide +kernel)
theorem co_X6_hasStep : Cond.code yX6_hasStep cX6_hasStep 2 (some .boolean) ∈ TBL := tm 643 (by decide +kernel) (by decide +kernel)
theorem ml_X7_121 : Cond.methodLink RX7 121 yX6_hasStep ∈ TBL := tm 640 (by decide +kernel) (by decide +kernel)
theorem im_X6_hasStep : Cond.instanceMethod yX6_hasStep ∈ TBL := tm 641 (by decide +kernel) (by decide +kernel)
theorem se_X6_hasStep : Cond.selects RX6 yX6_hasStep yX6_hasStep ∈ TBL := tm 642 (by decide +kernel) (by decide +kernel)
theorem co_X4_cut : Cond.code yX4_cut cX4_cut 3 (some .long) ∈ TBL := tm 1221 (by decide +kernel) (by decide +kernel)
theorem ml_X7_376 : Cond.methodLink RX7 376 yX4_cut ∈ TBL := tm 1218 (by decide +kernel) (by decide +kernel)
theorem im_X4_cut : Cond.instanceMethod yX4_cut ∈ TBL := tm 1219 (by decide +kernel) (by decide +kernel)
theorem se_X4_cut : Cond.selects RX4 yX4_cut yX4_cut ∈ TBL := tm 1220 (by decide +kernel) (by decide +kernel)
theorem fl_X1_85 : Cond.fieldLink RX1 85 (TX6 4).1 (TX6 4).2.1 (TX6 4).2.2.1 ∈ TBL := tm 203 (by decide +kernel) (by decide +kernel)
theorem ml_X1_66 : Cond.methodLink RX1 66 Lib.Math.max.name ∈ TBL := tm 1013 (by decide +kernel) (by decide +kernel)
theorem fl_X2_30 : Cond.fieldLink RX2 30 (TX2 6).1 (TX2 6).2.1 (TX2 6).2.2.1 ∈ TBL := tm 161 (by decide +kernel) (by decide +kernel)
theorem co_X2_kindAt : Cond.code yX2_kindAt cX2_kindAt 3 (some .int) ∈ TBL := tm 451 (by decide +kernel) (by decide +kernel)
theorem ml_X2_199 : Cond.methodLink RX2 199 yX2_kindAt ∈ TBL := tm 448 (by decide +kernel) (by decide +kernel)
theorem im_X2_kindAt : Cond.instanceMethod yX2_kindAt ∈ TBL := tm 450 (by decide +kernel) (by decide +kernel)
theorem se_X2_kindAt : Cond.selects RX2 yX2_kindAt yX2_kindAt ∈ TBL := tm 1 (by decide +kernel) (by decide +kernel)
theorem cn_X2_202 : Cond.constant RX2 202 100000 ∈ TBL := tm 452 (by decide +kernel) (by decide +kernel)
theorem ml_X2_203 : Cond.methodLink RX2 203 Lib.Math.min.name ∈ TBL := tm 453 (by decide +kernel) (by decide +kernel)
theorem fl_X3_30 : Cond.fieldLink RX3 30 (TX4 2).1 (TX4 2).2.1 (TX4 2).2.2.1 ∈ TBL := tm 287 (by decide +kernel) (by decide +kernel)
theorem fl_X3_19 : Cond.fieldLink RX3 19 (TX3 1).1 (TX3 1).2.1 (TX3 1).2.2.1 ∈ TBL := tm 323 (by decide +kernel) (by decide +kernel)
theorem fl_X3_35 : Cond.fieldLink RX3 35 (TX4 3).1 (TX4 3).2.1 (TX4 3).2.2.1 ∈ TBL := tm 291 (by decide +kernel) (by decide +kernel)
theorem co_X3_reasonAgainst : Cond.code yX3_reasonAgainst cX3_reasonAgainst 3 (some .int) ∈ TBL := tm 786 (by decide +kernel) (by decide +kernel)
theorem ml_X3_39 : Cond.methodLink RX3 39 yX3_reasonAgainst ∈ TBL := tm 783 (by decide +kernel) (by decide +kernel)
theorem in_X3 : Cond.initialized RX3 ∈ TBL := tm 127 (by decide +kernel) (by decide +kernel)
theorem im_X3_reasonAgainst : Cond.instanceMethod yX3_reasonAgainst ∈ TBL := tm 785 (by decide +kernel) (by decide +kernel)
theorem se_X3_reasonAgainst : Cond.selects RX3 yX3_reasonAgainst yX3_reasonAgainst ∈ TBL := tm 24 (by decide +kernel) (by decide +kernel)
theorem co_X3_usedForAll : Cond.code yX3_usedForAll cX3_usedForAll 5 (some .int) ∈ TBL := tm 790 (by decide +kernel) (by decide +kernel)
theorem ml_X3_49 : Cond.methodLink RX3 49 yX3_usedForAll ∈ TBL := tm 787 (by decide +kernel) (by decide +kernel)
theorem im_X3_usedForAll : Cond.instanceMethod yX3_usedForAll ∈ TBL := tm 789 (by decide +kernel) (by decide +kernel)
theorem se_X3_usedForAll : Cond.selects RX3 yX3_usedForAll yX3_usedForAll ∈ TBL := tm 25 (by decide +kernel) (by decide +kernel)
theorem fl_X3_15 : Cond.fieldLink RX3 15 (TX3 0).1 (TX3 0).2.1 (TX3 0).2.2.1 ∈ TBL := tm 321 (by decide +kernel) (by decide +kernel)
theorem fl_X3_22 : Cond.fieldLink RX3 22 (TX6 7).1 (TX6 7).2.1 (TX6 7).2.2.1 ∈ TBL := tm 212 (by decide +kernel) (by decide +kernel)
theorem co_X6_worthOf : Cond.code yX6_worthOf cX6_worthOf 4 (some .int) ∈ TBL := tm 813 (by decide +kernel) (by decide +kernel)
theorem ml_X3_72 : Cond.methodLink RX3 72 yX6_worthOf ∈ TBL := tm 810 (by decide +kernel) (by decide +kernel)
theorem im_X6_worthOf : Cond.instanceMethod yX6_worthOf ∈ TBL := tm 811 (by decide +kernel) (by decide +kernel)
theorem se_X6_worthOf : Cond.selects RX6 yX6_worthOf yX6_worthOf ∈ TBL := tm 812 (by decide +kernel) (by decide +kernel)
theorem co_X6_goes : Cond.code yX6_goes cX6_goes 3 (some .boolean) ∈ TBL := tm 742 (by decide +kernel) (by decide +kernel)
theorem ml_X3_68 : Cond.methodLink RX3 68 yX6_goes ∈ TBL := tm 809 (by decide +kernel) (by decide +kernel)
theorem im_X6_goes : Cond.instanceMethod yX6_goes ∈ TBL := tm 740 (by decide +kernel) (by decide +kernel)
theorem se_X6_goes : Cond.selects RX6 yX6_goes yX6_goes ∈ TBL := tm 741 (by decide +kernel) (by decide +kernel)
theorem fl_X3_65 : Cond.fieldLink RX3 65 (TX6 13).1 (TX6 13).2.1 (TX6 13).2.2.1 ∈ TBL := tm 240 (by decide +kernel) (by decide +kernel)
theorem ml_X3_55 : Cond.methodLink RX3 55 yX6_canDo ∈ TBL := tm 807 (by decide +kernel) (by decide +kernel)
theorem ml_X3_59 : Cond.methodLink RX3 59 Lib.Math.min.name ∈ TBL := tm 808 (by decide +kernel) (by decide +kernel)
theorem ml_X5_15 : Cond.methodLink RX5 15 yJ6_bitCount_0f7a4 ∈ TBL := tm 731 (by decide +kernel) (by decide +kernel)
theorem ml_X6_55 : Cond.methodLink RX6 55 arraycopyName ∈ TBL := tm 616 (by decide +kernel) (by decide +kernel)
theorem ml_X6_84 : Cond.methodLink RX6 84 yX6_goes ∈ TBL := tm 747 (by decide +kernel) (by decide +kernel)
theorem ml_X6_61 : Cond.methodLink RX6 61 yX6_isTold ∈ TBL := tm 907 (by decide +kernel) (by decide +kernel)
theorem ml_X6_88 : Cond.methodLink RX6 88 yX6_canDo ∈ TBL := tm 945 (by decide +kernel) (by decide +kernel)
theorem co_X6_allWorlds : Cond.code yX6_allWorlds cX6_allWorlds 1 (some .int) ∈ TBL := tm 554 (by decide +kernel) (by decide +kernel)
theorem ml_X6_65 : Cond.methodLink RX6 65 yX6_allWorlds ∈ TBL := tm 652 (by decide +kernel) (by decide +kernel)
theorem im_X6_allWorlds : Cond.instanceMethod yX6_allWorlds ∈ TBL := tm 552 (by decide +kernel) (by decide +kernel)
theorem se_X6_allWorlds : Cond.selects RX6 yX6_allWorlds yX6_allWorlds ∈ TBL := tm 553 (by decide +kernel) (by decide +kernel)
theorem fl_X8_111 : Cond.fieldLink RX8 111 (TX8 10).1 (TX8 10).2.1 (TX8 10).2.2.1 ∈ TBL := tm 1242 (by decide +kernel) (by decide +kernel)
theorem fl_X8_101 : Cond.fieldLink RX8 101 (TX8 8).1 (TX8 8).2.1 (TX8 8).2.2.1 ∈ TBL := tm 1240 (by decide +kernel) (by decide +kernel)
theorem co_X8_see : Cond.code yX8_see cX8_see 2 (some .int) ∈ TBL := tm 1370 (by decide +kernel) (by decide +kernel)
theorem ml_X8_104 : Cond.methodLink RX8 104 yX8_see ∈ TBL := tm 1367 (by decide +kernel) (by decide +kernel)
theorem in_X8 : Cond.initialized RX8 ∈ TBL := tm 130 (by decide +kernel) (by decide +kernel)
theorem im_X8_see : Cond.instanceMethod yX8_see ∈ TBL := tm 1369 (by decide +kernel) (by decide +kernel)
theorem se_X8_see : Cond.selects RX8 yX8_see yX8_see ∈ TBL := tm 46 (by decide +kernel) (by decide +kernel)
theorem cn_X8_118 : Cond.constantLong RX8 118 (48) ∈ TBL := tm 1373 (by decide +kernel) (by decide +kernel)
theorem cn_X8_120 : Cond.constantLong RX8 120 (57) ∈ TBL := tm 1374 (by decide +kernel) (by decide +kernel)
theorem co_X8_in : Cond.code yX8_in cX8_in 6 (some .boolean) ∈ TBL := tm 1342 (by decide +kernel) (by decide +kernel)
theorem ml_X8_83 : Cond.methodLink RX8 83 yX8_in ∈ TBL := tm 1340 (by decide +kernel) (by decide +kernel)
theorem sc_X8_in : Cond.static yX8_in ∈ TBL := tm 1341 (by decide +kernel) (by decide +kernel)
theorem cn_X8_125 : Cond.constant RX8 125 99999 ∈ TBL := tm 1375 (by decide +kernel) (by decide +kernel)
theorem fl_X8_122 : Cond.fieldLink RX8 122 (TX8 11).1 (TX8 11).2.1 (TX8 11).2.2.1 ∈ TBL := tm 1243 (by decide +kernel) (by decide +kernel)
theorem ml_X8_126 : Cond.methodLink RX8 126 Lib.Math.min.name ∈ TBL := tm 1376 (by decide +kernel) (by decide +kernel)
theorem cn_X8_114 : Cond.constantLong RX8 114 (97) ∈ TBL := tm 1371 (by decide +kernel) (by decide +kernel)
theorem cn_X8_116 : Cond.constantLong RX8 116 (122) ∈ TBL := tm 1372 (by decide +kernel) (by decide +kernel)
theorem fl_X8_108 : Cond.fieldLink RX8 108 (TX8 9).1 (TX8 9).2.1 (TX8 9).2.2.1 ∈ TBL := tm 1241 (by decide +kernel) (by decide +kernel)
theorem co_X8_worlds : Cond.code yX8_worlds cX8_worlds 1 (some .int) ∈ TBL := tm 1530 (by decide +kernel) (by decide +kernel)
theorem ml_X8_87 : Cond.methodLink RX8 87 yX8_worlds ∈ TBL := tm 1527 (by decide +kernel) (by decide +kernel)
theorem im_X8_worlds : Cond.instanceMethod yX8_worlds ∈ TBL := tm 1529 (by decide +kernel) (by decide +kernel)
theorem se_X8_worlds : Cond.selects RX8 yX8_worlds yX8_worlds ∈ TBL := tm 74 (by decide +kernel) (by decide +kernel)
theorem co_X8_isTable : Cond.code yX8_isTable cX8_isTable 1 (some .boolean) ∈ TBL := tm 1554 (by decide +kernel) (by decide +kernel)
theorem ml_X8_291 : Cond.methodLink RX8 291 yX8_isTable ∈ TBL := tm 1551 (by decide +kernel) (by decide +kernel)
theorem im_X8_isTable : Cond.instanceMethod yX8_isTable ∈ TBL := tm 1553 (by decide +kernel) (by decide +kernel)
theorem se_X8_isTable : Cond.selects RX8 yX8_isTable yX8_isTable ∈ TBL := tm 78 (by decide +kernel) (by decide +kernel)
theorem co_X8_allClaims : Cond.code yX8_allClaims cX8_allClaims 1 (some .int) ∈ TBL := tm 1741 (by decide +kernel) (by decide +kernel)
theorem ml_X8_363 : Cond.methodLink RX8 363 yX8_allClaims ∈ TBL := tm 1738 (by decide +kernel) (by decide +kernel)
theorem im_X8_allClaims : Cond.instanceMethod yX8_allClaims ∈ TBL := tm 1740 (by decide +kernel) (by decide +kernel)
theorem se_X8_allClaims : Cond.selects RX8 yX8_allClaims yX8_allClaims ∈ TBL := tm 99 (by decide +kernel) (by decide +kernel)
theorem co_X8_allGuests : Cond.code yX8_allGuests cX8_allGuests 1 (some .int) ∈ TBL := tm 1765 (by decide +kernel) (by decide +kernel)
theorem ml_X8_375 : Cond.methodLink RX8 375 yX8_allGuests ∈ TBL := tm 1762 (by decide +kernel) (by decide +kernel)
theorem im_X8_allGuests : Cond.instanceMethod yX8_allGuests ∈ TBL := tm 1764 (by decide +kernel) (by decide +kernel)
theorem se_X8_allGuests : Cond.selects RX8 yX8_allGuests yX8_allGuests ∈ TBL := tm 103 (by decide +kernel) (by decide +kernel)
theorem co_X8_bit : Cond.code yX8_bit cX8_bit 2 (some .int) ∈ TBL := tm 1452 (by decide +kernel) (by decide +kernel)
theorem ml_X8_168 : Cond.methodLink RX8 168 yX8_bit ∈ TBL := tm 1450 (by decide +kernel) (by decide +kernel)
theorem sc_X8_bit : Cond.static yX8_bit ∈ TBL := tm 1451 (by decide +kernel) (by decide +kernel)
theorem fl_X8_13 : Cond.fieldLink RX8 13 (TX8 2).1 (TX8 2).2.1 (TX8 2).2.2.1 ∈ TBL := tm 1234 (by decide +kernel) (by decide +kernel)
theorem cn_X8_81 : Cond.constantLong RX8 81 (2) ∈ TBL := tm 1339 (by decide +kernel) (by decide +kernel)
theorem fl_X8_16 : Cond.fieldLink RX8 16 (TX8 3).1 (TX8 3).2.1 (TX8 3).2.2.1 ∈ TBL := tm 1235 (by decide +kernel) (by decide +kernel)
theorem co_X8_ofGuest : Cond.code yX8_ofGuest cX8_ofGuest 3 (some .int) ∈ TBL := tm 1542 (by decide +kernel) (by decide +kernel)
theorem ml_X8_282 : Cond.methodLink RX8 282 yX8_ofGuest ∈ TBL := tm 1539 (by decide +kernel) (by decide +kernel)
theorem im_X8_ofGuest : Cond.instanceMethod yX8_ofGuest ∈ TBL := tm 1541 (by decide +kernel) (by decide +kernel)
theorem se_X8_ofGuest : Cond.selects RX8 yX8_ofGuest yX8_ofGuest ∈ TBL := tm 76 (by decide +kernel) (by decide +kernel)
theorem fl_X8_49 : Cond.fieldLink RX8 49 (TX8 24).1 (TX8 24).2.1 (TX8 24).2.2.1 ∈ TBL := tm 1256 (by decide +kernel) (by decide +kernel)
theorem fl_X8_52 : Cond.fieldLink RX8 52 (TX8 25).1 (TX8 25).2.1 (TX8 25).2.2.1 ∈ TBL := tm 1257 (by decide +kernel) (by decide +kernel)
theorem fl_X8_55 : Cond.fieldLink RX8 55 (TX8 26).1 (TX8 26).2.1 (TX8 26).2.2.1 ∈ TBL := tm 1258 (by decide +kernel) (by decide +kernel)
theorem fl_X8_400 : Cond.fieldLink RX8 400 (TX8 28).1 (TX8 28).2.1 (TX8 28).2.2.1 ∈ TBL := tm 1260 (by decide +kernel) (by decide +kernel)
theorem ml_X8_397 : Cond.methodLink RX8 397 Lib.Math.max.name ∈ TBL := tm 1834 (by decide +kernel) (by decide +kernel)
theorem co_X8_ofStep : Cond.code yX8_ofStep cX8_ofStep 3 (some .int) ∈ TBL := tm 1514 (by decide +kernel) (by decide +kernel)
theorem ml_X8_263 : Cond.methodLink RX8 263 yX8_ofStep ∈ TBL := tm 1511 (by decide +kernel) (by decide +kernel)
theorem im_X8_ofStep : Cond.instanceMethod yX8_ofStep ∈ TBL := tm 1513 (by decide +kernel) (by decide +kernel)
theorem se_X8_ofStep : Cond.selects RX8 yX8_ofStep yX8_ofStep ∈ TBL := tm 70 (by decide +kernel) (by decide +kernel)
theorem fl_X8_46 : Cond.fieldLink RX8 46 (TX8 23).1 (TX8 23).2.1 (TX8 23).2.2.1 ∈ TBL := tm 1255 (by decide +kernel) (by decide +kernel)
theorem co_X8_allSteps : Cond.code yX8_allSteps cX8_allSteps 1 (some .int) ∈ TBL := tm 1601 (by decide +kernel) (by decide +kernel)
theorem ml_X8_304 : Cond.methodLink RX8 304 yX8_allSteps ∈ TBL := tm 1598 (by decide +kernel) (by decide +kernel)
theorem im_X8_allSteps : Cond.instanceMethod yX8_allSteps ∈ TBL := tm 1600 (by decide +kernel) (by decide +kernel)
theorem se_X8_allSteps : Cond.selects RX8 yX8_allSteps yX8_allSteps ∈ TBL := tm 83 (by decide +kernel) (by decide +kernel)
theorem co_X8_numberAt : Cond.code yX8_numberAt cX8_numberAt 3 (some .long) ∈ TBL := tm 1637 (by decide +kernel) (by decide +kernel)
theorem ml_X8_319 : Cond.methodLink RX8 319 yX8_numberAt ∈ TBL := tm 1634 (by decide +kernel) (by decide +kernel)
theorem im_X8_numberAt : Cond.instanceMethod yX8_numberAt ∈ TBL := tm 1636 (by decide +kernel) (by decide +kernel)
theorem se_X8_numberAt : Cond.selects RX8 yX8_numberAt yX8_numberAt ∈ TBL := tm 88 (by decide +kernel) (by decide +kernel)
theorem co_X8_good : Cond.code yX8_good cX8_good 1 (some .boolean) ∈ TBL := tm 1380 (by decide +kernel) (by decide +kernel)
theorem ml_X8_134 : Cond.methodLink RX8 134 yX8_good ∈ TBL := tm 1377 (by decide +kernel) (by decide +kernel)
theorem im_X8_good : Cond.instanceMethod yX8_good ∈ TBL := tm 1379 (by decide +kernel) (by decide +kernel)
theorem se_X8_good : Cond.selects RX8 yX8_good yX8_good ∈ TBL := tm 47 (by decide +kernel) (by decide +kernel)
theorem fl_X8_43 : Cond.fieldLink RX8 43 (TX8 22).1 (TX8 22).2.1 (TX8 22).2.2.1 ∈ TBL := tm 1254 (by decide +kernel) (by decide +kernel)
theorem co_X8_ofClaim : Cond.code yX8_ofClaim cX8_ofClaim 3 (some .int) ∈ TBL := tm 1491 (by decide +kernel) (by decide +kernel)
theorem ml_X8_91 : Cond.methodLink RX8 91 yX8_ofClaim ∈ TBL := tm 1488 (by decide +kernel) (by decide +kernel)
theorem im_X8_ofClaim : Cond.instanceMethod yX8_ofClaim ∈ TBL := tm 1490 (by decide +kernel) (by decide +kernel)
theorem se_X8_ofClaim : Cond.selects RX8 yX8_ofClaim yX8_ofClaim ∈ TBL := tm 68 (by decide +kernel) (by decide +kernel)
theorem cn_X8_457 : Cond.constantLong RX8 457 (2000000000) ∈ TBL := tm 1971 (by decide +kernel) (by decide +kernel)
theorem cn_X8_445 : Cond.constantLong RX8 445 (3) ∈ TBL := tm 1633 (by decide +kernel) (by decide +kernel)
theorem co_X8_freshAll : Cond.code yX8_freshAll cX8_freshAll 1 (some .int) ∈ TBL := tm 1444 (by decide +kernel) (by decide +kernel)
theorem ml_X8_181 : Cond.methodLink RX8 181 yX8_freshAll ∈ TBL := tm 1441 (by decide +kernel) (by decide +kernel)
theorem im_X8_freshAll : Cond.instanceMethod yX8_freshAll ∈ TBL := tm 1443 (by decide +kernel) (by decide +kernel)
theorem se_X8_freshAll : Cond.selects RX8 yX8_freshAll yX8_freshAll ∈ TBL := tm 59 (by decide +kernel) (by decide +kernel)
theorem co_X8_divisor : Cond.code yX8_divisor cX8_divisor 5 (some .int) ∈ TBL := tm 1891 (by decide +kernel) (by decide +kernel)
theorem ml_X8_424 : Cond.methodLink RX8 424 yX8_divisor ∈ TBL := tm 1889 (by decide +kernel) (by decide +kernel)
theorem sc_X8_divisor : Cond.static yX8_divisor ∈ TBL := tm 1890 (by decide +kernel) (by decide +kernel)
theorem co_X6_isClaimSet : Cond.code yX6_isClaimSet cX6_isClaimSet 2 (some .boolean) ∈ TBL := tm 906 (by decide +kernel) (by decide +kernel)
theorem ml_X7_240 : Cond.methodLink RX7 240 yX6_isClaimSet ∈ TBL := tm 903 (by decide +kernel) (by decide +kernel)
theorem im_X6_isClaimSet : Cond.instanceMethod yX6_isClaimSet ∈ TBL := tm 904 (by decide +kernel) (by decide +kernel)
theorem se_X6_isClaimSet : Cond.selects RX6 yX6_isClaimSet yX6_isClaimSet ∈ TBL := tm 905 (by decide +kernel) (by decide +kernel)
theorem co_X6_addStep : Cond.code yX6_addStep cX6_addStep 3 (none) ∈ TBL := tm 600 (by decide +kernel) (by decide +kernel)
theorem ml_X7_348 : Cond.methodLink RX7 348 yX6_addStep ∈ TBL := tm 1152 (by decide +kernel) (by decide +kernel)
theorem im_X6_addStep : Cond.instanceMethod yX6_addStep ∈ TBL := tm 598 (by decide +kernel) (by decide +kernel)
theorem se_X6_addStep : Cond.selects RX6 yX6_addStep yX6_addStep ∈ TBL := tm 599 (by decide +kernel) (by decide +kernel)
theorem fl_X7_30 : Cond.fieldLink RX7 30 (TX7 4).1 (TX7 4).2.1 (TX7 4).2.2.1 ∈ TBL := tm 387 (by decide +kernel) (by decide +kernel)
theorem fl_X7_26 : Cond.fieldLink RX7 26 (TX7 3).1 (TX7 3).2.1 (TX7 3).2.2.1 ∈ TBL := tm 386 (by decide +kernel) (by decide +kernel)
theorem co_X6_copyFrom : Cond.code yX6_copyFrom cX6_copyFrom 2 (none) ∈ TBL := tm 615 (by decide +kernel) (by decide +kernel)
theorem ml_X7_88 : Cond.methodLink RX7 88 yX6_copyFrom ∈ TBL := tm 612 (by decide +kernel) (by decide +kernel)
theorem im_X6_copyFrom : Cond.instanceMethod yX6_copyFrom ∈ TBL := tm 613 (by decide +kernel) (by decide +kernel)
theorem se_X6_copyFrom : Cond.selects RX6 yX6_copyFrom yX6_copyFrom ∈ TBL := tm 614 (by decide +kernel) (by decide +kernel)
theorem co_X6_worldsOf : Cond.code yX6_worldsOf cX6_worldsOf 4 (some .int) ∈ TBL := tm 651 (by decide +kernel) (by decide +kernel)
theorem ml_X7_153 : Cond.methodLink RX7 153 yX6_worldsOf ∈ TBL := tm 676 (by decide +kernel) (by decide +kernel)
theorem im_X6_worldsOf : Cond.instanceMethod yX6_worldsOf ∈ TBL := tm 649 (by decide +kernel) (by decide +kernel)
theorem se_X6_worldsOf : Cond.selects RX6 yX6_worldsOf yX6_worldsOf ∈ TBL := tm 650 (by decide +kernel) (by decide +kernel)
theorem co_X7_lowestBit : Cond.code yX7_lowestBit cX7_lowestBit 1 (some .int) ∈ TBL := tm 691 (by decide +kernel) (by decide +kernel)
theorem ml_X7_160 : Cond.methodLink RX7 160 yX7_lowestBit ∈ TBL := tm 689 (by decide +kernel) (by decide +kernel)
theorem sc_X7_lowestBit : Cond.static yX7_lowestBit ∈ TBL := tm 690 (by decide +kernel) (by decide +kernel)
theorem co_X7_partOfFraction : Cond.code yX7_partOfFraction cX7_partOfFraction 4 (some .int) ∈ TBL := tm 1076 (by decide +kernel) (by decide +kernel)
theorem ml_X7_313 : Cond.methodLink RX7 313 yX7_partOfFraction ∈ TBL := tm 1074 (by decide +kernel) (by decide +kernel)
theorem sc_X7_partOfFraction : Cond.static yX7_partOfFraction ∈ TBL := tm 1075 (by decide +kernel) (by decide +kernel)
theorem co_X7_refusalOfSlot : Cond.code yX7_refusalOfSlot cX7_refusalOfSlot 2 (some .int) ∈ TBL := tm 771 (by decide +kernel) (by decide +kernel)
theorem ml_X7_393 : Cond.methodLink RX7 393 yX7_refusalOfSlot ∈ TBL := tm 768 (by decide +kernel) (by decide +kernel)
theorem im_X7_refusalOfSlot : Cond.instanceMethod yX7_refusalOfSlot ∈ TBL := tm 770 (by decide +kernel) (by decide +kernel)
theorem se_X7_refusalOfSlot : Cond.selects RX7 yX7_refusalOfSlot yX7_refusalOfSlot ∈ TBL := tm 23 (by decide +kernel) (by decide +kernel)
theorem co_X4_areAllBelow : Cond.code yX4_areAllBelow cX4_areAllBelow 3 (some .boolean) ∈ TBL := tm 778 (by decide +kernel) (by decide +kernel)
theorem ml_X7_205 : Cond.methodLink RX7 205 yX4_areAllBelow ∈ TBL := tm 775 (by decide +kernel) (by decide +kernel)
theorem im_X4_areAllBelow : Cond.instanceMethod yX4_areAllBelow ∈ TBL := tm 776 (by decide +kernel) (by decide +kernel)
theorem se_X4_areAllBelow : Cond.selects RX4 yX4_areAllBelow yX4_areAllBelow ∈ TBL := tm 777 (by decide +kernel) (by decide +kernel)
theorem co_X4_asSet : Cond.code yX4_asSet cX4_asSet 3 (some .int) ∈ TBL := tm 1139 (by decide +kernel) (by decide +kernel)
theorem ml_X7_335 : Cond.methodLink RX7 335 yX4_asSet ∈ TBL := tm 1136 (by decide +kernel) (by decide +kernel)
theorem im_X4_asSet : Cond.instanceMethod yX4_asSet ∈ TBL := tm 1137 (by decide +kernel) (by decide +kernel)
theorem se_X4_asSet : Cond.selects RX4 yX4_asSet yX4_asSet ∈ TBL := tm 1138 (by decide +kernel) (by decide +kernel)
theorem co_X4_arePairsBelow : Cond.code yX4_arePairsBelow cX4_arePairsBelow 5 (some .boolean) ∈ TBL := tm 996 (by decide +kernel) (by decide +kernel)
theorem ml_X7_396 : Cond.methodLink RX7 396 yX4_arePairsBelow ∈ TBL := tm 993 (by decide +kernel) (by decide +kernel)
theorem im_X4_arePairsBelow : Cond.instanceMethod yX4_arePairsBelow ∈ TBL := tm 994 (by decide +kernel) (by decide +kernel)
theorem se_X4_arePairsBelow : Cond.selects RX4 yX4_arePairsBelow yX4_arePairsBelow ∈ TBL := tm 995 (by decide +kernel) (by decide +kernel)
theorem fl_X7_58 : Cond.fieldLink RX7 58 (TX7 9).1 (TX7 9).2.1 (TX7 9).2.2.1 ∈ TBL := tm 392 (by decide +kernel) (by decide +kernel)
theorem co_X3_read : Cond.code yX3_read cX3_read 5 (none) ∈ TBL := tm 782 (by decide +kernel) (by decide +kernel)
theorem ml_X7_176 : Cond.methodLink RX7 176 yX3_read ∈ TBL := tm 779 (by decide +kernel) (by decide +kernel)
theorem im_X3_read : Cond.instanceMethod yX3_read ∈ TBL := tm 780 (by decide +kernel) (by decide +kernel)
theorem se_X3_read : Cond.selects RX3 yX3_read yX3_read ∈ TBL := tm 781 (by decide +kernel) (by decide +kernel)
theorem fl_X7_193 : Cond.fieldLink RX7 193 (TX3 3).1 (TX3 3).2.1 (TX3 3).2.2.1 ∈ TBL := tm 328 (by decide +kernel) (by decide +kernel)
theorem co_X6_isGuestSet : Cond.code yX6_isGuestSet cX6_isGuestSet 2 (some .boolean) ∈ TBL := tm 923 (by decide +kernel) (by decide +kernel)
theorem ml_X7_249 : Cond.methodLink RX7 249 yX6_isGuestSet ∈ TBL := tm 920 (by decide +kernel) (by decide +kernel)
theorem im_X6_isGuestSet : Cond.instanceMethod yX6_isGuestSet ∈ TBL := tm 921 (by decide +kernel) (by decide +kernel)
theorem se_X6_isGuestSet : Cond.selects RX6 yX6_isGuestSet yX6_isGuestSet ∈ TBL := tm 922 (by decide +kernel) (by decide +kernel)
theorem co_X6_teamCanDo : Cond.code yX6_teamCanDo cX6_teamCanDo 4 (some .int) ∈ TBL := tm 944 (by decide +kernel) (by decide +kernel)
theorem ml_X7_261 : Cond.methodLink RX7 261 yX6_teamCanDo ∈ TBL := tm 941 (by decide +kernel) (by decide +kernel)
theorem im_X6_teamCanDo : Cond.instanceMethod yX6_teamCanDo ∈ TBL := tm 942 (by decide +kernel) (by decide +kernel)
theorem se_X6_teamCanDo : Cond.selects RX6 yX6_teamCanDo yX6_teamCanDo ∈ TBL := tm 943 (by decide +kernel) (by decide +kernel)
theorem fl_X1_56 : Cond.fieldLink RX1 56 (TX6 11).1 (TX6 11).2.1 (TX6 11).2.2.1 ∈ TBL := tm 232 (by decide +kernel) (by decide +kernel)
theorem co_X1_hourOfAll : Cond.code yX1_hourOfAll cX1_hourOfAll 5 (some .int) ∈ TBL := tm 1012 (by decide +kernel) (by decide +kernel)
theorem ml_X1_59 : Cond.methodLink RX1 59 yX1_hourOfAll ∈ TBL := tm 1009 (by decide +kernel) (by decide +kernel)
theorem in_X1 : Cond.initialized RX1 ∈ TBL := tm 128 (by decide +kernel) (by decide +kernel)
theorem im_X1_hourOfAll : Cond.instanceMethod yX1_hourOfAll ∈ TBL := tm 1011 (by decide +kernel) (by decide +kernel)
theorem se_X1_hourOfAll : Cond.selects RX1 yX1_hourOfAll yX1_hourOfAll ∈ TBL := tm 38 (by decide +kernel) (by decide +kernel)
theorem fl_X1_63 : Cond.fieldLink RX1 63 (TX6 13).1 (TX6 13).2.1 (TX6 13).2.2.1 ∈ TBL := tm 239 (by decide +kernel) (by decide +kernel)
theorem fl_X1_72 : Cond.fieldLink RX1 72 (TX6 12).1 (TX6 12).2.1 (TX6 12).2.2.1 ∈ TBL := tm 235 (by decide +kernel) (by decide +kernel)
theorem fl_X1_75 : Cond.fieldLink RX1 75 (TX6 2).1 (TX6 2).2.1 (TX6 2).2.2.1 ∈ TBL := tm 195 (by decide +kernel) (by decide +kernel)
theorem fl_X1_78 : Cond.fieldLink RX1 78 (TX6 10).1 (TX6 10).2.1 (TX6 10).2.2.1 ∈ TBL := tm 228 (by decide +kernel) (by decide +kernel)
theorem co_X1_give : Cond.code yX1_give cX1_give 4 (none) ∈ TBL := tm 1019 (by decide +kernel) (by decide +kernel)
theorem ml_X1_81 : Cond.methodLink RX1 81 yX1_give ∈ TBL := tm 1016 (by decide +kernel) (by decide +kernel)
theorem im_X1_give : Cond.instanceMethod yX1_give ∈ TBL := tm 1018 (by decide +kernel) (by decide +kernel)
theorem se_X1_give : Cond.selects RX1 yX1_give yX1_give ∈ TBL := tm 39 (by decide +kernel) (by decide +kernel)
theorem co_X2_fail : Cond.code yX2_fail cX2_fail 2 (some .boolean) ∈ TBL := tm 524 (by decide +kernel) (by decide +kernel)
theorem ml_X2_77 : Cond.methodLink RX2 77 yX2_fail ∈ TBL := tm 521 (by decide +kernel) (by decide +kernel)
theorem im_X2_fail : Cond.instanceMethod yX2_fail ∈ TBL := tm 523 (by decide +kernel) (by decide +kernel)
theorem se_X2_fail : Cond.selects RX2 yX2_fail yX2_fail ∈ TBL := tm 6 (by decide +kernel) (by decide +kernel)
theorem co_X2_advance : Cond.code yX2_advance cX2_advance 2 (none) ∈ TBL := tm 447 (by decide +kernel) (by decide +kernel)
theorem ml_X2_33 : Cond.methodLink RX2 33 yX2_advance ∈ TBL := tm 444 (by decide +kernel) (by decide +kernel)
theorem im_X2_advance : Cond.instanceMethod yX2_advance ∈ TBL := tm 446 (by decide +kernel) (by decide +kernel)
theorem se_X2_advance : Cond.selects RX2 yX2_advance yX2_advance ∈ TBL := tm 0 (by decide +kernel) (by decide +kernel)
theorem co_X5_subsetBehind : Cond.code yX5_subsetBehind cX5_subsetBehind 2 (some .int) ∈ TBL := tm 734 (by decide +kernel) (by decide +kernel)
theorem ml_X5_24 : Cond.methodLink RX5 24 yX5_subsetBehind ∈ TBL := tm 732 (by decide +kernel) (by decide +kernel)
theorem in_X5 : Cond.initialized RX5 ∈ TBL := tm 126 (by decide +kernel) (by decide +kernel)
theorem sc_X5_subsetBehind : Cond.static yX5_subsetBehind ∈ TBL := tm 733 (by decide +kernel) (by decide +kernel)
theorem co_X5_subsetsOf : Cond.code yX5_subsetsOf cX5_subsetsOf 1 (some .int) ∈ TBL := tm 730 (by decide +kernel) (by decide +kernel)
theorem ml_X5_21 : Cond.methodLink RX5 21 yX5_subsetsOf ∈ TBL := tm 728 (by decide +kernel) (by decide +kernel)
theorem sc_X5_subsetsOf : Cond.static yX5_subsetsOf ∈ TBL := tm 729 (by decide +kernel) (by decide +kernel)
theorem co_X5_isLeast : Cond.code yX5_isLeast cX5_isLeast 5 (some .boolean) ∈ TBL := tm 860 (by decide +kernel) (by decide +kernel)
theorem ml_X5_57 : Cond.methodLink RX5 57 yX5_isLeast ∈ TBL := tm 857 (by decide +kernel) (by decide +kernel)
theorem im_X5_isLeast : Cond.instanceMethod yX5_isLeast ∈ TBL := tm 859 (by decide +kernel) (by decide +kernel)
theorem se_X5_isLeast : Cond.selects RX5 yX5_isLeast yX5_isLeast ∈ TBL := tm 27 (by decide +kernel) (by decide +kernel)
theorem co_X5_withoutLowest : Cond.code yX5_withoutLowest cX5_withoutLowest 1 (some .int) ∈ TBL := tm 737 (by decide +kernel) (by decide +kernel)
theorem ml_X5_28 : Cond.methodLink RX5 28 yX5_withoutLowest ∈ TBL := tm 735 (by decide +kernel) (by decide +kernel)
theorem sc_X5_withoutLowest : Cond.static yX5_withoutLowest ∈ TBL := tm 736 (by decide +kernel) (by decide +kernel)
theorem ml_X5_34 : Cond.methodLink RX5 34 yX6_goes ∈ TBL := tm 739 (by decide +kernel) (by decide +kernel)
theorem co_X6_spread : Cond.code yX6_spread cX6_spread 8 (some .int) ∈ TBL := tm 746 (by decide +kernel) (by decide +kernel)
theorem ml_X5_40 : Cond.methodLink RX5 40 yX6_spread ∈ TBL := tm 743 (by decide +kernel) (by decide +kernel)
theorem im_X6_spread : Cond.instanceMethod yX6_spread ∈ TBL := tm 744 (by decide +kernel) (by decide +kernel)
theorem se_X6_spread : Cond.selects RX6 yX6_spread yX6_spread ∈ TBL := tm 745 (by decide +kernel) (by decide +kernel)
theorem fl_X5_47 : Cond.fieldLink RX5 47 (TX6 7).1 (TX6 7).2.1 (TX6 7).2.2.1 ∈ TBL := tm 215 (by decide +kernel) (by decide +kernel)
theorem ml_X5_51 : Cond.methodLink RX5 51 yX6_allWorlds ∈ TBL := tm 1064 (by decide +kernel) (by decide +kernel)
theorem fl_X5_54 : Cond.fieldLink RX5 54 (TX6 9).1 (TX6 9).2.1 (TX6 9).2.2.1 ∈ TBL := tm 225 (by decide +kernel) (by decide +kernel)
theorem co_X6_allSteps : Cond.code yX6_allSteps cX6_allSteps 1 (some .int) ∈ TBL := tm 723 (by decide +kernel) (by decide +kernel)
theorem ml_X5_43 : Cond.methodLink RX5 43 yX6_allSteps ∈ TBL := tm 1116 (by decide +kernel) (by decide +kernel)
theorem im_X6_allSteps : Cond.instanceMethod yX6_allSteps ∈ TBL := tm 721 (by decide +kernel) (by decide +kernel)
theorem se_X6_allSteps : Cond.selects RX6 yX6_allSteps yX6_allSteps ∈ TBL := tm 722 (by decide +kernel) (by decide +kernel)
theorem ml_X5_60 : Cond.methodLink RX5 60 yX6_worthOf ∈ TBL := tm 889 (by decide +kernel) (by decide +kernel)
theorem ml_X6_69 : Cond.methodLink RX6 69 yX6_worldsOf ∈ TBL := tm 648 (by decide +kernel) (by decide +kernel)
theorem ml_X6_73 : Cond.methodLink RX6 73 yJ6_bitCount_0f7a4 ∈ TBL := tm 1088 (by decide +kernel) (by decide +kernel)
theorem ml_X6_78 : Cond.methodLink RX6 78 Lib.Math.max.name ∈ TBL := tm 1089 (by decide +kernel) (by decide +kernel)
theorem co_X8_isClaim : Cond.code yX8_isClaim cX8_isClaim 3 (some .boolean) ∈ TBL := tm 1487 (by decide +kernel) (by decide +kernel)
theorem ml_X8_269 : Cond.methodLink RX8 269 yX8_isClaim ∈ TBL := tm 1484 (by decide +kernel) (by decide +kernel)
theorem im_X8_isClaim : Cond.instanceMethod yX8_isClaim ∈ TBL := tm 1486 (by decide +kernel) (by decide +kernel)
theorem se_X8_isClaim : Cond.selects RX8 yX8_isClaim yX8_isClaim ∈ TBL := tm 67 (by decide +kernel) (by decide +kernel)
theorem co_X8_areClaims : Cond.code yX8_areClaims cX8_areClaims 2 (some .boolean) ∈ TBL := tm 1737 (by decide +kernel) (by decide +kernel)
theorem ml_X8_366 : Cond.methodLink RX8 366 yX8_areClaims ∈ TBL := tm 1734 (by decide +kernel) (by decide +kernel)
theorem im_X8_areClaims : Cond.instanceMethod yX8_areClaims ∈ TBL := tm 1736 (by decide +kernel) (by decide +kernel)
theorem se_X8_areClaims : Cond.selects RX8 yX8_areClaims yX8_areClaims ∈ TBL := tm 98 (by decide +kernel) (by decide +kernel)
theorem co_X8_bits : Cond.code yX8_bits cX8_bits 3 (some .int) ∈ TBL := tm 1494 (by decide +kernel) (by decide +kernel)
theorem ml_X8_273 : Cond.methodLink RX8 273 yX8_bits ∈ TBL := tm 1492 (by decide +kernel) (by decide +kernel)
theorem sc_X8_bits : Cond.static yX8_bits ∈ TBL := tm 1493 (by decide +kernel) (by decide +kernel)
theorem co_X8_isSlot : Cond.code yX8_isSlot cX8_isSlot 1 (some .boolean) ∈ TBL := tm 1632 (by decide +kernel) (by decide +kernel)
theorem ml_X8_316 : Cond.methodLink RX8 316 yX8_isSlot ∈ TBL := tm 1630 (by decide +kernel) (by decide +kernel)
theorem sc_X8_isSlot : Cond.static yX8_isSlot ∈ TBL := tm 1631 (by decide +kernel) (by decide +kernel)
theorem co_X8_isGuest : Cond.code yX8_isGuest cX8_isGuest 3 (some .boolean) ∈ TBL := tm 1538 (by decide +kernel) (by decide +kernel)
theorem ml_X8_285 : Cond.methodLink RX8 285 yX8_isGuest ∈ TBL := tm 1535 (by decide +kernel) (by decide +kernel)
theorem im_X8_isGuest : Cond.instanceMethod yX8_isGuest ∈ TBL := tm 1537 (by decide +kernel) (by decide +kernel)
theorem se_X8_isGuest : Cond.selects RX8 yX8_isGuest yX8_isGuest ∈ TBL := tm 75 (by decide +kernel) (by decide +kernel)
theorem co_X8_isStep : Cond.code yX8_isStep cX8_isStep 3 (some .boolean) ∈ TBL := tm 1510 (by decide +kernel) (by decide +kernel)
theorem ml_X8_276 : Cond.methodLink RX8 276 yX8_isStep ∈ TBL := tm 1507 (by decide +kernel) (by decide +kernel)
theorem im_X8_isStep : Cond.instanceMethod yX8_isStep ∈ TBL := tm 1509 (by decide +kernel) (by decide +kernel)
theorem se_X8_isStep : Cond.selects RX8 yX8_isStep yX8_isStep ∈ TBL := tm 69 (by decide +kernel) (by decide +kernel)
theorem co_X8_fillDoubt : Cond.code yX8_fillDoubt cX8_fillDoubt 9 (none) ∈ TBL := tm 1813 (by decide +kernel) (by decide +kernel)
theorem ml_X8_393 : Cond.methodLink RX8 393 yX8_fillDoubt ∈ TBL := tm 1810 (by decide +kernel) (by decide +kernel)
theorem im_X8_fillDoubt : Cond.instanceMethod yX8_fillDoubt ∈ TBL := tm 1812 (by decide +kernel) (by decide +kernel)
theorem se_X8_fillDoubt : Cond.selects RX8 yX8_fillDoubt yX8_fillDoubt ∈ TBL := tm 108 (by decide +kernel) (by decide +kernel)
theorem co_X8_isSeed : Cond.code yX8_isSeed cX8_isSeed 1 (some .boolean) ∈ TBL := tm 1970 (by decide +kernel) (by decide +kernel)
theorem ml_X8_459 : Cond.methodLink RX8 459 yX8_isSeed ∈ TBL := tm 1968 (by decide +kernel) (by decide +kernel)
theorem sc_X8_isSeed : Cond.static yX8_isSeed ∈ TBL := tm 1969 (by decide +kernel) (by decide +kernel)
theorem co_X8_holesBy : Cond.code yX8_holesBy cX8_holesBy 7 (some .int) ∈ TBL := tm 1975 (by decide +kernel) (by decide +kernel)
theorem ml_X8_462 : Cond.methodLink RX8 462 yX8_holesBy ∈ TBL := tm 1972 (by decide +kernel) (by decide +kernel)
theorem im_X8_holesBy : Cond.instanceMethod yX8_holesBy ∈ TBL := tm 1974 (by decide +kernel) (by decide +kernel)
theorem se_X8_holesBy : Cond.selects RX8 yX8_holesBy yX8_holesBy ∈ TBL := tm 119 (by decide +kernel) (by decide +kernel)
theorem co_X8_goes : Cond.code yX8_goes cX8_goes 3 (some .boolean) ∈ TBL := tm 1609 (by decide +kernel) (by decide +kernel)
theorem ml_X8_300 : Cond.methodLink RX8 300 yX8_goes ∈ TBL := tm 1606 (by decide +kernel) (by decide +kernel)
theorem im_X8_goes : Cond.instanceMethod yX8_goes ∈ TBL := tm 1608 (by decide +kernel) (by decide +kernel)
theorem se_X8_goes : Cond.selects RX8 yX8_goes yX8_goes ∈ TBL := tm 85 (by decide +kernel) (by decide +kernel)
theorem fl_X8_58 : Cond.fieldLink RX8 58 (TX8 29).1 (TX8 29).2.1 (TX8 29).2.2.1 ∈ TBL := tm 1261 (by decide +kernel) (by decide +kernel)
theorem co_X8_mine : Cond.code yX8_mine cX8_mine 1 (some .int) ∈ TBL := tm 1857 (by decide +kernel) (by decide +kernel)
theorem ml_X8_415 : Cond.methodLink RX8 415 yX8_mine ∈ TBL := tm 1855 (by decide +kernel) (by decide +kernel)
theorem sc_X8_mine : Cond.static yX8_mine ∈ TBL := tm 1856 (by decide +kernel) (by decide +kernel)
theorem fl_X8_403 : Cond.fieldLink RX8 403 (TX8 27).1 (TX8 27).2.1 (TX8 27).2.2.1 ∈ TBL := tm 1259 (by decide +kernel) (by decide +kernel)
theorem co_X8_cooks : Cond.code yX8_cooks cX8_cooks 5 (some .boolean) ∈ TBL := tm 1833 (by decide +kernel) (by decide +kernel)
theorem ml_X8_406 : Cond.methodLink RX8 406 yX8_cooks ∈ TBL := tm 1830 (by decide +kernel) (by decide +kernel)
theorem im_X8_cooks : Cond.instanceMethod yX8_cooks ∈ TBL := tm 1832 (by decide +kernel) (by decide +kernel)
theorem se_X8_cooks : Cond.selects RX8 yX8_cooks yX8_cooks ∈ TBL := tm 111 (by decide +kernel) (by decide +kernel)
theorem co_X8_saltNow : Cond.code yX8_saltNow cX8_saltNow 3 (some .int) ∈ TBL := tm 1562 (by decide +kernel) (by decide +kernel)
theorem ml_X8_257 : Cond.methodLink RX8 257 yX8_saltNow ∈ TBL := tm 1559 (by decide +kernel) (by decide +kernel)
theorem im_X8_saltNow : Cond.instanceMethod yX8_saltNow ∈ TBL := tm 1561 (by decide +kernel) (by decide +kernel)
theorem se_X8_saltNow : Cond.selects RX8 yX8_saltNow yX8_saltNow ∈ TBL := tm 80 (by decide +kernel) (by decide +kernel)
theorem co_X8_canDo : Cond.code yX8_canDo cX8_canDo 2 (some .int) ∈ TBL := tm 1546 (by decide +kernel) (by decide +kernel)
theorem ml_X8_288 : Cond.methodLink RX8 288 yX8_canDo ∈ TBL := tm 1543 (by decide +kernel) (by decide +kernel)
theorem im_X8_canDo : Cond.instanceMethod yX8_canDo ∈ TBL := tm 1545 (by decide +kernel) (by decide +kernel)
theorem se_X8_canDo : Cond.selects RX8 yX8_canDo yX8_canDo ∈ TBL := tm 77 (by decide +kernel) (by decide +kernel)
theorem co_X8_advance : Cond.code yX8_advance cX8_advance 2 (none) ∈ TBL := tm 1366 (by decide +kernel) (by decide +kernel)
theorem ml_X8_151 : Cond.methodLink RX8 151 yX8_advance ∈ TBL := tm 1363 (by decide +kernel) (by decide +kernel)
theorem im_X8_advance : Cond.instanceMethod yX8_advance ∈ TBL := tm 1365 (by decide +kernel) (by decide +kernel)
theorem se_X8_advance : Cond.selects RX8 yX8_advance yX8_advance ∈ TBL := tm 45 (by decide +kernel) (by decide +kernel)
theorem co_X8_errs : Cond.code yX8_errs cX8_errs 2 (none) ∈ TBL := tm 1403 (by decide +kernel) (by decide +kernel)
theorem ml_X8_157 : Cond.methodLink RX8 157 yX8_errs ∈ TBL := tm 1400 (by decide +kernel) (by decide +kernel)
theorem im_X8_errs : Cond.instanceMethod yX8_errs ∈ TBL := tm 1402 (by decide +kernel) (by decide +kernel)
theorem se_X8_errs : Cond.selects RX8 yX8_errs yX8_errs ∈ TBL := tm 52 (by decide +kernel) (by decide +kernel)
theorem fl_X8_71 : Cond.fieldLink RX8 71 (TX8 33).1 (TX8 33).2.1 (TX8 33).2.2.1 ∈ TBL := tm 1265 (by decide +kernel) (by decide +kernel)
theorem fl_X8_64 : Cond.fieldLink RX8 64 (TX8 31).1 (TX8 31).2.1 (TX8 31).2.2.1 ∈ TBL := tm 1263 (by decide +kernel) (by decide +kernel)
theorem fl_X8_326 : Cond.fieldLink RX8 326 (TX8 19).1 (TX8 19).2.1 (TX8 19).2.2.1 ∈ TBL := tm 1251 (by decide +kernel) (by decide +kernel)
theorem fl_X8_323 : Cond.fieldLink RX8 323 (TX8 20).1 (TX8 20).2.1 (TX8 20).2.2.1 ∈ TBL := tm 1252 (by decide +kernel) (by decide +kernel)
theorem co_X8_allWorlds : Cond.code yX8_allWorlds cX8_allWorlds 1 (some .int) ∈ TBL := tm 1526 (by decide +kernel) (by decide +kernel)
theorem ml_X8_254 : Cond.methodLink RX8 254 yX8_allWorlds ∈ TBL := tm 1523 (by decide +kernel) (by decide +kernel)
theorem im_X8_allWorlds : Cond.instanceMethod yX8_allWorlds ∈ TBL := tm 1525 (by decide +kernel) (by decide +kernel)
theorem se_X8_allWorlds : Cond.selects RX8 yX8_allWorlds yX8_allWorlds ∈ TBL := tm 73 (by decide +kernel) (by decide +kernel)
theorem co_X8_cut : Cond.code yX8_cut cX8_cut 4 (some .long) ∈ TBL := tm 2008 (by decide +kernel) (by decide +kernel)
theorem ml_X8_472 : Cond.methodLink RX8 472 yX8_cut ∈ TBL := tm 2006 (by decide +kernel) (by decide +kernel)
theorem sc_X8_cut : Cond.static yX8_cut ∈ TBL := tm 2007 (by decide +kernel) (by decide +kernel)
theorem co_X6_leftAtWorst : Cond.code yX6_leftAtWorst cX6_leftAtWorst 4 (some .int) ∈ TBL := tm 1087 (by decide +kernel) (by decide +kernel)
theorem ml_X7_317 : Cond.methodLink RX7 317 yX6_leftAtWorst ∈ TBL := tm 1084 (by decide +kernel) (by decide +kernel)
theorem im_X6_leftAtWorst : Cond.instanceMethod yX6_leftAtWorst ∈ TBL := tm 1085 (by decide +kernel) (by decide +kernel)
theorem se_X6_leftAtWorst : Cond.selects RX6 yX6_leftAtWorst yX6_leftAtWorst ∈ TBL := tm 1086 (by decide +kernel) (by decide +kernel)
theorem fl_X7_52 : Cond.fieldLink RX7 52 (TX7 8).1 (TX7 8).2.1 (TX7 8).2.2.1 ∈ TBL := tm 391 (by decide +kernel) (by decide +kernel)
theorem co_X5_fillWithRuledOut : Cond.code yX5_fillWithRuledOut cX5_fillWithRuledOut 4 (none) ∈ TBL := tm 1063 (by decide +kernel) (by decide +kernel)
theorem ml_X7_408 : Cond.methodLink RX7 408 yX5_fillWithRuledOut ∈ TBL := tm 1060 (by decide +kernel) (by decide +kernel)
theorem im_X5_fillWithRuledOut : Cond.instanceMethod yX5_fillWithRuledOut ∈ TBL := tm 1061 (by decide +kernel) (by decide +kernel)
theorem se_X5_fillWithRuledOut : Cond.selects RX5 yX5_fillWithRuledOut yX5_fillWithRuledOut ∈ TBL := tm 1062 (by decide +kernel) (by decide +kernel)
theorem ml_X7_411 : Cond.methodLink RX7 411 yX6_allWorlds ∈ TBL := tm 1065 (by decide +kernel) (by decide +kernel)
theorem co_X5_leastSet : Cond.code yX5_leastSet cX5_leastSet 7 (some .int) ∈ TBL := tm 833 (by decide +kernel) (by decide +kernel)
theorem ml_X7_243 : Cond.methodLink RX7 243 yX5_leastSet ∈ TBL := tm 830 (by decide +kernel) (by decide +kernel)
theorem im_X5_leastSet : Cond.instanceMethod yX5_leastSet ∈ TBL := tm 831 (by decide +kernel) (by decide +kernel)
theorem se_X5_leastSet : Cond.selects RX5 yX5_leastSet yX5_leastSet ∈ TBL := tm 832 (by decide +kernel) (by decide +kernel)
theorem co_X3_worthEaten : Cond.code yX3_worthEaten cX3_worthEaten 9 (some .int) ∈ TBL := tm 806 (by decide +kernel) (by decide +kernel)
theorem ml_X7_189 : Cond.methodLink RX7 189 yX3_worthEaten ∈ TBL := tm 803 (by decide +kernel) (by decide +kernel)
theorem im_X3_worthEaten : Cond.instanceMethod yX3_worthEaten ∈ TBL := tm 804 (by decide +kernel) (by decide +kernel)
theorem se_X3_worthEaten : Cond.selects RX3 yX3_worthEaten yX3_worthEaten ∈ TBL := tm 805 (by decide +kernel) (by decide +kernel)
theorem co_X7_refusalOfSteps : Cond.code yX7_refusalOfSteps cX7_refusalOfSteps 3 (some .int) ∈ TBL := tm 767 (by decide +kernel) (by decide +kernel)
theorem ml_X7_173 : Cond.methodLink RX7 173 yX7_refusalOfSteps ∈ TBL := tm 764 (by decide +kernel) (by decide +kernel)
theorem im_X7_refusalOfSteps : Cond.instanceMethod yX7_refusalOfSteps ∈ TBL := tm 766 (by decide +kernel) (by decide +kernel)
theorem se_X7_refusalOfSteps : Cond.selects RX7 yX7_refusalOfSteps yX7_refusalOfSteps ∈ TBL := tm 22 (by decide +kernel) (by decide +kernel)
theorem co_X6_falseWorlds : Cond.code yX6_falseWorlds cX6_falseWorlds 2 (some .int) ∈ TBL := tm 647 (by decide +kernel) (by decide +kernel)
theorem ml_X7_130 : Cond.methodLink RX7 130 yX6_falseWorlds ∈ TBL := tm 644 (by decide +kernel) (by decide +kernel)
theorem im_X6_falseWorlds : Cond.instanceMethod yX6_falseWorlds ∈ TBL := tm 645 (by decide +kernel) (by decide +kernel)
theorem se_X6_falseWorlds : Cond.selects RX6 yX6_falseWorlds yX6_falseWorlds ∈ TBL := tm 646 (by decide +kernel) (by decide +kernel)
theorem co_X6_followsFrom : Cond.code yX6_followsFrom cX6_followsFrom 3 (some .boolean) ∈ TBL := tm 684 (by decide +kernel) (by decide +kernel)
theorem ml_X7_156 : Cond.methodLink RX7 156 yX6_followsFrom ∈ TBL := tm 681 (by decide +kernel) (by decide +kernel)
theorem im_X6_followsFrom : Cond.instanceMethod yX6_followsFrom ∈ TBL := tm 682 (by decide +kernel) (by decide +kernel)
theorem se_X6_followsFrom : Cond.selects RX6 yX6_followsFrom yX6_followsFrom ∈ TBL := tm 683 (by decide +kernel) (by decide +kernel)
theorem fl_X7_44 : Cond.fieldLink RX7 44 (TX7 6).1 (TX7 6).2.1 (TX7 6).2.2.1 ∈ TBL := tm 389 (by decide +kernel) (by decide +kernel)
theorem ml_X7_222 : Cond.methodLink RX7 222 yX6_allSteps ∈ TBL := tm 720 (by decide +kernel) (by decide +kernel)
theorem co_X5_fillWithProofs : Cond.code yX5_fillWithProofs cX5_fillWithProofs 7 (none) ∈ TBL := tm 727 (by decide +kernel) (by decide +kernel)
theorem ml_X7_399 : Cond.methodLink RX7 399 yX5_fillWithProofs ∈ TBL := tm 724 (by decide +kernel) (by decide +kernel)
theorem im_X5_fillWithProofs : Cond.instanceMethod yX5_fillWithProofs ∈ TBL := tm 725 (by decide +kernel) (by decide +kernel)
theorem se_X5_fillWithProofs : Cond.selects RX5 yX5_fillWithProofs yX5_fillWithProofs ∈ TBL := tm 726 (by decide +kernel) (by decide +kernel)
theorem co_X5_fillWithSaltProofs : Cond.code yX5_fillWithSaltProofs cX5_fillWithSaltProofs 4 (none) ∈ TBL := tm 1115 (by decide +kernel) (by decide +kernel)
theorem ml_X7_414 : Cond.methodLink RX7 414 yX5_fillWithSaltProofs ∈ TBL := tm 1112 (by decide +kernel) (by decide +kernel)
theorem im_X5_fillWithSaltProofs : Cond.instanceMethod yX5_fillWithSaltProofs ∈ TBL := tm 1113 (by decide +kernel) (by decide +kernel)
theorem se_X5_fillWithSaltProofs : Cond.selects RX5 yX5_fillWithSaltProofs yX5_fillWithSaltProofs ∈ TBL := tm 1114 (by decide +kernel) (by decide +kernel)
theorem fl_X7_186 : Cond.fieldLink RX7 186 (TX3 2).1 (TX3 2).2.1 (TX3 2).2.2.1 ∈ TBL := tm 326 (by decide +kernel) (by decide +kernel)
theorem fl_X7_180 : Cond.fieldLink RX7 180 (TX3 0).1 (TX3 0).2.1 (TX3 0).2.2.1 ∈ TBL := tm 322 (by decide +kernel) (by decide +kernel)
theorem fl_X7_124 : Cond.fieldLink RX7 124 (TX6 10).1 (TX6 10).2.1 (TX6 10).2.2.1 ∈ TBL := tm 229 (by decide +kernel) (by decide +kernel)
theorem fl_X7_127 : Cond.fieldLink RX7 127 (TX6 11).1 (TX6 11).2.1 (TX6 11).2.2.1 ∈ TBL := tm 233 (by decide +kernel) (by decide +kernel)
theorem fl_X7_183 : Cond.fieldLink RX7 183 (TX3 1).1 (TX3 1).2.1 (TX3 1).2.2.1 ∈ TBL := tm 324 (by decide +kernel) (by decide +kernel)
theorem co_X5_menuSet : Cond.code yX5_menuSet cX5_menuSet 12 (some .int) ∈ TBL := tm 888 (by decide +kernel) (by decide +kernel)
theorem ml_X7_403 : Cond.methodLink RX7 403 yX5_menuSet ∈ TBL := tm 885 (by decide +kernel) (by decide +kernel)
theorem im_X5_menuSet : Cond.instanceMethod yX5_menuSet ∈ TBL := tm 886 (by decide +kernel) (by decide +kernel)
theorem se_X5_menuSet : Cond.selects RX5 yX5_menuSet yX5_menuSet ∈ TBL := tm 887 (by decide +kernel) (by decide +kernel)
theorem fl_X7_237 : Cond.fieldLink RX7 237 (TX5 0).1 (TX5 0).2.1 (TX5 0).2.2.1 ∈ TBL := tm 311 (by decide +kernel) (by decide +kernel)
theorem ml_X7_292 : Cond.methodLink RX7 292 yX6_worthOf ∈ TBL := tm 890 (by decide +kernel) (by decide +kernel)
theorem fl_X1_28 : Cond.fieldLink RX1 28 (TX4 2).1 (TX4 2).2.1 (TX4 2).2.2.1 ∈ TBL := tm 286 (by decide +kernel) (by decide +kernel)
theorem fl_X1_34 : Cond.fieldLink RX1 34 (TX4 3).1 (TX4 3).2.1 (TX4 3).2.2.1 ∈ TBL := tm 290 (by decide +kernel) (by decide +kernel)
theorem co_X1_cookPair : Cond.code yX1_cookPair cX1_cookPair 6 (some .boolean) ∈ TBL := tm 1008 (by decide +kernel) (by decide +kernel)
theorem ml_X1_38 : Cond.methodLink RX1 38 yX1_cookPair ∈ TBL := tm 1005 (by decide +kernel) (by decide +kernel)
theorem im_X1_cookPair : Cond.instanceMethod yX1_cookPair ∈ TBL := tm 1007 (by decide +kernel) (by decide +kernel)
theorem se_X1_cookPair : Cond.selects RX1 yX1_cookPair yX1_cookPair ∈ TBL := tm 37 (by decide +kernel) (by decide +kernel)
theorem co_X1_open : Cond.code yX1_open cX1_open 3 (none) ∈ TBL := tm 1004 (by decide +kernel) (by decide +kernel)
theorem ml_X1_24 : Cond.methodLink RX1 24 yX1_open ∈ TBL := tm 1001 (by decide +kernel) (by decide +kernel)
theorem im_X1_open : Cond.instanceMethod yX1_open ∈ TBL := tm 1003 (by decide +kernel) (by decide +kernel)
theorem se_X1_open : Cond.selects RX1 yX1_open yX1_open ∈ TBL := tm 36 (by decide +kernel) (by decide +kernel)
theorem fl_X2_102 : Cond.fieldLink RX2 102 (TX6 4).1 (TX6 4).2.1 (TX6 4).2.2.1 ∈ TBL := tm 204 (by decide +kernel) (by decide +kernel)
theorem co_X2_readNumber : Cond.code yX2_readNumber cX2_readNumber 4 (some .int) ∈ TBL := tm 533 (by decide +kernel) (by decide +kernel)
theorem ml_X2_125 : Cond.methodLink RX2 125 yX2_readNumber ∈ TBL := tm 530 (by decide +kernel) (by decide +kernel)
theorem im_X2_readNumber : Cond.instanceMethod yX2_readNumber ∈ TBL := tm 532 (by decide +kernel) (by decide +kernel)
theorem se_X2_readNumber : Cond.selects RX2 yX2_readNumber yX2_readNumber ∈ TBL := tm 8 (by decide +kernel) (by decide +kernel)
theorem fl_X2_120 : Cond.fieldLink RX2 120 (TX6 7).1 (TX6 7).2.1 (TX6 7).2.2.1 ∈ TBL := tm 217 (by decide +kernel) (by decide +kernel)
theorem co_X2_isNumberOf : Cond.code yX2_isNumberOf cX2_isNumberOf 2 (some .boolean) ∈ TBL := tm 580 (by decide +kernel) (by decide +kernel)
theorem ml_X2_117 : Cond.methodLink RX2 117 yX2_isNumberOf ∈ TBL := tm 577 (by decide +kernel) (by decide +kernel)
theorem im_X2_isNumberOf : Cond.instanceMethod yX2_isNumberOf ∈ TBL := tm 579 (by decide +kernel) (by decide +kernel)
theorem se_X2_isNumberOf : Cond.selects RX2 yX2_isNumberOf yX2_isNumberOf ∈ TBL := tm 15 (by decide +kernel) (by decide +kernel)
theorem ml_X2_152 : Cond.methodLink RX2 152 yJ6_bitCount_0f7a4 ∈ TBL := tm 591 (by decide +kernel) (by decide +kernel)
theorem co_X8_asksEaten : Cond.code yX8_asksEaten cX8_asksEaten 4 (some .int) ∈ TBL := tm 1939 (by decide +kernel) (by decide +kernel)
theorem ml_X8_439 : Cond.methodLink RX8 439 yX8_asksEaten ∈ TBL := tm 1936 (by decide +kernel) (by decide +kernel)
theorem im_X8_asksEaten : Cond.instanceMethod yX8_asksEaten ∈ TBL := tm 1938 (by decide +kernel) (by decide +kernel)
theorem se_X8_asksEaten : Cond.selects RX8 yX8_asksEaten yX8_asksEaten ∈ TBL := tm 117 (by decide +kernel) (by decide +kernel)
theorem co_X8_provedBy : Cond.code yX8_provedBy cX8_provedBy 6 (some .int) ∈ TBL := tm 1605 (by decide +kernel) (by decide +kernel)
theorem ml_X8_307 : Cond.methodLink RX8 307 yX8_provedBy ∈ TBL := tm 1602 (by decide +kernel) (by decide +kernel)
theorem im_X8_provedBy : Cond.instanceMethod yX8_provedBy ∈ TBL := tm 1604 (by decide +kernel) (by decide +kernel)
theorem se_X8_provedBy : Cond.selects RX8 yX8_provedBy yX8_provedBy ∈ TBL := tm 84 (by decide +kernel) (by decide +kernel)
theorem co_X8_asksKitchen : Cond.code yX8_asksKitchen cX8_asksKitchen 4 (some .int) ∈ TBL := tm 1825 (by decide +kernel) (by decide +kernel)
theorem ml_X8_409 : Cond.methodLink RX8 409 yX8_asksKitchen ∈ TBL := tm 1822 (by decide +kernel) (by decide +kernel)
theorem im_X8_asksKitchen : Cond.instanceMethod yX8_asksKitchen ∈ TBL := tm 1824 (by decide +kernel) (by decide +kernel)
theorem se_X8_asksKitchen : Cond.selects RX8 yX8_asksKitchen yX8_asksKitchen ∈ TBL := tm 109 (by decide +kernel) (by decide +kernel)
theorem co_X8_goKitchen : Cond.code yX8_goKitchen cX8_goKitchen 3 (none) ∈ TBL := tm 1829 (by decide +kernel) (by decide +kernel)
theorem ml_X8_412 : Cond.methodLink RX8 412 yX8_goKitchen ∈ TBL := tm 1826 (by decide +kernel) (by decide +kernel)
theorem im_X8_goKitchen : Cond.instanceMethod yX8_goKitchen ∈ TBL := tm 1828 (by decide +kernel) (by decide +kernel)
theorem se_X8_goKitchen : Cond.selects RX8 yX8_goKitchen yX8_goKitchen ∈ TBL := tm 110 (by decide +kernel) (by decide +kernel)
theorem co_X8_saltedBy : Cond.code yX8_saltedBy cX8_saltedBy 4 (some .int) ∈ TBL := tm 1522 (by decide +kernel) (by decide +kernel)
theorem ml_X8_260 : Cond.methodLink RX8 260 yX8_saltedBy ∈ TBL := tm 1519 (by decide +kernel) (by decide +kernel)
theorem im_X8_saltedBy : Cond.instanceMethod yX8_saltedBy ∈ TBL := tm 1521 (by decide +kernel) (by decide +kernel)
theorem se_X8_saltedBy : Cond.selects RX8 yX8_saltedBy yX8_saltedBy ∈ TBL := tm 72 (by decide +kernel) (by decide +kernel)
theorem co_X8_fillDuel : Cond.code yX8_fillDuel cX8_fillDuel 3 (none) ∈ TBL := tm 1854 (by decide +kernel) (by decide +kernel)
theorem ml_X8_418 : Cond.methodLink RX8 418 yX8_fillDuel ∈ TBL := tm 1851 (by decide +kernel) (by decide +kernel)
theorem im_X8_fillDuel : Cond.instanceMethod yX8_fillDuel ∈ TBL := tm 1853 (by decide +kernel) (by decide +kernel)
theorem se_X8_fillDuel : Cond.selects RX8 yX8_fillDuel yX8_fillDuel ∈ TBL := tm 112 (by decide +kernel) (by decide +kernel)
theorem co_X8_asksRow : Cond.code yX8_asksRow cX8_asksRow 4 (some .int) ∈ TBL := tm 1629 (by decide +kernel) (by decide +kernel)
theorem ml_X8_329 : Cond.methodLink RX8 329 yX8_asksRow ∈ TBL := tm 1626 (by decide +kernel) (by decide +kernel)
theorem im_X8_asksRow : Cond.instanceMethod yX8_asksRow ∈ TBL := tm 1628 (by decide +kernel) (by decide +kernel)
theorem se_X8_asksRow : Cond.selects RX8 yX8_asksRow yX8_asksRow ∈ TBL := tm 87 (by decide +kernel) (by decide +kernel)
theorem co_X8_number : Cond.code yX8_number cX8_number 4 (some .int) ∈ TBL := tm 1412 (by decide +kernel) (by decide +kernel)
theorem ml_X8_165 : Cond.methodLink RX8 165 yX8_number ∈ TBL := tm 1409 (by decide +kernel) (by decide +kernel)
theorem im_X8_number : Cond.instanceMethod yX8_number ∈ TBL := tm 1411 (by decide +kernel) (by decide +kernel)
theorem se_X8_number : Cond.selects RX8 yX8_number yX8_number ∈ TBL := tm 54 (by decide +kernel) (by decide +kernel)
theorem co_X8_eatenBy : Cond.code yX8_eatenBy cX8_eatenBy 4 (some .int) ∈ TBL := tm 1943 (by decide +kernel) (by decide +kernel)
theorem ml_X8_442 : Cond.methodLink RX8 442 yX8_eatenBy ∈ TBL := tm 1940 (by decide +kernel) (by decide +kernel)
theorem im_X8_eatenBy : Cond.instanceMethod yX8_eatenBy ∈ TBL := tm 1942 (by decide +kernel) (by decide +kernel)
theorem se_X8_eatenBy : Cond.selects RX8 yX8_eatenBy yX8_eatenBy ∈ TBL := tm 118 (by decide +kernel) (by decide +kernel)
theorem fl_X8_351 : Cond.fieldLink RX8 351 (TX8 21).1 (TX8 21).2.1 (TX8 21).2.2.1 ∈ TBL := tm 1253 (by decide +kernel) (by decide +kernel)
theorem co_X8_worthsOf : Cond.code yX8_worthsOf cX8_worthsOf 4 (some .int) ∈ TBL := tm 1721 (by decide +kernel) (by decide +kernel)
theorem ml_X8_354 : Cond.methodLink RX8 354 yX8_worthsOf ∈ TBL := tm 1718 (by decide +kernel) (by decide +kernel)
theorem im_X8_worthsOf : Cond.instanceMethod yX8_worthsOf ∈ TBL := tm 1720 (by decide +kernel) (by decide +kernel)
theorem se_X8_worthsOf : Cond.selects RX8 yX8_worthsOf yX8_worthsOf ∈ TBL := tm 97 (by decide +kernel) (by decide +kernel)
theorem co_X8_readRow : Cond.code yX8_readRow cX8_readRow 2 (none) ∈ TBL := tm 1641 (by decide +kernel) (by decide +kernel)
theorem ml_X8_333 : Cond.methodLink RX8 333 yX8_readRow ∈ TBL := tm 1638 (by decide +kernel) (by decide +kernel)
theorem im_X8_readRow : Cond.instanceMethod yX8_readRow ∈ TBL := tm 1640 (by decide +kernel) (by decide +kernel)
theorem se_X8_readRow : Cond.selects RX8 yX8_readRow yX8_readRow ∈ TBL := tm 89 (by decide +kernel) (by decide +kernel)
theorem co_X8_areGuests : Cond.code yX8_areGuests cX8_areGuests 2 (some .boolean) ∈ TBL := tm 1761 (by decide +kernel) (by decide +kernel)
theorem ml_X8_378 : Cond.methodLink RX8 378 yX8_areGuests ∈ TBL := tm 1758 (by decide +kernel) (by decide +kernel)
theorem im_X8_areGuests : Cond.instanceMethod yX8_areGuests ∈ TBL := tm 1760 (by decide +kernel) (by decide +kernel)
theorem se_X8_areGuests : Cond.selects RX8 yX8_areGuests yX8_areGuests ∈ TBL := tm 102 (by decide +kernel) (by decide +kernel)
theorem co_X8_strengthOf : Cond.code yX8_strengthOf cX8_strengthOf 4 (some .int) ∈ TBL := tm 1785 (by decide +kernel) (by decide +kernel)
theorem ml_X8_384 : Cond.methodLink RX8 384 yX8_strengthOf ∈ TBL := tm 1782 (by decide +kernel) (by decide +kernel)
theorem im_X8_strengthOf : Cond.instanceMethod yX8_strengthOf ∈ TBL := tm 1784 (by decide +kernel) (by decide +kernel)
theorem se_X8_strengthOf : Cond.selects RX8 yX8_strengthOf yX8_strengthOf ∈ TBL := tm 105 (by decide +kernel) (by decide +kernel)
theorem co_X7_freshProofs : Cond.code yX7_freshProofs cX7_freshProofs 1 (some (.object "ProvedTable$Sheet")) ∈ TBL := tm 719 (by decide +kernel) (by decide +kernel)
theorem ml_X7_218 : Cond.methodLink RX7 218 yX7_freshProofs ∈ TBL := tm 716 (by decide +kernel) (by decide +kernel)
theorem im_X7_freshProofs : Cond.instanceMethod yX7_freshProofs ∈ TBL := tm 718 (by decide +kernel) (by decide +kernel)
theorem se_X7_freshProofs : Cond.selects RX7 yX7_freshProofs yX7_freshProofs ∈ TBL := tm 21 (by decide +kernel) (by decide +kernel)
theorem co_X7_refusalOfDishes : Cond.code yX7_refusalOfDishes cX7_refusalOfDishes 3 (some .int) ∈ TBL := tm 1135 (by decide +kernel) (by decide +kernel)
theorem ml_X7_332 : Cond.methodLink RX7 332 yX7_refusalOfDishes ∈ TBL := tm 1132 (by decide +kernel) (by decide +kernel)
theorem im_X7_refusalOfDishes : Cond.instanceMethod yX7_refusalOfDishes ∈ TBL := tm 1134 (by decide +kernel) (by decide +kernel)
theorem se_X7_refusalOfDishes : Cond.selects RX7 yX7_refusalOfDishes yX7_refusalOfDishes ∈ TBL := tm 43 (by decide +kernel) (by decide +kernel)
theorem fl_X7_65 : Cond.fieldLink RX7 65 (TX7 10).1 (TX7 10).2.1 (TX7 10).2.2.1 ∈ TBL := tm 393 (by decide +kernel) (by decide +kernel)
theorem co_X1_cook : Cond.code yX1_cook cX1_cook 5 (none) ∈ TBL := tm 1000 (by decide +kernel) (by decide +kernel)
theorem ml_X7_280 : Cond.methodLink RX7 280 yX1_cook ∈ TBL := tm 997 (by decide +kernel) (by decide +kernel)
theorem im_X1_cook : Cond.instanceMethod yX1_cook ∈ TBL := tm 998 (by decide +kernel) (by decide +kernel)
theorem se_X1_cook : Cond.selects RX1 yX1_cook yX1_cook ∈ TBL := tm 999 (by decide +kernel) (by decide +kernel)
theorem fl_X7_301 : Cond.fieldLink RX7 301 (TX1 6).1 (TX1 6).2.1 (TX1 6).2.2.1 ∈ TBL := tm 357 (by decide +kernel) (by decide +kernel)
theorem fl_X7_304 : Cond.fieldLink RX7 304 (TX1 5).1 (TX1 5).2.1 (TX1 5).2.2.1 ∈ TBL := tm 355 (by decide +kernel) (by decide +kernel)
theorem co_X7_refusalOfPairs : Cond.code yX7_refusalOfPairs cX7_refusalOfPairs 3 (some .int) ∈ TBL := tm 992 (by decide +kernel) (by decide +kernel)
theorem ml_X7_277 : Cond.methodLink RX7 277 yX7_refusalOfPairs ∈ TBL := tm 989 (by decide +kernel) (by decide +kernel)
theorem im_X7_refusalOfPairs : Cond.instanceMethod yX7_refusalOfPairs ∈ TBL := tm 991 (by decide +kernel) (by decide +kernel)
theorem se_X7_refusalOfPairs : Cond.selects RX7 yX7_refusalOfPairs yX7_refusalOfPairs ∈ TBL := tm 35 (by decide +kernel) (by decide +kernel)
theorem co_X7_coreSet : Cond.code yX7_coreSet cX7_coreSet 1 (some .int) ∈ TBL := tm 1059 (by decide +kernel) (by decide +kernel)
theorem ml_X7_310 : Cond.methodLink RX7 310 yX7_coreSet ∈ TBL := tm 1056 (by decide +kernel) (by decide +kernel)
theorem im_X7_coreSet : Cond.instanceMethod yX7_coreSet ∈ TBL := tm 1058 (by decide +kernel) (by decide +kernel)
theorem se_X7_coreSet : Cond.selects RX7 yX7_coreSet yX7_coreSet ∈ TBL := tm 41 (by decide +kernel) (by decide +kernel)
theorem co_X7_sizeOrNone : Cond.code yX7_sizeOrNone cX7_sizeOrNone 1 (some .int) ∈ TBL := tm 836 (by decide +kernel) (by decide +kernel)
theorem ml_X7_211 : Cond.methodLink RX7 211 yX7_sizeOrNone ∈ TBL := tm 834 (by decide +kernel) (by decide +kernel)
theorem sc_X7_sizeOrNone : Cond.static yX7_sizeOrNone ∈ TBL := tm 835 (by decide +kernel) (by decide +kernel)
theorem co_X6_teamKnows : Cond.code yX6_teamKnows cX6_teamKnows 4 (some .int) ∈ TBL := tm 957 (by decide +kernel) (by decide +kernel)
theorem ml_X7_405 : Cond.methodLink RX7 405 yX6_teamKnows ∈ TBL := tm 954 (by decide +kernel) (by decide +kernel)
theorem im_X6_teamKnows : Cond.instanceMethod yX6_teamKnows ∈ TBL := tm 955 (by decide +kernel) (by decide +kernel)
theorem se_X6_teamKnows : Cond.selects RX6 yX6_teamKnows yX6_teamKnows ∈ TBL := tm 956 (by decide +kernel) (by decide +kernel)
theorem fl_X7_283 : Cond.fieldLink RX7 283 (TX1 0).1 (TX1 0).2.1 (TX1 0).2.2.1 ∈ TBL := tm 345 (by decide +kernel) (by decide +kernel)
theorem fl_X7_286 : Cond.fieldLink RX7 286 (TX1 1).1 (TX1 1).2.1 (TX1 1).2.2.1 ∈ TBL := tm 347 (by decide +kernel) (by decide +kernel)
theorem fl_X7_289 : Cond.fieldLink RX7 289 (TX1 2).1 (TX1 2).2.1 (TX1 2).2.2.1 ∈ TBL := tm 349 (by decide +kernel) (by decide +kernel)
theorem co_X7_ask : Cond.code yX7_ask cX7_ask 5 (some .int) ∈ TBL := tm 1083 (by decide +kernel) (by decide +kernel)
theorem ml_X7_320 : Cond.methodLink RX7 320 yX7_ask ∈ TBL := tm 1094 (by decide +kernel) (by decide +kernel)
theorem im_X7_ask : Cond.instanceMethod yX7_ask ∈ TBL := tm 1081 (by decide +kernel) (by decide +kernel)
theorem se_X7_ask : Cond.selects RX7 yX7_ask yX7_ask ∈ TBL := tm 1082 (by decide +kernel) (by decide +kernel)
theorem co_X5_countLeast : Cond.code yX5_countLeast cX5_countLeast 6 (some .int) ∈ TBL := tm 856 (by decide +kernel) (by decide +kernel)
theorem ml_X7_225 : Cond.methodLink RX7 225 yX5_countLeast ∈ TBL := tm 853 (by decide +kernel) (by decide +kernel)
theorem im_X5_countLeast : Cond.instanceMethod yX5_countLeast ∈ TBL := tm 854 (by decide +kernel) (by decide +kernel)
theorem se_X5_countLeast : Cond.selects RX5 yX5_countLeast yX5_countLeast ∈ TBL := tm 855 (by decide +kernel) (by decide +kernel)
theorem fl_X7_298 : Cond.fieldLink RX7 298 (TX1 4).1 (TX1 4).2.1 (TX1 4).2.2.1 ∈ TBL := tm 353 (by decide +kernel) (by decide +kernel)
theorem co_X7_leastSaltFor : Cond.code yX7_leastSaltFor cX7_leastSaltFor 2 (some .int) ∈ TBL := tm 1111 (by decide +kernel) (by decide +kernel)
theorem ml_X7_326 : Cond.methodLink RX7 326 yX7_leastSaltFor ∈ TBL := tm 1108 (by decide +kernel) (by decide +kernel)
theorem im_X7_leastSaltFor : Cond.instanceMethod yX7_leastSaltFor ∈ TBL := tm 1110 (by decide +kernel) (by decide +kernel)
theorem se_X7_leastSaltFor : Cond.selects RX7 yX7_leastSaltFor yX7_leastSaltFor ∈ TBL := tm 42 (by decide +kernel) (by decide +kernel)
theorem fl_X7_295 : Cond.fieldLink RX7 295 (TX1 3).1 (TX1 3).2.1 (TX1 3).2.2.1 ∈ TBL := tm 351 (by decide +kernel) (by decide +kernel)
theorem co_J0_length_8abf5 : Cond.code yJ0_length_8abf5 cJ0_length_8abf5 1 (some .int) ∈ TBL := tm 476 (by decide +kernel) (by decide +kernel)
theorem ml_X2_191 : Cond.methodLink RX2 191 yJ0_length_8abf5 ∈ TBL := tm 473 (by decide +kernel) (by decide +kernel)
theorem in_J0 : Cond.initialized RJ0 ∈ TBL := tm 132 (by decide +kernel) (by decide +kernel)
theorem im_J0_length_8abf5 : Cond.instanceMethod yJ0_length_8abf5 ∈ TBL := tm 474 (by decide +kernel) (by decide +kernel)
theorem se_J0_length_8abf5 : Cond.selects RJ0 yJ0_length_8abf5 yJ0_length_8abf5 ∈ TBL := tm 475 (by decide +kernel) (by decide +kernel)
theorem co_J0_charAt_5068e : Cond.code yJ0_charAt_5068e cJ0_charAt_5068e 2 (some .char) ∈ TBL := tm 486 (by decide +kernel) (by decide +kernel)
theorem ml_X2_195 : Cond.methodLink RX2 195 yJ0_charAt_5068e ∈ TBL := tm 483 (by decide +kernel) (by decide +kernel)
theorem im_J0_charAt_5068e : Cond.instanceMethod yJ0_charAt_5068e ∈ TBL := tm 484 (by decide +kernel) (by decide +kernel)
theorem se_J0_charAt_5068e : Cond.selects RJ0 yJ0_charAt_5068e yJ0_charAt_5068e ∈ TBL := tm 485 (by decide +kernel) (by decide +kernel)
theorem co_X8_fewestSteps : Cond.code yX8_fewestSteps cX8_fewestSteps 6 (some .int) ∈ TBL := tm 1677 (by decide +kernel) (by decide +kernel)
theorem ml_X8_339 : Cond.methodLink RX8 339 yX8_fewestSteps ∈ TBL := tm 1674 (by decide +kernel) (by decide +kernel)
theorem im_X8_fewestSteps : Cond.instanceMethod yX8_fewestSteps ∈ TBL := tm 1676 (by decide +kernel) (by decide +kernel)
theorem se_X8_fewestSteps : Cond.selects RX8 yX8_fewestSteps yX8_fewestSteps ∈ TBL := tm 92 (by decide +kernel) (by decide +kernel)
theorem co_X8_coreOf : Cond.code yX8_coreOf cX8_coreOf 4 (some .int) ∈ TBL := tm 1877 (by decide +kernel) (by decide +kernel)
theorem ml_X8_421 : Cond.methodLink RX8 421 yX8_coreOf ∈ TBL := tm 1874 (by decide +kernel) (by decide +kernel)
theorem im_X8_coreOf : Cond.instanceMethod yX8_coreOf ∈ TBL := tm 1876 (by decide +kernel) (by decide +kernel)
theorem se_X8_coreOf : Cond.selects RX8 yX8_coreOf yX8_coreOf ∈ TBL := tm 113 (by decide +kernel) (by decide +kernel)
theorem co_X8_saltedNow : Cond.code yX8_saltedNow cX8_saltedNow 1 (some .int) ∈ TBL := tm 1558 (by decide +kernel) (by decide +kernel)
theorem ml_X8_266 : Cond.methodLink RX8 266 yX8_saltedNow ∈ TBL := tm 1555 (by decide +kernel) (by decide +kernel)
theorem im_X8_saltedNow : Cond.instanceMethod yX8_saltedNow ∈ TBL := tm 1557 (by decide +kernel) (by decide +kernel)
theorem se_X8_saltedNow : Cond.selects RX8 yX8_saltedNow yX8_saltedNow ∈ TBL := tm 79 (by decide +kernel) (by decide +kernel)
theorem co_X8_lowest : Cond.code yX8_lowest cX8_lowest 2 (some .int) ∈ TBL := tm 1577 (by decide +kernel) (by decide +kernel)
theorem ml_X8_297 : Cond.methodLink RX8 297 yX8_lowest ∈ TBL := tm 1575 (by decide +kernel) (by decide +kernel)
theorem sc_X8_lowest : Cond.static yX8_lowest ∈ TBL := tm 1576 (by decide +kernel) (by decide +kernel)
theorem co_X8_provedNow : Cond.code yX8_provedNow cX8_provedNow 1 (some .int) ∈ TBL := tm 1597 (by decide +kernel) (by decide +kernel)
theorem ml_X8_310 : Cond.methodLink RX8 310 yX8_provedNow ∈ TBL := tm 1594 (by decide +kernel) (by decide +kernel)
theorem im_X8_provedNow : Cond.instanceMethod yX8_provedNow ∈ TBL := tm 1596 (by decide +kernel) (by decide +kernel)
theorem se_X8_provedNow : Cond.selects RX8 yX8_provedNow yX8_provedNow ∈ TBL := tm 82 (by decide +kernel) (by decide +kernel)
theorem co_X8_falseIn : Cond.code yX8_falseIn cX8_falseIn 2 (some .int) ∈ TBL := tm 1518 (by decide +kernel) (by decide +kernel)
theorem ml_X8_279 : Cond.methodLink RX8 279 yX8_falseIn ∈ TBL := tm 1515 (by decide +kernel) (by decide +kernel)
theorem im_X8_falseIn : Cond.instanceMethod yX8_falseIn ∈ TBL := tm 1517 (by decide +kernel) (by decide +kernel)
theorem se_X8_falseIn : Cond.selects RX8 yX8_falseIn yX8_falseIn ∈ TBL := tm 71 (by decide +kernel) (by decide +kernel)
theorem co_X8_mostBy : Cond.code yX8_mostBy cX8_mostBy 7 (some .int) ∈ TBL := tm 1717 (by decide +kernel) (by decide +kernel)
theorem ml_X8_357 : Cond.methodLink RX8 357 yX8_mostBy ∈ TBL := tm 1714 (by decide +kernel) (by decide +kernel)
theorem im_X8_mostBy : Cond.instanceMethod yX8_mostBy ∈ TBL := tm 1716 (by decide +kernel) (by decide +kernel)
theorem se_X8_mostBy : Cond.selects RX8 yX8_mostBy yX8_mostBy ∈ TBL := tm 96 (by decide +kernel) (by decide +kernel)
theorem ml_X8_138 : Cond.methodLink RX8 138 yJ0_length_8abf5 ∈ TBL := tm 1398 (by decide +kernel) (by decide +kernel)
theorem ml_X8_143 : Cond.methodLink RX8 143 yJ0_charAt_5068e ∈ TBL := tm 1399 (by decide +kernel) (by decide +kernel)
theorem co_X8_isProvedBy : Cond.code yX8_isProvedBy cX8_isProvedBy 3 (some .boolean) ∈ TBL := tm 1697 (by decide +kernel) (by decide +kernel)
theorem ml_X8_345 : Cond.methodLink RX8 345 yX8_isProvedBy ∈ TBL := tm 1694 (by decide +kernel) (by decide +kernel)
theorem im_X8_isProvedBy : Cond.instanceMethod yX8_isProvedBy ∈ TBL := tm 1696 (by decide +kernel) (by decide +kernel)
theorem se_X8_isProvedBy : Cond.selects RX8 yX8_isProvedBy yX8_isProvedBy ∈ TBL := tm 94 (by decide +kernel) (by decide +kernel)
theorem co_X8_part : Cond.code yX8_part cX8_part 3 (some .int) ∈ TBL := tm 1888 (by decide +kernel) (by decide +kernel)
theorem ml_X8_427 : Cond.methodLink RX8 427 yX8_part ∈ TBL := tm 1886 (by decide +kernel) (by decide +kernel)
theorem sc_X8_part : Cond.static yX8_part ∈ TBL := tm 1887 (by decide +kernel) (by decide +kernel)
theorem co_X8_freshClaim : Cond.code yX8_freshClaim cX8_freshClaim 1 (some .int) ∈ TBL := tm 1468 (by decide +kernel) (by decide +kernel)
theorem ml_X8_212 : Cond.methodLink RX8 212 yX8_freshClaim ∈ TBL := tm 1465 (by decide +kernel) (by decide +kernel)
theorem im_X8_freshClaim : Cond.instanceMethod yX8_freshClaim ∈ TBL := tm 1467 (by decide +kernel) (by decide +kernel)
theorem se_X8_freshClaim : Cond.selects RX8 yX8_freshClaim yX8_freshClaim ∈ TBL := tm 64 (by decide +kernel) (by decide +kernel)
theorem co_X8_isNextIn : Cond.code yX8_isNextIn cX8_isNextIn 2 (some .boolean) ∈ TBL := tm 1464 (by decide +kernel) (by decide +kernel)
theorem ml_X8_208 : Cond.methodLink RX8 208 yX8_isNextIn ∈ TBL := tm 1461 (by decide +kernel) (by decide +kernel)
theorem im_X8_isNextIn : Cond.instanceMethod yX8_isNextIn ∈ TBL := tm 1463 (by decide +kernel) (by decide +kernel)
theorem se_X8_isNextIn : Cond.selects RX8 yX8_isNextIn yX8_isNextIn ∈ TBL := tm 63 (by decide +kernel) (by decide +kernel)
theorem co_X8_usedBy : Cond.code yX8_usedBy cX8_usedBy 7 (some .int) ∈ TBL := tm 1661 (by decide +kernel) (by decide +kernel)
theorem ml_X8_336 : Cond.methodLink RX8 336 yX8_usedBy ∈ TBL := tm 1658 (by decide +kernel) (by decide +kernel)
theorem im_X8_usedBy : Cond.instanceMethod yX8_usedBy ∈ TBL := tm 1660 (by decide +kernel) (by decide +kernel)
theorem se_X8_usedBy : Cond.selects RX8 yX8_usedBy yX8_usedBy ∈ TBL := tm 90 (by decide +kernel) (by decide +kernel)
theorem co_X8_spareOf : Cond.code yX8_spareOf cX8_spareOf 5 (some .int) ∈ TBL := tm 1923 (by decide +kernel) (by decide +kernel)
theorem ml_X8_436 : Cond.methodLink RX8 436 yX8_spareOf ∈ TBL := tm 1920 (by decide +kernel) (by decide +kernel)
theorem im_X8_spareOf : Cond.instanceMethod yX8_spareOf ∈ TBL := tm 1922 (by decide +kernel) (by decide +kernel)
theorem se_X8_spareOf : Cond.selects RX8 yX8_spareOf yX8_spareOf ∈ TBL := tm 116 (by decide +kernel) (by decide +kernel)
theorem co_X7_guestsProving : Cond.code yX7_guestsProving cX7_guestsProving 5 (some .int) ∈ TBL := tm 915 (by decide +kernel) (by decide +kernel)
theorem ml_X7_246 : Cond.methodLink RX7 246 yX7_guestsProving ∈ TBL := tm 912 (by decide +kernel) (by decide +kernel)
theorem im_X7_guestsProving : Cond.instanceMethod yX7_guestsProving ∈ TBL := tm 914 (by decide +kernel) (by decide +kernel)
theorem se_X7_guestsProving : Cond.selects RX7 yX7_guestsProving yX7_guestsProving ∈ TBL := tm 31 (by decide +kernel) (by decide +kernel)
theorem co_X6_firstGoing : Cond.code yX6_firstGoing cX6_firstGoing 4 (some .int) ∈ TBL := tm 848 (by decide +kernel) (by decide +kernel)
theorem ml_X7_214 : Cond.methodLink RX7 214 yX6_firstGoing ∈ TBL := tm 845 (by decide +kernel) (by decide +kernel)
theorem im_X6_firstGoing : Cond.instanceMethod yX6_firstGoing ∈ TBL := tm 846 (by decide +kernel) (by decide +kernel)
theorem se_X6_firstGoing : Cond.selects RX6 yX6_firstGoing yX6_firstGoing ∈ TBL := tm 847 (by decide +kernel) (by decide +kernel)
theorem co_X7_shortestSet : Cond.code yX7_shortestSet cX7_shortestSet 2 (some .int) ∈ TBL := tm 829 (by decide +kernel) (by decide +kernel)
theorem ml_X7_208 : Cond.methodLink RX7 208 yX7_shortestSet ∈ TBL := tm 826 (by decide +kernel) (by decide +kernel)
theorem im_X7_shortestSet : Cond.instanceMethod yX7_shortestSet ∈ TBL := tm 828 (by decide +kernel) (by decide +kernel)
theorem se_X7_shortestSet : Cond.selects RX7 yX7_shortestSet yX7_shortestSet ∈ TBL := tm 26 (by decide +kernel) (by decide +kernel)
theorem co_X7_menuSet : Cond.code yX7_menuSet cX7_menuSet 3 (some .int) ∈ TBL := tm 884 (by decide +kernel) (by decide +kernel)
theorem ml_X7_234 : Cond.methodLink RX7 234 yX7_menuSet ∈ TBL := tm 881 (by decide +kernel) (by decide +kernel)
theorem im_X7_menuSet : Cond.instanceMethod yX7_menuSet ∈ TBL := tm 883 (by decide +kernel) (by decide +kernel)
theorem se_X7_menuSet : Cond.selects RX7 yX7_menuSet yX7_menuSet ∈ TBL := tm 30 (by decide +kernel) (by decide +kernel)
theorem co_X6_following : Cond.code yX6_following cX6_following 4 (some .int) ∈ TBL := tm 755 (by decide +kernel) (by decide +kernel)
theorem ml_X7_170 : Cond.methodLink RX7 170 yX6_following ∈ TBL := tm 752 (by decide +kernel) (by decide +kernel)
theorem im_X6_following : Cond.instanceMethod yX6_following ∈ TBL := tm 753 (by decide +kernel) (by decide +kernel)
theorem se_X6_following : Cond.selects RX6 yX6_following yX6_following ∈ TBL := tm 754 (by decide +kernel) (by decide +kernel)
theorem co_X7_provedByAll : Cond.code yX7_provedByAll cX7_provedByAll 1 (some .int) ∈ TBL := tm 715 (by decide +kernel) (by decide +kernel)
theorem ml_X7_166 : Cond.methodLink RX7 166 yX7_provedByAll ∈ TBL := tm 712 (by decide +kernel) (by decide +kernel)
theorem im_X7_provedByAll : Cond.instanceMethod yX7_provedByAll ∈ TBL := tm 714 (by decide +kernel) (by decide +kernel)
theorem se_X7_provedByAll : Cond.selects RX7 yX7_provedByAll yX7_provedByAll ∈ TBL := tm 20 (by decide +kernel) (by decide +kernel)
theorem ml_X7_323 : Cond.methodLink RX7 323 yX6_spread ∈ TBL := tm 1103 (by decide +kernel) (by decide +kernel)
theorem co_X7_doesTeamProve : Cond.code yX7_doesTeamProve cX7_doesTeamProve 4 (some .boolean) ∈ TBL := tm 953 (by decide +kernel) (by decide +kernel)
theorem ml_X7_264 : Cond.methodLink RX7 264 yX7_doesTeamProve ∈ TBL := tm 950 (by decide +kernel) (by decide +kernel)
theorem im_X7_doesTeamProve : Cond.instanceMethod yX7_doesTeamProve ∈ TBL := tm 952 (by decide +kernel) (by decide +kernel)
theorem se_X7_doesTeamProve : Cond.selects RX7 yX7_doesTeamProve yX7_doesTeamProve ∈ TBL := tm 33 (by decide +kernel) (by decide +kernel)
theorem co_X7_provedWithout : Cond.code yX7_provedWithout cX7_provedWithout 2 (some .int) ∈ TBL := tm 868 (by decide +kernel) (by decide +kernel)
theorem ml_X7_228 : Cond.methodLink RX7 228 yX7_provedWithout ∈ TBL := tm 865 (by decide +kernel) (by decide +kernel)
theorem im_X7_provedWithout : Cond.instanceMethod yX7_provedWithout ∈ TBL := tm 867 (by decide +kernel) (by decide +kernel)
theorem se_X7_provedWithout : Cond.selects RX7 yX7_provedWithout yX7_provedWithout ∈ TBL := tm 28 (by decide +kernel) (by decide +kernel)
theorem co_X2_isWord : Cond.code yX2_isWord cX2_isWord 3 (some .boolean) ∈ TBL := tm 472 (by decide +kernel) (by decide +kernel)
theorem ml_X2_55 : Cond.methodLink RX2 55 yX2_isWord ∈ TBL := tm 469 (by decide +kernel) (by decide +kernel)
theorem im_X2_isWord : Cond.instanceMethod yX2_isWord ∈ TBL := tm 471 (by decide +kernel) (by decide +kernel)
theorem se_X2_isWord : Cond.selects RX2 yX2_isWord yX2_isWord ∈ TBL := tm 5 (by decide +kernel) (by decide +kernel)
theorem fl_X2_92 : Cond.fieldLink RX2 92 (TX6 1).1 (TX6 1).2.1 (TX6 1).2.2.1 ∈ TBL := tm 192 (by decide +kernel) (by decide +kernel)
theorem co_X6_worldsOfAtom : Cond.code yX6_worldsOfAtom cX6_worldsOfAtom 4 (some .int) ∈ TBL := tm 559 (by decide +kernel) (by decide +kernel)
theorem ml_X2_180 : Cond.methodLink RX2 180 yX6_worldsOfAtom ∈ TBL := tm 556 (by decide +kernel) (by decide +kernel)
theorem im_X6_worldsOfAtom : Cond.instanceMethod yX6_worldsOfAtom ∈ TBL := tm 557 (by decide +kernel) (by decide +kernel)
theorem se_X6_worldsOfAtom : Cond.selects RX6 yX6_worldsOfAtom yX6_worldsOfAtom ∈ TBL := tm 558 (by decide +kernel) (by decide +kernel)
theorem ml_X2_170 : Cond.methodLink RX2 170 yX6_allWorlds ∈ TBL := tm 551 (by decide +kernel) (by decide +kernel)
theorem co_X8_worstOf : Cond.code yX8_worstOf cX8_worstOf 3 (some .int) ∈ TBL := tm 1903 (by decide +kernel) (by decide +kernel)
theorem ml_X8_430 : Cond.methodLink RX8 430 yX8_worstOf ∈ TBL := tm 1900 (by decide +kernel) (by decide +kernel)
theorem im_X8_worstOf : Cond.instanceMethod yX8_worstOf ∈ TBL := tm 1902 (by decide +kernel) (by decide +kernel)
theorem se_X8_worstOf : Cond.selects RX8 yX8_worstOf yX8_worstOf ∈ TBL := tm 115 (by decide +kernel) (by decide +kernel)
theorem co_X8_canProve : Cond.code yX8_canProve cX8_canProve 4 (some .boolean) ∈ TBL := tm 1753 (by decide +kernel) (by decide +kernel)
theorem ml_X8_369 : Cond.methodLink RX8 369 yX8_canProve ∈ TBL := tm 1750 (by decide +kernel) (by decide +kernel)
theorem im_X8_canProve : Cond.instanceMethod yX8_canProve ∈ TBL := tm 1752 (by decide +kernel) (by decide +kernel)
theorem se_X8_canProve : Cond.selects RX8 yX8_canProve yX8_canProve ∈ TBL := tm 101 (by decide +kernel) (by decide +kernel)
theorem co_X8_proofOf : Cond.code yX8_proofOf cX8_proofOf 2 (some .int) ∈ TBL := tm 1673 (by decide +kernel) (by decide +kernel)
theorem ml_X8_342 : Cond.methodLink RX8 342 yX8_proofOf ∈ TBL := tm 1670 (by decide +kernel) (by decide +kernel)
theorem im_X8_proofOf : Cond.instanceMethod yX8_proofOf ∈ TBL := tm 1672 (by decide +kernel) (by decide +kernel)
theorem se_X8_proofOf : Cond.selects RX8 yX8_proofOf yX8_proofOf ∈ TBL := tm 91 (by decide +kernel) (by decide +kernel)
theorem co_X8_menuOf : Cond.code yX8_menuOf cX8_menuOf 2 (some .int) ∈ TBL := tm 1713 (by decide +kernel) (by decide +kernel)
theorem ml_X8_360 : Cond.methodLink RX8 360 yX8_menuOf ∈ TBL := tm 1710 (by decide +kernel) (by decide +kernel)
theorem im_X8_menuOf : Cond.instanceMethod yX8_menuOf ∈ TBL := tm 1712 (by decide +kernel) (by decide +kernel)
theorem se_X8_menuOf : Cond.selects RX8 yX8_menuOf yX8_menuOf ∈ TBL := tm 95 (by decide +kernel) (by decide +kernel)
theorem co_X8_feastOf : Cond.code yX8_feastOf cX8_feastOf 4 (some .int) ∈ TBL := tm 1988 (by decide +kernel) (by decide +kernel)
theorem ml_X8_466 : Cond.methodLink RX8 466 yX8_feastOf ∈ TBL := tm 1985 (by decide +kernel) (by decide +kernel)
theorem im_X8_feastOf : Cond.instanceMethod yX8_feastOf ∈ TBL := tm 1987 (by decide +kernel) (by decide +kernel)
theorem se_X8_feastOf : Cond.selects RX8 yX8_feastOf yX8_feastOf ∈ TBL := tm 120 (by decide +kernel) (by decide +kernel)
theorem co_X8_isFollowing : Cond.code yX8_isFollowing cX8_isFollowing 2 (some .boolean) ∈ TBL := tm 1570 (by decide +kernel) (by decide +kernel)
theorem ml_X8_294 : Cond.methodLink RX8 294 yX8_isFollowing ∈ TBL := tm 1567 (by decide +kernel) (by decide +kernel)
theorem im_X8_isFollowing : Cond.instanceMethod yX8_isFollowing ∈ TBL := tm 1569 (by decide +kernel) (by decide +kernel)
theorem se_X8_isFollowing : Cond.selects RX8 yX8_isFollowing yX8_isFollowing ∈ TBL := tm 81 (by decide +kernel) (by decide +kernel)
theorem fl_X8_186 : Cond.fieldLink RX8 186 (TX8 18).1 (TX8 18).2.1 (TX8 18).2.2.1 ∈ TBL := tm 1250 (by decide +kernel) (by decide +kernel)
theorem co_X8_atomWorlds : Cond.code yX8_atomWorlds cX8_atomWorlds 4 (some .int) ∈ TBL := tm 1449 (by decide +kernel) (by decide +kernel)
theorem ml_X8_189 : Cond.methodLink RX8 189 yX8_atomWorlds ∈ TBL := tm 1446 (by decide +kernel) (by decide +kernel)
theorem im_X8_atomWorlds : Cond.instanceMethod yX8_atomWorlds ∈ TBL := tm 1448 (by decide +kernel) (by decide +kernel)
theorem se_X8_atomWorlds : Cond.selects RX8 yX8_atomWorlds yX8_atomWorlds ∈ TBL := tm 60 (by decide +kernel) (by decide +kernel)
theorem co_X8_is : Cond.code yX8_is cX8_is 4 (some .boolean) ∈ TBL := tm 1397 (by decide +kernel) (by decide +kernel)
theorem ml_X8_147 : Cond.methodLink RX8 147 yX8_is ∈ TBL := tm 1394 (by decide +kernel) (by decide +kernel)
theorem im_X8_is : Cond.instanceMethod yX8_is ∈ TBL := tm 1396 (by decide +kernel) (by decide +kernel)
theorem se_X8_is : Cond.selects RX8 yX8_is yX8_is ∈ TBL := tm 51 (by decide +kernel) (by decide +kernel)
theorem cn_X8_470 : Cond.constantLong RX8 470 (20) ∈ TBL := tm 1993 (by decide +kernel) (by decide +kernel)
theorem co_X8_isLeastProof : Cond.code yX8_isLeastProof cX8_isLeastProof 4 (some .boolean) ∈ TBL := tm 1693 (by decide +kernel) (by decide +kernel)
theorem ml_X8_348 : Cond.methodLink RX8 348 yX8_isLeastProof ∈ TBL := tm 1690 (by decide +kernel) (by decide +kernel)
theorem im_X8_isLeastProof : Cond.instanceMethod yX8_isLeastProof ∈ TBL := tm 1692 (by decide +kernel) (by decide +kernel)
theorem se_X8_isLeastProof : Cond.selects RX8 yX8_isLeastProof yX8_isLeastProof ∈ TBL := tm 93 (by decide +kernel) (by decide +kernel)
theorem co_X8_canTogether : Cond.code yX8_canTogether cX8_canTogether 5 (some .boolean) ∈ TBL := tm 1793 (by decide +kernel) (by decide +kernel)
theorem ml_X8_387 : Cond.methodLink RX8 387 yX8_canTogether ∈ TBL := tm 1790 (by decide +kernel) (by decide +kernel)
theorem im_X8_canTogether : Cond.instanceMethod yX8_canTogether ∈ TBL := tm 1792 (by decide +kernel) (by decide +kernel)
theorem se_X8_canTogether : Cond.selects RX8 yX8_canTogether yX8_canTogether ∈ TBL := tm 106 (by decide +kernel) (by decide +kernel)
theorem co_X7_lengthOfDuel : Cond.code yX7_lengthOfDuel cX7_lengthOfDuel 1 (some .int) ∈ TBL := tm 1039 (by decide +kernel) (by decide +kernel)
theorem ml_X7_307 : Cond.methodLink RX7 307 yX7_lengthOfDuel ∈ TBL := tm 1036 (by decide +kernel) (by decide +kernel)
theorem im_X7_lengthOfDuel : Cond.instanceMethod yX7_lengthOfDuel ∈ TBL := tm 1038 (by decide +kernel) (by decide +kernel)
theorem se_X7_lengthOfDuel : Cond.selects RX7 yX7_lengthOfDuel yX7_lengthOfDuel ∈ TBL := tm 40 (by decide +kernel) (by decide +kernel)
theorem co_X7_menuWorth : Cond.code yX7_menuWorth cX7_menuWorth 3 (some .int) ∈ TBL := tm 880 (by decide +kernel) (by decide +kernel)
theorem ml_X7_231 : Cond.methodLink RX7 231 yX7_menuWorth ∈ TBL := tm 877 (by decide +kernel) (by decide +kernel)
theorem im_X7_menuWorth : Cond.instanceMethod yX7_menuWorth ∈ TBL := tm 879 (by decide +kernel) (by decide +kernel)
theorem se_X7_menuWorth : Cond.selects RX7 yX7_menuWorth yX7_menuWorth ∈ TBL := tm 29 (by decide +kernel) (by decide +kernel)
theorem co_X7_leastTeam : Cond.code yX7_leastTeam cX7_leastTeam 6 (some .int) ∈ TBL := tm 965 (by decide +kernel) (by decide +kernel)
theorem ml_X7_267 : Cond.methodLink RX7 267 yX7_leastTeam ∈ TBL := tm 962 (by decide +kernel) (by decide +kernel)
theorem im_X7_leastTeam : Cond.instanceMethod yX7_leastTeam ∈ TBL := tm 964 (by decide +kernel) (by decide +kernel)
theorem se_X7_leastTeam : Cond.selects RX7 yX7_leastTeam yX7_leastTeam ∈ TBL := tm 34 (by decide +kernel) (by decide +kernel)
theorem co_X7_worthWithLemma : Cond.code yX7_worthWithLemma cX7_worthWithLemma 6 (some .int) ∈ TBL := tm 931 (by decide +kernel) (by decide +kernel)
theorem ml_X7_255 : Cond.methodLink RX7 255 yX7_worthWithLemma ∈ TBL := tm 928 (by decide +kernel) (by decide +kernel)
theorem im_X7_worthWithLemma : Cond.instanceMethod yX7_worthWithLemma ∈ TBL := tm 930 (by decide +kernel) (by decide +kernel)
theorem se_X7_worthWithLemma : Cond.selects RX7 yX7_worthWithLemma yX7_worthWithLemma ∈ TBL := tm 32 (by decide +kernel) (by decide +kernel)
theorem co_X2_readWord : Cond.code yX2_readWord cX2_readWord 2 (some .boolean) ∈ TBL := tm 468 (by decide +kernel) (by decide +kernel)
theorem ml_X2_83 : Cond.methodLink RX2 83 yX2_readWord ∈ TBL := tm 465 (by decide +kernel) (by decide +kernel)
theorem im_X2_readWord : Cond.instanceMethod yX2_readWord ∈ TBL := tm 467 (by decide +kernel) (by decide +kernel)
theorem se_X2_readWord : Cond.selects RX2 yX2_readWord yX2_readWord ∈ TBL := tm 4 (by decide +kernel) (by decide +kernel)
theorem fl_X2_129 : Cond.fieldLink RX2 129 (TX6 5).1 (TX6 5).2.1 (TX6 5).2.2.1 ∈ TBL := tm 207 (by decide +kernel) (by decide +kernel)
theorem co_X2_readSet : Cond.code yX2_readSet cX2_readSet 6 (some .int) ∈ TBL := tm 590 (by decide +kernel) (by decide +kernel)
theorem ml_X2_134 : Cond.methodLink RX2 134 yX2_readSet ∈ TBL := tm 587 (by decide +kernel) (by decide +kernel)
theorem im_X2_readSet : Cond.instanceMethod yX2_readSet ∈ TBL := tm 589 (by decide +kernel) (by decide +kernel)
theorem se_X2_readSet : Cond.selects RX2 yX2_readSet yX2_readSet ∈ TBL := tm 17 (by decide +kernel) (by decide +kernel)
theorem ml_X2_137 : Cond.methodLink RX2 137 yX6_addStep ∈ TBL := tm 597 (by decide +kernel) (by decide +kernel)
theorem co_X8_askOf : Cond.code yX8_askOf cX8_askOf 4 (some .int) ∈ TBL := tm 1899 (by decide +kernel) (by decide +kernel)
theorem ml_X8_433 : Cond.methodLink RX8 433 yX8_askOf ∈ TBL := tm 1896 (by decide +kernel) (by decide +kernel)
theorem im_X8_askOf : Cond.instanceMethod yX8_askOf ∈ TBL := tm 1898 (by decide +kernel) (by decide +kernel)
theorem se_X8_askOf : Cond.selects RX8 yX8_askOf yX8_askOf ∈ TBL := tm 114 (by decide +kernel) (by decide +kernel)
theorem co_X8_lemmaOf : Cond.code yX8_lemmaOf cX8_lemmaOf 6 (some .int) ∈ TBL := tm 1773 (by decide +kernel) (by decide +kernel)
theorem ml_X8_381 : Cond.methodLink RX8 381 yX8_lemmaOf ∈ TBL := tm 1770 (by decide +kernel) (by decide +kernel)
theorem im_X8_lemmaOf : Cond.instanceMethod yX8_lemmaOf ∈ TBL := tm 1772 (by decide +kernel) (by decide +kernel)
theorem se_X8_lemmaOf : Cond.selects RX8 yX8_lemmaOf yX8_lemmaOf ∈ TBL := tm 104 (by decide +kernel) (by decide +kernel)
theorem co_X8_following : Cond.code yX8_following cX8_following 3 (some .int) ∈ TBL := tm 1617 (by decide +kernel) (by decide +kernel)
theorem ml_X8_313 : Cond.methodLink RX8 313 yX8_following ∈ TBL := tm 1614 (by decide +kernel) (by decide +kernel)
theorem im_X8_following : Cond.instanceMethod yX8_following ∈ TBL := tm 1616 (by decide +kernel) (by decide +kernel)
theorem se_X8_following : Cond.selects RX8 yX8_following yX8_following ∈ TBL := tm 86 (by decide +kernel) (by decide +kernel)
theorem co_X8_teamOf : Cond.code yX8_teamOf cX8_teamOf 4 (some .int) ∈ TBL := tm 1801 (by decide +kernel) (by decide +kernel)
theorem ml_X8_390 : Cond.methodLink RX8 390 yX8_teamOf ∈ TBL := tm 1798 (by decide +kernel) (by decide +kernel)
theorem im_X8_teamOf : Cond.instanceMethod yX8_teamOf ∈ TBL := tm 1800 (by decide +kernel) (by decide +kernel)
theorem se_X8_teamOf : Cond.selects RX8 yX8_teamOf yX8_teamOf ∈ TBL := tm 107 (by decide +kernel) (by decide +kernel)
theorem fl_X8_37 : Cond.fieldLink RX8 37 (TX8 16).1 (TX8 16).2.1 (TX8 16).2.2.1 ∈ TBL := tm 1248 (by decide +kernel) (by decide +kernel)
theorem fl_X8_40 : Cond.fieldLink RX8 40 (TX8 17).1 (TX8 17).2.1 (TX8 17).2.2.1 ∈ TBL := tm 1249 (by decide +kernel) (by decide +kernel)
theorem fl_X8_34 : Cond.fieldLink RX8 34 (TX8 15).1 (TX8 15).2.1 (TX8 15).2.2.1 ∈ TBL := tm 1247 (by decide +kernel) (by decide +kernel)
theorem co_X8_joined : Cond.code yX8_joined cX8_joined 4 (some .int) ∈ TBL := tm 1456 (by decide +kernel) (by decide +kernel)
theorem ml_X8_195 : Cond.methodLink RX8 195 yX8_joined ∈ TBL := tm 1453 (by decide +kernel) (by decide +kernel)
theorem im_X8_joined : Cond.instanceMethod yX8_joined ∈ TBL := tm 1455 (by decide +kernel) (by decide +kernel)
theorem se_X8_joined : Cond.selects RX8 yX8_joined yX8_joined ∈ TBL := tm 61 (by decide +kernel) (by decide +kernel)
theorem co_X8_formWord : Cond.code yX8_formWord cX8_formWord 1 (some .int) ∈ TBL := tm 1435 (by decide +kernel) (by decide +kernel)
theorem ml_X8_192 : Cond.methodLink RX8 192 yX8_formWord ∈ TBL := tm 1432 (by decide +kernel) (by decide +kernel)
theorem im_X8_formWord : Cond.instanceMethod yX8_formWord ∈ TBL := tm 1434 (by decide +kernel) (by decide +kernel)
theorem se_X8_formWord : Cond.selects RX8 yX8_formWord yX8_formWord ∈ TBL := tm 58 (by decide +kernel) (by decide +kernel)
theorem co_X8_whoOf : Cond.code yX8_whoOf cX8_whoOf 4 (some .int) ∈ TBL := tm 1749 (by decide +kernel) (by decide +kernel)
theorem ml_X8_372 : Cond.methodLink RX8 372 yX8_whoOf ∈ TBL := tm 1746 (by decide +kernel) (by decide +kernel)
theorem im_X8_whoOf : Cond.instanceMethod yX8_whoOf ∈ TBL := tm 1748 (by decide +kernel) (by decide +kernel)
theorem se_X8_whoOf : Cond.selects RX8 yX8_whoOf yX8_whoOf ∈ TBL := tm 100 (by decide +kernel) (by decide +kernel)
theorem co_X8_takes : Cond.code yX8_takes cX8_takes 3 (some .boolean) ∈ TBL := tm 1393 (by decide +kernel) (by decide +kernel)
theorem ml_X8_154 : Cond.methodLink RX8 154 yX8_takes ∈ TBL := tm 1390 (by decide +kernel) (by decide +kernel)
theorem im_X8_takes : Cond.instanceMethod yX8_takes ∈ TBL := tm 1392 (by decide +kernel) (by decide +kernel)
theorem se_X8_takes : Cond.selects RX8 yX8_takes yX8_takes ∈ TBL := tm 50 (by decide +kernel) (by decide +kernel)
theorem co_X7_lemma : Cond.code yX7_lemma cX7_lemma 6 (some .int) ∈ TBL := tm 927 (by decide +kernel) (by decide +kernel)
theorem ml_X7_258 : Cond.methodLink RX7 258 yX7_lemma ∈ TBL := tm 936 (by decide +kernel) (by decide +kernel)
theorem im_X7_lemma : Cond.instanceMethod yX7_lemma ∈ TBL := tm 925 (by decide +kernel) (by decide +kernel)
theorem se_X7_lemma : Cond.selects RX7 yX7_lemma yX7_lemma ∈ TBL := tm 926 (by decide +kernel) (by decide +kernel)
theorem fl_X2_141 : Cond.fieldLink RX2 141 (TX6 6).1 (TX6 6).2.1 (TX6 6).2.2.1 ∈ TBL := tm 210 (by decide +kernel) (by decide +kernel)
theorem co_X2_readNamed : Cond.code yX2_readNamed cX2_readNamed 4 (some .int) ∈ TBL := tm 529 (by decide +kernel) (by decide +kernel)
theorem ml_X2_88 : Cond.methodLink RX2 88 yX2_readNamed ∈ TBL := tm 526 (by decide +kernel) (by decide +kernel)
theorem im_X2_readNamed : Cond.instanceMethod yX2_readNamed ∈ TBL := tm 528 (by decide +kernel) (by decide +kernel)
theorem se_X2_readNamed : Cond.selects RX2 yX2_readNamed yX2_readNamed ∈ TBL := tm 7 (by decide +kernel) (by decide +kernel)
theorem fl_X2_148 : Cond.fieldLink RX2 148 (TX6 12).1 (TX6 12).2.1 (TX6 12).2.2.1 ∈ TBL := tm 237 (by decide +kernel) (by decide +kernel)
theorem fl_X2_150 : Cond.fieldLink RX2 150 (TX6 13).1 (TX6 13).2.1 (TX6 13).2.2.1 ∈ TBL := tm 242 (by decide +kernel) (by decide +kernel)
theorem fl_X2_96 : Cond.fieldLink RX2 96 (TX6 2).1 (TX6 2).2.1 (TX6 2).2.2.1 ∈ TBL := tm 196 (by decide +kernel) (by decide +kernel)
theorem fl_X2_100 : Cond.fieldLink RX2 100 (TX6 3).1 (TX6 3).2.1 (TX6 3).2.2.1 ∈ TBL := tm 199 (by decide +kernel) (by decide +kernel)
theorem co_X8_needs : Cond.code yX8_needs cX8_needs 2 (none) ∈ TBL := tm 1389 (by decide +kernel) (by decide +kernel)
theorem ml_X8_161 : Cond.methodLink RX8 161 yX8_needs ∈ TBL := tm 1386 (by decide +kernel) (by decide +kernel)
theorem im_X8_needs : Cond.instanceMethod yX8_needs ∈ TBL := tm 1388 (by decide +kernel) (by decide +kernel)
theorem se_X8_needs : Cond.selects RX8 yX8_needs yX8_needs ∈ TBL := tm 49 (by decide +kernel) (by decide +kernel)
theorem co_X8_told : Cond.code yX8_told cX8_told 4 (some .int) ∈ TBL := tm 1408 (by decide +kernel) (by decide +kernel)
theorem ml_X8_201 : Cond.methodLink RX8 201 yX8_told ∈ TBL := tm 1405 (by decide +kernel) (by decide +kernel)
theorem im_X8_told : Cond.instanceMethod yX8_told ∈ TBL := tm 1407 (by decide +kernel) (by decide +kernel)
theorem se_X8_told : Cond.selects RX8 yX8_told yX8_told ∈ TBL := tm 53 (by decide +kernel) (by decide +kernel)
theorem co_X8_form : Cond.code yX8_form cX8_form 4 (some .int) ∈ TBL := tm 1431 (by decide +kernel) (by decide +kernel)
theorem ml_X8_205 : Cond.methodLink RX8 205 yX8_form ∈ TBL := tm 1428 (by decide +kernel) (by decide +kernel)
theorem im_X8_form : Cond.instanceMethod yX8_form ∈ TBL := tm 1430 (by decide +kernel) (by decide +kernel)
theorem se_X8_form : Cond.selects RX8 yX8_form yX8_form ∈ TBL := tm 57 (by decide +kernel) (by decide +kernel)
theorem co_X8_readGuest : Cond.code yX8_readGuest cX8_readGuest 5 (none) ∈ TBL := tm 1477 (by decide +kernel) (by decide +kernel)
theorem ml_X8_237 : Cond.methodLink RX8 237 yX8_readGuest ∈ TBL := tm 1474 (by decide +kernel) (by decide +kernel)
theorem im_X8_readGuest : Cond.instanceMethod yX8_readGuest ∈ TBL := tm 1476 (by decide +kernel) (by decide +kernel)
theorem se_X8_readGuest : Cond.selects RX8 yX8_readGuest yX8_readGuest ∈ TBL := tm 66 (by decide +kernel) (by decide +kernel)
theorem co_X8_readStep : Cond.code yX8_readStep cX8_readStep 6 (none) ∈ TBL := tm 1472 (by decide +kernel) (by decide +kernel)
theorem ml_X8_234 : Cond.methodLink RX8 234 yX8_readStep ∈ TBL := tm 1469 (by decide +kernel) (by decide +kernel)
theorem im_X8_readStep : Cond.instanceMethod yX8_readStep ∈ TBL := tm 1471 (by decide +kernel) (by decide +kernel)
theorem se_X8_readStep : Cond.selects RX8 yX8_readStep yX8_readStep ∈ TBL := tm 65 (by decide +kernel) (by decide +kernel)
theorem co_X8_readSalt : Cond.code yX8_readSalt cX8_readSalt 2 (none) ∈ TBL := tm 1460 (by decide +kernel) (by decide +kernel)
theorem ml_X8_231 : Cond.methodLink RX8 231 yX8_readSalt ∈ TBL := tm 1457 (by decide +kernel) (by decide +kernel)
theorem im_X8_readSalt : Cond.instanceMethod yX8_readSalt ∈ TBL := tm 1459 (by decide +kernel) (by decide +kernel)
theorem se_X8_readSalt : Cond.selects RX8 yX8_readSalt yX8_readSalt ∈ TBL := tm 62 (by decide +kernel) (by decide +kernel)
theorem co_X8_readClaim : Cond.code yX8_readClaim cX8_readClaim 4 (none) ∈ TBL := tm 1426 (by decide +kernel) (by decide +kernel)
theorem ml_X8_228 : Cond.methodLink RX8 228 yX8_readClaim ∈ TBL := tm 1423 (by decide +kernel) (by decide +kernel)
theorem im_X8_readClaim : Cond.instanceMethod yX8_readClaim ∈ TBL := tm 1425 (by decide +kernel) (by decide +kernel)
theorem se_X8_readClaim : Cond.selects RX8 yX8_readClaim yX8_readClaim ∈ TBL := tm 56 (by decide +kernel) (by decide +kernel)
theorem co_X8_readNext : Cond.code yX8_readNext cX8_readNext 2 (none) ∈ TBL := tm 1418 (by decide +kernel) (by decide +kernel)
theorem ml_X8_248 : Cond.methodLink RX8 248 yX8_readNext ∈ TBL := tm 1415 (by decide +kernel) (by decide +kernel)
theorem im_X8_readNext : Cond.instanceMethod yX8_readNext ∈ TBL := tm 1417 (by decide +kernel) (by decide +kernel)
theorem se_X8_readNext : Cond.selects RX8 yX8_readNext yX8_readNext ∈ TBL := tm 55 (by decide +kernel) (by decide +kernel)
theorem co_X8_readLine : Cond.code yX8_readLine cX8_readLine 1 (none) ∈ TBL := tm 1384 (by decide +kernel) (by decide +kernel)
theorem ml_X8_251 : Cond.methodLink RX8 251 yX8_readLine ∈ TBL := tm 1381 (by decide +kernel) (by decide +kernel)
theorem im_X8_readLine : Cond.instanceMethod yX8_readLine ∈ TBL := tm 1383 (by decide +kernel) (by decide +kernel)
theorem se_X8_readLine : Cond.selects RX8 yX8_readLine yX8_readLine ∈ TBL := tm 48 (by decide +kernel) (by decide +kernel)
theorem co_X2_readParts : Cond.code yX2_readParts cX2_readParts 6 (some .int) ∈ TBL := tm 571 (by decide +kernel) (by decide +kernel)
theorem ml_X2_166 : Cond.methodLink RX2 166 yX2_readParts ∈ TBL := tm 568 (by decide +kernel) (by decide +kernel)
theorem im_X2_readParts : Cond.instanceMethod yX2_readParts ∈ TBL := tm 570 (by decide +kernel) (by decide +kernel)
theorem se_X2_readParts : Cond.selects RX2 yX2_readParts yX2_readParts ∈ TBL := tm 13 (by decide +kernel) (by decide +kernel)
theorem co_X2_worldsOfLeaf : Cond.code yX2_worldsOfLeaf cX2_worldsOfLeaf 3 (some .int) ∈ TBL := tm 549 (by decide +kernel) (by decide +kernel)
theorem ml_X2_158 : Cond.methodLink RX2 158 yX2_worldsOfLeaf ∈ TBL := tm 546 (by decide +kernel) (by decide +kernel)
theorem im_X2_worldsOfLeaf : Cond.instanceMethod yX2_worldsOfLeaf ∈ TBL := tm 548 (by decide +kernel) (by decide +kernel)
theorem se_X2_worldsOfLeaf : Cond.selects RX2 yX2_worldsOfLeaf yX2_worldsOfLeaf ∈ TBL := tm 11 (by decide +kernel) (by decide +kernel)
theorem co_X2_operatorHere : Cond.code yX2_operatorHere cX2_operatorHere 1 (some .int) ∈ TBL := tm 563 (by decide +kernel) (by decide +kernel)
theorem ml_X2_162 : Cond.methodLink RX2 162 yX2_operatorHere ∈ TBL := tm 560 (by decide +kernel) (by decide +kernel)
theorem im_X2_operatorHere : Cond.instanceMethod yX2_operatorHere ∈ TBL := tm 562 (by decide +kernel) (by decide +kernel)
theorem se_X2_operatorHere : Cond.selects RX2 yX2_operatorHere yX2_operatorHere ∈ TBL := tm 12 (by decide +kernel) (by decide +kernel)
theorem co_X2_readForm : Cond.code yX2_readForm cX2_readForm 5 (some .int) ∈ TBL := tm 545 (by decide +kernel) (by decide +kernel)
theorem ml_X2_107 : Cond.methodLink RX2 107 yX2_readForm ∈ TBL := tm 542 (by decide +kernel) (by decide +kernel)
theorem im_X2_readForm : Cond.instanceMethod yX2_readForm ∈ TBL := tm 544 (by decide +kernel) (by decide +kernel)
theorem se_X2_readForm : Cond.selects RX2 yX2_readForm yX2_readForm ∈ TBL := tm 10 (by decide +kernel) (by decide +kernel)
theorem fl_X2_111 : Cond.fieldLink RX2 111 (TX6 8).1 (TX6 8).2.1 (TX6 8).2.2.1 ∈ TBL := tm 220 (by decide +kernel) (by decide +kernel)
theorem fl_X2_114 : Cond.fieldLink RX2 114 (TX6 9).1 (TX6 9).2.1 (TX6 9).2.2.1 ∈ TBL := tm 223 (by decide +kernel) (by decide +kernel)
theorem fl_X2_47 : Cond.fieldLink RX2 47 (TX6 0).1 (TX6 0).2.1 (TX6 0).2.2.1 ∈ TBL := tm 188 (by decide +kernel) (by decide +kernel)
theorem co_X2_readGuest : Cond.code yX2_readGuest cX2_readGuest 4 (some .boolean) ∈ TBL := tm 605 (by decide +kernel) (by decide +kernel)
theorem ml_X2_74 : Cond.methodLink RX2 74 yX2_readGuest ∈ TBL := tm 602 (by decide +kernel) (by decide +kernel)
theorem im_X2_readGuest : Cond.instanceMethod yX2_readGuest ∈ TBL := tm 604 (by decide +kernel) (by decide +kernel)
theorem se_X2_readGuest : Cond.selects RX2 yX2_readGuest yX2_readGuest ∈ TBL := tm 18 (by decide +kernel) (by decide +kernel)
theorem co_X2_readStep : Cond.code yX2_readStep cX2_readStep 4 (some .boolean) ∈ TBL := tm 585 (by decide +kernel) (by decide +kernel)
theorem ml_X2_69 : Cond.methodLink RX2 69 yX2_readStep ∈ TBL := tm 582 (by decide +kernel) (by decide +kernel)
theorem im_X2_readStep : Cond.instanceMethod yX2_readStep ∈ TBL := tm 584 (by decide +kernel) (by decide +kernel)
theorem se_X2_readStep : Cond.selects RX2 yX2_readStep yX2_readStep ∈ TBL := tm 16 (by decide +kernel) (by decide +kernel)
theorem co_X2_readSalt : Cond.code yX2_readSalt cX2_readSalt 3 (some .boolean) ∈ TBL := tm 576 (by decide +kernel) (by decide +kernel)
theorem ml_X2_64 : Cond.methodLink RX2 64 yX2_readSalt ∈ TBL := tm 573 (by decide +kernel) (by decide +kernel)
theorem im_X2_readSalt : Cond.instanceMethod yX2_readSalt ∈ TBL := tm 575 (by decide +kernel) (by decide +kernel)
theorem se_X2_readSalt : Cond.selects RX2 yX2_readSalt yX2_readSalt ∈ TBL := tm 14 (by decide +kernel) (by decide +kernel)
theorem co_X2_readClaim : Cond.code yX2_readClaim cX2_readClaim 4 (some .boolean) ∈ TBL := tm 540 (by decide +kernel) (by decide +kernel)
theorem ml_X2_59 : Cond.methodLink RX2 59 yX2_readClaim ∈ TBL := tm 537 (by decide +kernel) (by decide +kernel)
theorem im_X2_readClaim : Cond.instanceMethod yX2_readClaim ∈ TBL := tm 539 (by decide +kernel) (by decide +kernel)
theorem se_X2_readClaim : Cond.selects RX2 yX2_readClaim yX2_readClaim ∈ TBL := tm 9 (by decide +kernel) (by decide +kernel)
theorem co_X2_readHead : Cond.code yX2_readHead cX2_readHead 2 (some .boolean) ∈ TBL := tm 463 (by decide +kernel) (by decide +kernel)
theorem ml_X2_50 : Cond.methodLink RX2 50 yX2_readHead ∈ TBL := tm 460 (by decide +kernel) (by decide +kernel)
theorem im_X2_readHead : Cond.instanceMethod yX2_readHead ∈ TBL := tm 462 (by decide +kernel) (by decide +kernel)
theorem se_X2_readHead : Cond.selects RX2 yX2_readHead yX2_readHead ∈ TBL := tm 3 (by decide +kernel) (by decide +kernel)
theorem co_X2_readLine : Cond.code yX2_readLine cX2_readLine 2 (some .boolean) ∈ TBL := tm 459 (by decide +kernel) (by decide +kernel)
theorem ml_X2_39 : Cond.methodLink RX2 39 yX2_readLine ∈ TBL := tm 456 (by decide +kernel) (by decide +kernel)
theorem im_X2_readLine : Cond.instanceMethod yX2_readLine ∈ TBL := tm 458 (by decide +kernel) (by decide +kernel)
theorem se_X2_readLine : Cond.selects RX2 yX2_readLine yX2_readLine ∈ TBL := tm 2 (by decide +kernel) (by decide +kernel)
theorem co_X2_readSign : Cond.code yX2_readSign cX2_readSign 1 (some .boolean) ∈ TBL := tm 611 (by decide +kernel) (by decide +kernel)
theorem ml_X2_43 : Cond.methodLink RX2 43 yX2_readSign ∈ TBL := tm 608 (by decide +kernel) (by decide +kernel)
theorem im_X2_readSign : Cond.instanceMethod yX2_readSign ∈ TBL := tm 610 (by decide +kernel) (by decide +kernel)
theorem se_X2_readSign : Cond.selects RX2 yX2_readSign yX2_readSign ∈ TBL := tm 19 (by decide +kernel) (by decide +kernel)
theorem co_X6_clear : Cond.code yX6_clear cX6_clear 1 (none) ∈ TBL := tm 443 (by decide +kernel) (by decide +kernel)
theorem ml_X2_22 : Cond.methodLink RX2 22 yX6_clear ∈ TBL := tm 440 (by decide +kernel) (by decide +kernel)
theorem im_X6_clear : Cond.instanceMethod yX6_clear ∈ TBL := tm 441 (by decide +kernel) (by decide +kernel)
theorem se_X6_clear : Cond.selects RX6 yX6_clear yX6_clear ∈ TBL := tm 442 (by decide +kernel) (by decide +kernel)
theorem fl_X7_23 : Cond.fieldLink RX7 23 (TX7 2).1 (TX7 2).2.1 (TX7 2).2.2.1 ∈ TBL := tm 385 (by decide +kernel) (by decide +kernel)
theorem co_X2_readTable : Cond.code yX2_readTable cX2_readTable 3 (some .boolean) ∈ TBL := tm 439 (by decide +kernel) (by decide +kernel)
theorem ml_X7_84 : Cond.methodLink RX7 84 yX2_readTable ∈ TBL := tm 436 (by decide +kernel) (by decide +kernel)
theorem im_X2_readTable : Cond.instanceMethod yX2_readTable ∈ TBL := tm 437 (by decide +kernel) (by decide +kernel)
theorem se_X2_readTable : Cond.selects RX2 yX2_readTable yX2_readTable ∈ TBL := tm 438 (by decide +kernel) (by decide +kernel)
theorem gf_X7_10 {G : GT} {X : CT} {cc : ByteArray} {nL n : Nat} {σ : St} {lv : List (Nat × Value)} {pc : Nat} {st : List Value} (cx : Cx G X RX7 cc nL n) (hdg : decode cc pc = .ok (.getfield 10, 3)) (k : WW G X nL σ lv (pc + 3) (.ref (gad G 1) :: st)) : WW G X nL σ lv pc (.ref (gad G 0) :: st) := ww_get (C := RX7) (T := TX7) (N := 12) (j := 0) (ci := 7) rfl wi7 (by decide) fl_X7_10 cx sh_0 rfl hdg k
theorem gf_X7_76 {G : GT} {X : CT} {cc : ByteArray} {nL n : Nat} {σ : St} {lv : List (Nat × Value)} {pc : Nat} {st : List Value} (cx : Cx G X RX7 cc nL n) (hdg : decode cc pc = .ok (.getfield 76, 3)) (k : WW G X nL σ lv (pc + 3) (.int (σ.1 1 1) :: st)) : WW G X nL σ lv pc (.ref (gad G 1) :: st) := ww_get (C := RX2) (T := TX2) (N := 8) (j := 1) (ci := 2) rfl wi2 (by decide) fl_X7_76 cx sh_1 rfl hdg k
theorem pf_X7_76 {G : GT} {X : CT} {cc : ByteArray} {nL n : Nat} {σ : St} {lv : List (Nat × Value)} {pc : Nat} {st : List Value} {x : Int32} {β : Type} {F : St → Option β} {o : β} (cx : Cx G X RX7 cc nL n) (hdg : decode cc pc = .ok (.putfield 76, 3)) (hF : lt (setI σ 1 1 x) F = some o) (k : ∀ σ1 : St, F σ1 = some o → WW G X nL σ1 lv (pc + 3) st) : WW G X nL σ lv pc (.int x :: .ref (gad G 1) :: st) := ww_put (C := RX2) (T := TX2) (N := 8) (j := 1) (ci := 2) rfl wi2 tyX2 tyX2_ok nmX2 (by decide) fl_X7_76 (by decide +kernel) (by decide +kernel) cx sh_1 rfl hdg hF k
theorem gf_X7_95 {G : GT} {X : CT} {cc : ByteArray} {nL n : Nat} {σ : St} {lv : List (Nat × Value)} {pc : Nat} {st : List Value} (cx : Cx G X RX7 cc nL n) (hdg : decode cc pc = .ok (.getfield 95, 3)) (k : WW G X nL σ lv (pc + 3) (.int (σ.1 1 2) :: st)) : WW G X nL σ lv pc (.ref (gad G 1) :: st) := ww_get (C := RX2) (T := TX2) (N := 8) (j := 2) (ci := 2) rfl wi2 (by decide) fl_X7_95 cx sh_1 rfl hdg k
theorem gf_X7_98 {G : GT} {X : CT} {cc : ByteArray} {nL n : Nat} {σ : St} {lv : List (Nat × Value)} {pc : Nat} {st : List Value} (cx : Cx G X RX7 cc nL n) (hdg : decode cc pc = .ok (.getfield 98, 3)) (k : WW G X nL σ lv (pc + 3) (.int (σ.1 1 3) :: st)) : WW G X nL σ lv pc (.ref (gad G 1) :: st) := ww_get (C := RX2) (T := TX2) (N := 8) (j := 3) (ci := 2) rfl wi2 (by decide) fl_X7_98 cx sh_1 rfl hdg k
theorem gf_X7_36 {G : GT} {X : CT} {cc : ByteArray} {nL n : Nat} {σ : St} {lv : List (Nat × Value)} {pc : Nat} {st : List Value} (cx : Cx G X RX7 cc nL n) (hdg : decode cc pc = .ok (.getfield 36, 3)) (k : WW G X nL σ lv (pc + 3) (.ref (gad G 40) :: st)) : WW G X nL σ lv pc (.ref (gad G 0) :: st) := ww_get (C := RX7) (T := TX7) (N := 12) (j := 5) (ci := 7) rfl wi7 (by decide) fl_X7_36 cx sh_0 rfl hdg k
theorem gf_X7_199 {G : GT} {X : CT} {cc : ByteArray} {nL n : Nat} {σ : St} {lv : List (Nat × Value)} {pc : Nat} {st : List Value} {w : Nat} (cx : Cx G X RX7 cc nL n) (ht : isRow w) (hdg : decode cc pc = .ok (.getfield 199, 3)) (k : WW G X nL σ lv (pc + 3) (.int (σ.1 w 0) :: st)) : WW G X nL σ lv pc (.ref (gad G w) :: st) := ww_get (C := RX4) (T := TX4) (N := 4) (j := 0) (ci := 4) rfl wi4 (by decide) fl_X7_199 cx ht.1 rfl hdg k
theorem gf_X0_9 {G : GT} {X : CT} {cc : ByteArray} {nL n : Nat} {σ : St} {lv : List (Nat × Value)} {pc : Nat} {st : List Value} (cx : Cx G X RX0 cc nL n) (hdg : decode cc pc = .ok (.getfield 9, 3)) (k : WW G X nL σ lv (pc + 3) (.ref (gad G 61) :: st)) : WW G X nL σ lv pc (.ref (gad G 60) :: st) := ww_get (C := RX0) (T := TX0) (N := 1) (j := 0) (ci := 0) rfl wi0 (by decide) fl_X0_9 cx sh_60 rfl hdg k
theorem gf_X0_21 {G : GT} {X : CT} {cc : ByteArray} {nL n : Nat} {σ : St} {lv : List (Nat × Value)} {pc : Nat} {st : List Value} {t : Nat} (cx : Cx G X RX0 cc nL n) (ht : isTab t) (hdg : decode cc pc = .ok (.getfield 21, 3)) (k : WW G X nL σ lv (pc + 3) (.ref (gad G (t + 2)) :: st)) : WW G X nL σ lv pc (.ref (gad G t) :: st) := ww_get (C := RX6) (T := TX6) (N := 14) (j := 9) (ci := 6) rfl wi6 (by decide) fl_X0_21 cx ht.1 rfl hdg k
theorem gf_X0_15 {G : GT} {X : CT} {cc : ByteArray} {nL n : Nat} {σ : St} {lv : List (Nat × Value)} {pc : Nat} {st : List Value} {t : Nat} (cx : Cx G X RX0 cc nL n) (ht : isTab t) (hdg : decode cc pc = .ok (.getfield 15, 3)) (k : WW G X nL σ lv (pc + 3) (.int (σ.1 t 1) :: st)) : WW G X nL σ lv pc (.ref (gad G t) :: st) := ww_get (C := RX6) (T := TX6) (N := 14) (j := 1) (ci := 6) rfl wi6 (by decide) fl_X0_15 cx ht.1 rfl hdg k
theorem gf_X1_9 {G : GT} {X : CT} {cc : ByteArray} {nL n : Nat} {σ : St} {lv : List (Nat × Value)} {pc : Nat} {st : List Value} (cx : Cx G X RX1 cc nL n) (hdg : decode cc pc = .ok (.getfield 9, 3)) (k : WW G X nL σ lv (pc + 3) (.ref (gad G 56) :: st)) : WW G X nL σ lv pc (.ref (gad G 55) :: st) := ww_get (C := RX1) (T := TX1) (N := 7) (j := 3) (ci := 1) rfl wi1 (by decide) fl_X1_9 cx sh_55 rfl hdg k
theorem gf_X1_48 {G : GT} {X : CT} {cc : ByteArray} {nL n : Nat} {σ : St} {lv : List (Nat × Value)} {pc : Nat} {st : List Value} (cx : Cx G X RX1 cc nL n) (hdg : decode cc pc = .ok (.getfield 48, 3)) (k : WW G X nL σ lv (pc + 3) (.int (σ.1 55 2) :: st)) : WW G X nL σ lv pc (.ref (gad G 55) :: st) := ww_get (C := RX1) (T := TX1) (N := 7) (j := 2) (ci := 1) rfl wi1 (by decide) fl_X1_48 cx sh_55 rfl hdg k
theorem pf_X1_48 {G : GT} {X : CT} {cc : ByteArray} {nL n : Nat} {σ : St} {lv : List (Nat × Value)} {pc : Nat} {st : List Value} {x : Int32} {β : Type} {F : St → Option β} {o : β} (cx : Cx G X RX1 cc nL n) (hdg : decode cc pc = .ok (.putfield 48, 3)) (hF : lt (setI σ 55 2 x) F = some o) (k : ∀ σ1 : St, F σ1 = some o → WW G X nL σ1 lv (pc + 3) st) : WW G X nL σ lv pc (.int x :: .ref (gad G 55) :: st) := ww_put (C := RX1) (T := TX1) (N := 7) (j := 2) (ci := 1) rfl wi1 tyX1 tyX1_ok nmX1 (by decide) fl_X1_48 (by decide +kernel) (by decide +kernel) cx sh_55 rfl hdg hF k
theorem gf_X1_15 {G : GT} {X : CT} {cc : ByteArray} {nL n : Nat} {σ : St} {lv : List (Nat × Value)} {pc : Nat} {st : List Value} (cx : Cx G X RX1 cc nL n) (hdg : decode cc pc = .ok (.getfield 15, 3)) (k : WW G X nL σ lv (pc + 3) (.ref (gad G 57) :: st)) : WW G X nL σ lv pc (.ref (gad G 55) :: st) := ww_get (C := RX1) (T := TX1) (N := 7) (j := 4) (ci := 1) rfl wi1 (by decide) fl_X1_15 cx sh_55 rfl hdg k
theorem gf_X1_18 {G : GT} {X : CT} {cc : ByteArray} {nL n : Nat} {σ : St} {lv : List (Nat × Value)} {pc : Nat} {st : List Value} (cx : Cx G X RX1 cc nL n) (hdg : decode cc pc = .ok (.getfield 18, 3)) (k : WW G X nL σ lv (pc + 3) (.ref (gad G 58) :: st)) : WW G X nL σ lv pc (.ref (gad G 55) :: st) := ww_get (C := RX1) (T := TX1) (N := 7) (j := 5) (ci := 1) rfl wi1 (by decide) fl_X1_18 cx sh_55 rfl hdg k
theorem gf_X1_21 {G : GT} {X : CT} {cc : ByteArray} {nL n : Nat} {σ : St} {lv : List (Nat × Value)} {pc : Nat} {st : List Value} (cx : Cx G X RX1 cc nL n) (hdg : decode cc pc = .ok (.getfield 21, 3)) (k : WW G X nL σ lv (pc + 3) (.ref (gad G 59) :: st)) : WW G X nL σ lv pc (.ref (gad G 55) :: st) := ww_get (C := RX1) (T := TX1) (N := 7) (j := 6) (ci := 1) rfl wi1 (by decide) fl_X1_21 cx sh_55 rfl hdg k
theorem gf_X1_51 {G : GT} {X : CT} {cc : ByteArray} {nL n : Nat} {σ : St} {lv : List (Nat × Value)} {pc : Nat} {st : List Value} {t : Nat} (cx : Cx G X RX1 cc nL n) (ht : isTab t) (hdg : decode cc pc = .ok (.getfield 51, 3)) (k : WW G X nL σ lv (pc + 3) (.int (σ.1 t 7) :: st)) : WW G X nL σ lv pc (.ref (gad G t) :: st) := ww_get (C := RX6) (T := TX6) (N := 14) (j := 7) (ci := 6) rfl wi6 (by decide) fl_X1_51 cx ht.1 rfl hdg k
theorem pf_X1_42 {G : GT} {X : CT} {cc : ByteArray} {nL n : Nat} {σ : St} {lv : List (Nat × Value)} {pc : Nat} {st : List Value} {x : Int32} {β : Type} {F : St → Option β} {o : β} (cx : Cx G X RX1 cc nL n) (hdg : decode cc pc = .ok (.putfield 42, 3)) (hF : lt (setI σ 55 0 x) F = some o) (k : ∀ σ1 : St, F σ1 = some o → WW G X nL σ1 lv (pc + 3) st) : WW G X nL σ lv pc (.int x :: .ref (gad G 55) :: st) := ww_put (C := RX1) (T := TX1) (N := 7) (j := 0) (ci := 1) rfl wi1 tyX1 tyX1_ok nmX1 (by decide) fl_X1_42 (by decide +kernel) (by decide +kernel) cx sh_55 rfl hdg hF k
theorem pf_X1_45 {G : GT} {X : CT} {cc : ByteArray} {nL n : Nat} {σ : St} {lv : List (Nat × Value)} {pc : Nat} {st : List Value} {x : Int32} {β : Type} {F : St → Option β} {o : β} (cx : Cx G X RX1 cc nL n) (hdg : decode cc pc = .ok (.putfield 45, 3)) (hF : lt (setI σ 55 1 x) F = some o) (k : ∀ σ1 : St, F σ1 = some o → WW G X nL σ1 lv (pc + 3) st) : WW G X nL σ lv pc (.int x :: .ref (gad G 55) :: st) := ww_put (C := RX1) (T := TX1) (N := 7) (j := 1) (ci := 1) rfl wi1 tyX1 tyX1_ok nmX1 (by decide) fl_X1_45 (by decide +kernel) (by decide +kernel) cx sh_55 rfl hdg hF k
theorem gf_X2_19 {G : GT} {X : CT} {cc : ByteArray} {nL n : Nat} {σ : St} {lv : List (Nat × Value)} {pc : Nat} {st : List Value} (cx : Cx G X RX2 cc nL n) (hdg : decode cc pc = .ok (.getfield 19, 3)) (k : WW G X nL σ lv (pc + 3) (.int (σ.1 1 1) :: st)) : WW G X nL σ lv pc (.ref (gad G 1) :: st) := ww_get (C := RX2) (T := TX2) (N := 8) (j := 1) (ci := 2) rfl wi2 (by decide) fl_X2_19 cx sh_1 rfl hdg k
theorem gf_X2_9 {G : GT} {X : CT} {cc : ByteArray} {nL n : Nat} {σ : St} {lv : List (Nat × Value)} {pc : Nat} {st : List Value} (cx : Cx G X RX2 cc nL n) (hdg : decode cc pc = .ok (.getfield 9, 3)) (k : WW G X nL σ lv (pc + 3) (.ref (gad G 2) :: st)) : WW G X nL σ lv pc (.ref (gad G 1) :: st) := ww_get (C := RX2) (T := TX2) (N := 8) (j := 0) (ci := 2) rfl wi2 (by decide) fl_X2_9 cx sh_1 rfl hdg k
theorem pf_X2_19 {G : GT} {X : CT} {cc : ByteArray} {nL n : Nat} {σ : St} {lv : List (Nat × Value)} {pc : Nat} {st : List Value} {x : Int32} {β : Type} {F : St → Option β} {o : β} (cx : Cx G X RX2 cc nL n) (hdg : decode cc pc = .ok (.putfield 19, 3)) (hF : lt (setI σ 1 1 x) F = some o) (k : ∀ σ1 : St, F σ1 = some o → WW G X nL σ1 lv (pc + 3) st) : WW G X nL σ lv pc (.int x :: .ref (gad G 1) :: st) := ww_put (C := RX2) (T := TX2) (N := 8) (j := 1) (ci := 2) rfl wi2 tyX2 tyX2_ok nmX2 (by decide) fl_X2_19 (by decide +kernel) (by decide +kernel) cx sh_1 rfl hdg hF k
theorem pf_X2_27 {G : GT} {X : CT} {cc : ByteArray} {nL n : Nat} {σ : St} {lv : List (Nat × Value)} {pc : Nat} {st : List Value} {x : Int32} {β : Type} {F : St → Option β} {o : β} (cx : Cx G X RX2 cc nL n) (hdg : decode cc pc = .ok (.putfield 27, 3)) (hF : lt (setI σ 1 2 x) F = some o) (k : ∀ σ1 : St, F σ1 = some o → WW G X nL σ1 lv (pc + 3) st) : WW G X nL σ lv pc (.int x :: .ref (gad G 1) :: st) := ww_put (C := RX2) (T := TX2) (N := 8) (j := 2) (ci := 2) rfl wi2 tyX2 tyX2_ok nmX2 (by decide) fl_X2_27 (by decide +kernel) (by decide +kernel) cx sh_1 rfl hdg hF k
theorem gf_X2_177 {G : GT} {X : CT} {cc : ByteArray} {nL n : Nat} {σ : St} {lv : List (Nat × Value)} {pc : Nat} {st : List Value} (cx : Cx G X RX2 cc nL n) (hdg : decode cc pc = .ok (.getfield 177, 3)) (k : WW G X nL σ lv (pc + 3) (.int (σ.1 1 5) :: st)) : WW G X nL σ lv pc (.ref (gad G 1) :: st) := ww_get (C := RX2) (T := TX2) (N := 8) (j := 5) (ci := 2) rfl wi2 (by decide) fl_X2_177 cx sh_1 rfl hdg k
theorem pf_X2_15 {G : GT} {X : CT} {cc : ByteArray} {nL n : Nat} {σ : St} {lv : List (Nat × Value)} {pc : Nat} {st : List Value} {x : Int32} {β : Type} {F : St → Option β} {o : β} (cx : Cx G X RX2 cc nL n) (hdg : decode cc pc = .ok (.putfield 15, 3)) (hF : lt (setI σ 1 3 x) F = some o) (k : ∀ σ1 : St, F σ1 = some o → WW G X nL σ1 lv (pc + 3) st) : WW G X nL σ lv pc (.int x :: .ref (gad G 1) :: st) := ww_put (C := RX2) (T := TX2) (N := 8) (j := 3) (ci := 2) rfl wi2 tyX2 tyX2_ok nmX2 (by decide) fl_X2_15 (by decide +kernel) (by decide +kernel) cx sh_1 rfl hdg hF k
theorem gf_X2_36 {G : GT} {X : CT} {cc : ByteArray} {nL n : Nat} {σ : St} {lv : List (Nat × Value)} {pc : Nat} {st : List Value} (cx : Cx G X RX2 cc nL n) (hdg : decode cc pc = .ok (.getfield 36, 3)) (k : WW G X nL σ lv (pc + 3) (.int (σ.1 1 4) :: st)) : WW G X nL σ lv pc (.ref (gad G 1) :: st) := ww_get (C := RX2) (T := TX2) (N := 8) (j := 4) (ci := 2) rfl wi2 (by decide) fl_X2_36 cx sh_1 rfl hdg k
theorem gf_X2_122 {G : GT} {X : CT} {cc : ByteArray} {nL n : Nat} {σ : St} {lv : List (Nat × Value)} {pc : Nat} {st : List Value} (cx : Cx G X RX2 cc nL n) (hdg : decode cc pc = .ok (.getfield 122, 3)) (k : WW G X nL σ lv (pc + 3) (.int (σ.1 1 7) :: st)) : WW G X nL σ lv pc (.ref (gad G 1) :: st) := ww_get (C := RX2) (T := TX2) (N := 8) (j := 7) (ci := 2) rfl wi2 (by decide) fl_X2_122 cx sh_1 rfl hdg k
theorem gf_X3_46 {G : GT} {X : CT} {cc : ByteArray} {nL n : Nat} {σ : St} {lv : List (Nat × Value)} {pc : Nat} {st : List Value} {t : Nat} (cx : Cx G X RX3 cc nL n) (ht : isTab t) (hdg : decode cc pc = .ok (.getfield 46, 3)) (k : WW G X nL σ lv (pc + 3) (.ref (gad G (t + 4)) :: st)) : WW G X nL σ lv pc (.ref (gad G t) :: st) := ww_get (C := RX6) (T := TX6) (N := 14) (j := 11) (ci := 6) rfl wi6 (by decide) fl_X3_46 cx ht.1 rfl hdg k
theorem gf_X3_27 {G : GT} {X : CT} {cc : ByteArray} {nL n : Nat} {σ : St} {lv : List (Nat × Value)} {pc : Nat} {st : List Value} (cx : Cx G X RX3 cc nL n) (hdg : decode cc pc = .ok (.getfield 27, 3)) (k : WW G X nL σ lv (pc + 3) (.int (σ.1 53 2) :: st)) : WW G X nL σ lv pc (.ref (gad G 53) :: st) := ww_get (C := RX3) (T := TX3) (N := 4) (j := 2) (ci := 3) rfl wi3 (by decide) fl_X3_27 cx sh_53 rfl hdg k
theorem gf_X3_43 {G : GT} {X : CT} {cc : ByteArray} {nL n : Nat} {σ : St} {lv : List (Nat × Value)} {pc : Nat} {st : List Value} {t : Nat} (cx : Cx G X RX3 cc nL n) (ht : isTab t) (hdg : decode cc pc = .ok (.getfield 43, 3)) (k : WW G X nL σ lv (pc + 3) (.ref (gad G (t + 3)) :: st)) : WW G X nL σ lv pc (.ref (gad G t) :: st) := ww_get (C := RX6) (T := TX6) (N := 14) (j := 10) (ci := 6) rfl wi6 (by decide) fl_X3_43 cx ht.1 rfl hdg k
theorem gf_X3_52 {G : GT} {X : CT} {cc : ByteArray} {nL n : Nat} {σ : St} {lv : List (Nat × Value)} {pc : Nat} {st : List Value} {t : Nat} (cx : Cx G X RX3 cc nL n) (ht : isTab t) (hdg : decode cc pc = .ok (.getfield 52, 3)) (k : WW G X nL σ lv (pc + 3) (.int (σ.1 t 4) :: st)) : WW G X nL σ lv pc (.ref (gad G t) :: st) := ww_get (C := RX6) (T := TX6) (N := 14) (j := 4) (ci := 6) rfl wi6 (by decide) fl_X3_52 cx ht.1 rfl hdg k
theorem gf_X3_9 {G : GT} {X : CT} {cc : ByteArray} {nL n : Nat} {σ : St} {lv : List (Nat × Value)} {pc : Nat} {st : List Value} (cx : Cx G X RX3 cc nL n) (hdg : decode cc pc = .ok (.getfield 9, 3)) (k : WW G X nL σ lv (pc + 3) (.ref (gad G 54) :: st)) : WW G X nL σ lv pc (.ref (gad G 53) :: st) := ww_get (C := RX3) (T := TX3) (N := 4) (j := 3) (ci := 3) rfl wi3 (by decide) fl_X3_9 cx sh_53 rfl hdg k
theorem gf_X4_23 {G : GT} {X : CT} {cc : ByteArray} {nL n : Nat} {σ : St} {lv : List (Nat × Value)} {pc : Nat} {st : List Value} {w : Nat} (cx : Cx G X RX4 cc nL n) (ht : isRow w) (hdg : decode cc pc = .ok (.getfield 23, 3)) (k : WW G X nL σ lv (pc + 3) (.int (σ.1 w 2) :: st)) : WW G X nL σ lv pc (.ref (gad G w) :: st) := ww_get (C := RX4) (T := TX4) (N := 4) (j := 2) (ci := 4) rfl wi4 (by decide) fl_X4_23 cx ht.1 rfl hdg k
theorem gf_X4_9 {G : GT} {X : CT} {cc : ByteArray} {nL n : Nat} {σ : St} {lv : List (Nat × Value)} {pc : Nat} {st : List Value} {w : Nat} (cx : Cx G X RX4 cc nL n) (ht : isRow w) (hdg : decode cc pc = .ok (.getfield 9, 3)) (k : WW G X nL σ lv (pc + 3) (.ref (gad G (w + 1)) :: st)) : WW G X nL σ lv pc (.ref (gad G w) :: st) := ww_get (C := RX4) (T := TX4) (N := 4) (j := 3) (ci := 4) rfl wi4 (by decide) fl_X4_9 cx ht.1 rfl hdg k
theorem pf_X4_15 {G : GT} {X : CT} {cc : ByteArray} {nL n : Nat} {σ : St} {lv : List (Nat × Value)} {pc : Nat} {st : List Value} {w : Nat} {x : Int32} {β : Type} {F : St → Option β} {o : β} (cx : Cx G X RX4 cc nL n) (ht : isRow w) (hdg : decode cc pc = .ok (.putfield 15, 3)) (hF : gd (x = 0 ∨ x = 1) (lt (setI σ w 0 x) F) = some o) (k : ∀ σ1 : St, F σ1 = some o → WW G X nL σ1 lv (pc + 3) st) : WW G X nL σ lv pc (.int x :: .ref (gad G w) :: st) := ww_putZ (C := RX4) (T := TX4) (N := 4) (j := 0) (ci := 4) rfl wi4 tyX4 tyX4_ok nmX4 (by decide) fl_X4_15 (by decide +kernel) (by decide +kernel) cx ht.1 rfl hdg hF k
theorem pf_X4_19 {G : GT} {X : CT} {cc : ByteArray} {nL n : Nat} {σ : St} {lv : List (Nat × Value)} {pc : Nat} {st : List Value} {w : Nat} {x : Int32} {β : Type} {F : St → Option β} {o : β} (cx : Cx G X RX4 cc nL n) (ht : isRow w) (hdg : decode cc pc = .ok (.putfield 19, 3)) (hF : lt (setI σ w 1 x) F = some o) (k : ∀ σ1 : St, F σ1 = some o → WW G X nL σ1 lv (pc + 3) st) : WW G X nL σ lv pc (.int x :: .ref (gad G w) :: st) := ww_put (C := RX4) (T := TX4) (N := 4) (j := 1) (ci := 4) rfl wi4 tyX4 tyX4_ok nmX4 (by decide) fl_X4_19 (by decide +kernel) (by decide +kernel) cx ht.1 rfl hdg hF k
theorem pf_X4_23 {G : GT} {X : CT} {cc : ByteArray} {nL n : Nat} {σ : St} {lv : List (Nat × Value)} {pc : Nat} {st : List Value} {w : Nat} {x : Int32} {β : Type} {F : St → Option β} {o : β} (cx : Cx G X RX4 cc nL n) (ht : isRow w) (hdg : decode cc pc = .ok (.putfield 23, 3)) (hF : lt (setI σ w 2 x) F = some o) (k : ∀ σ1 : St, F σ1 = some o → WW G X nL σ1 lv (pc + 3) st) : WW G X nL σ lv pc (.int x :: .ref (gad G w) :: st) := ww_put (C := RX4) (T := TX4) (N := 4) (j := 2) (ci := 4) rfl wi4 tyX4 tyX4_ok nmX4 (by decide) fl_X4_23 (by decide +kernel) (by decide +kernel) cx ht.1 rfl hdg hF k
theorem gf_X4_19 {G : GT} {X : CT} {cc : ByteArray} {nL n : Nat} {σ : St} {lv : List (Nat × Value)} {pc : Nat} {st : List Value} {w : Nat} (cx : Cx G X RX4 cc nL n) (ht : isRow w) (hdg : decode cc pc = .ok (.getfield 19, 3)) (k : WW G X nL σ lv (pc + 3) (.int (σ.1 w 1) :: st)) : WW G X nL σ lv pc (.ref (gad G w) :: st) := ww_get (C := RX4) (T := TX4) (N := 4) (j := 1) (ci := 4) rfl wi4 (by decide) fl_X4_19 cx ht.1 rfl hdg k
theorem gf_X5_9 {G : GT} {X : CT} {cc : ByteArray} {nL n : Nat} {σ : St} {lv : List (Nat × Value)} {pc : Nat} {st : List Value} {h : Nat} (cx : Cx G X RX5 cc nL n) (ht : isShe h) (hdg : decode cc pc = .ok (.getfield 9, 3)) (k : WW G X nL σ lv (pc + 3) (.ref (gad G (h + 1)) :: st)) : WW G X nL σ lv pc (.ref (gad G h) :: st) := ww_get (C := RX5) (T := TX5) (N := 1) (j := 0) (ci := 5) rfl wi5 (by decide) fl_X5_9 cx ht.1 rfl hdg k
theorem gf_X6_46 {G : GT} {X : CT} {cc : ByteArray} {nL n : Nat} {σ : St} {lv : List (Nat × Value)} {pc : Nat} {st : List Value} {t : Nat} (cx : Cx G X RX6 cc nL n) (ht : isTab t) (hdg : decode cc pc = .ok (.getfield 46, 3)) (k : WW G X nL σ lv (pc + 3) (.int (σ.1 t 5) :: st)) : WW G X nL σ lv pc (.ref (gad G t) :: st) := ww_get (C := RX6) (T := TX6) (N := 14) (j := 5) (ci := 6) rfl wi6 (by decide) fl_X6_46 cx ht.1 rfl hdg k
theorem gf_X6_18 {G : GT} {X : CT} {cc : ByteArray} {nL n : Nat} {σ : St} {lv : List (Nat × Value)} {pc : Nat} {st : List Value} {t : Nat} (cx : Cx G X RX6 cc nL n) (ht : isTab t) (hdg : decode cc pc = .ok (.getfield 18, 3)) (k : WW G X nL σ lv (pc + 3) (.ref (gad G (t + 3)) :: st)) : WW G X nL σ lv pc (.ref (gad G t) :: st) := ww_get (C := RX6) (T := TX6) (N := 14) (j := 10) (ci := 6) rfl wi6 (by decide) fl_X6_18 cx ht.1 rfl hdg k
theorem gf_X6_21 {G : GT} {X : CT} {cc : ByteArray} {nL n : Nat} {σ : St} {lv : List (Nat × Value)} {pc : Nat} {st : List Value} {t : Nat} (cx : Cx G X RX6 cc nL n) (ht : isTab t) (hdg : decode cc pc = .ok (.getfield 21, 3)) (k : WW G X nL σ lv (pc + 3) (.ref (gad G (t + 4)) :: st)) : WW G X nL σ lv pc (.ref (gad G t) :: st) := ww_get (C := RX6) (T := TX6) (N := 14) (j := 11) (ci := 6) rfl wi6 (by decide) fl_X6_21 cx ht.1 rfl hdg k
theorem pf_X6_46 {G : GT} {X : CT} {cc : ByteArray} {nL n : Nat} {σ : St} {lv : List (Nat × Value)} {pc : Nat} {st : List Value} {t : Nat} {x : Int32} {β : Type} {F : St → Option β} {o : β} (cx : Cx G X RX6 cc nL n) (ht : isTab t) (hdg : decode cc pc = .ok (.putfield 46, 3)) (hF : lt (setI σ t 5 x) F = some o) (k : ∀ σ1 : St, F σ1 = some o → WW G X nL σ1 lv (pc + 3) st) : WW G X nL σ lv pc (.int x :: .ref (gad G t) :: st) := ww_put (C := RX6) (T := TX6) (N := 14) (j := 5) (ci := 6) rfl wi6 tyX6 tyX6_ok nmX6 (by decide) fl_X6_46 (by decide +kernel) (by decide +kernel) cx ht.1 rfl hdg hF k
theorem gf_X6_34 {G : GT} {X : CT} {cc : ByteArray} {nL n : Nat} {σ : St} {lv : List (Nat × Value)} {pc : Nat} {st : List Value} {t : Nat} (cx : Cx G X RX6 cc nL n) (ht : isTab t) (hdg : decode cc pc = .ok (.getfield 34, 3)) (k : WW G X nL σ lv (pc + 3) (.int (σ.1 t 1) :: st)) : WW G X nL σ lv pc (.ref (gad G t) :: st) := ww_get (C := RX6) (T := TX6) (N := 14) (j := 1) (ci := 6) rfl wi6 (by decide) fl_X6_34 cx ht.1 rfl hdg k
theorem gf_X6_24 {G : GT} {X : CT} {cc : ByteArray} {nL n : Nat} {σ : St} {lv : List (Nat × Value)} {pc : Nat} {st : List Value} {t : Nat} (cx : Cx G X RX6 cc nL n) (ht : isTab t) (hdg : decode cc pc = .ok (.getfield 24, 3)) (k : WW G X nL σ lv (pc + 3) (.ref (gad G (t + 5)) :: st)) : WW G X nL σ lv pc (.ref (gad G t) :: st) := ww_get (C := RX6) (T := TX6) (N := 14) (j := 12) (ci := 6) rfl wi6 (by decide) fl_X6_24 cx ht.1 rfl hdg k
theorem gf_X6_37 {G : GT} {X : CT} {cc : ByteArray} {nL n : Nat} {σ : St} {lv : List (Nat × Value)} {pc : Nat} {st : List Value} {t : Nat} (cx : Cx G X RX6 cc nL n) (ht : isTab t) (hdg : decode cc pc = .ok (.getfield 37, 3)) (k : WW G X nL σ lv (pc + 3) (.int (σ.1 t 2) :: st)) : WW G X nL σ lv pc (.ref (gad G t) :: st) := ww_get (C := RX6) (T := TX6) (N := 14) (j := 2) (ci := 6) rfl wi6 (by decide) fl_X6_37 cx ht.1 rfl hdg k
theorem gf_X6_43 {G : GT} {X : CT} {cc : ByteArray} {nL n : Nat} {σ : St} {lv : List (Nat × Value)} {pc : Nat} {st : List Value} {t : Nat} (cx : Cx G X RX6 cc nL n) (ht : isTab t) (hdg : decode cc pc = .ok (.getfield 43, 3)) (k : WW G X nL σ lv (pc + 3) (.int (σ.1 t 4) :: st)) : WW G X nL σ lv pc (.ref (gad G t) :: st) := ww_get (C := RX6) (T := TX6) (N := 14) (j := 4) (ci := 6) rfl wi6 (by decide) fl_X6_43 cx ht.1 rfl hdg k
theorem gf_X6_15 {G : GT} {X : CT} {cc : ByteArray} {nL n : Nat} {σ : St} {lv : List (Nat × Value)} {pc : Nat} {st : List Value} {t : Nat} (cx : Cx G X RX6 cc nL n) (ht : isTab t) (hdg : decode cc pc = .ok (.getfield 15, 3)) (k : WW G X nL σ lv (pc + 3) (.ref (gad G (t + 2)) :: st)) : WW G X nL σ lv pc (.ref (gad G t) :: st) := ww_get (C := RX6) (T := TX6) (N := 14) (j := 9) (ci := 6) rfl wi6 (by decide) fl_X6_15 cx ht.1 rfl hdg k
theorem pf_X6_30 {G : GT} {X : CT} {cc : ByteArray} {nL n : Nat} {σ : St} {lv : List (Nat × Value)} {pc : Nat} {st : List Value} {t : Nat} {x : Int32} {β : Type} {F : St → Option β} {o : β} (cx : Cx G X RX6 cc nL n) (ht : isTab t) (hdg : decode cc pc = .ok (.putfield 30, 3)) (hF : lt (setI σ t 0 x) F = some o) (k : ∀ σ1 : St, F σ1 = some o → WW G X nL σ1 lv (pc + 3) st) : WW G X nL σ lv pc (.int x :: .ref (gad G t) :: st) := ww_put (C := RX6) (T := TX6) (N := 14) (j := 0) (ci := 6) rfl wi6 tyX6 tyX6_ok nmX6 (by decide) fl_X6_30 (by decide +kernel) (by decide +kernel) cx ht.1 rfl hdg hF k
theorem pf_X6_34 {G : GT} {X : CT} {cc : ByteArray} {nL n : Nat} {σ : St} {lv : List (Nat × Value)} {pc : Nat} {st : List Value} {t : Nat} {x : Int32} {β : Type} {F : St → Option β} {o : β} (cx : Cx G X RX6 cc nL n) (ht : isTab t) (hdg : decode cc pc = .ok (.putfield 34, 3)) (hF : lt (setI σ t 1 x) F = some o) (k : ∀ σ1 : St, F σ1 = some o → WW G X nL σ1 lv (pc + 3) st) : WW G X nL σ lv pc (.int x :: .ref (gad G t) :: st) := ww_put (C := RX6) (T := TX6) (N := 14) (j := 1) (ci := 6) rfl wi6 tyX6 tyX6_ok nmX6 (by decide) fl_X6_34 (by decide +kernel) (by decide +kernel) cx ht.1 rfl hdg hF k
theorem pf_X6_37 {G : GT} {X : CT} {cc : ByteArray} {nL n : Nat} {σ : St} {lv : List (Nat × Value)} {pc : Nat} {st : List Value} {t : Nat} {x : Int32} {β : Type} {F : St → Option β} {o : β} (cx : Cx G X RX6 cc nL n) (ht : isTab t) (hdg : decode cc pc = .ok (.putfield 37, 3)) (hF : lt (setI σ t 2 x) F = some o) (k : ∀ σ1 : St, F σ1 = some o → WW G X nL σ1 lv (pc + 3) st) : WW G X nL σ lv pc (.int x :: .ref (gad G t) :: st) := ww_put (C := RX6) (T := TX6) (N := 14) (j := 2) (ci := 6) rfl wi6 tyX6 tyX6_ok nmX6 (by decide) fl_X6_37 (by decide +kernel) (by decide +kernel) cx ht.1 rfl hdg hF k
theorem pf_X6_40 {G : GT} {X : CT} {cc : ByteArray} {nL n : Nat} {σ : St} {lv : List (Nat × Value)} {pc : Nat} {st : List Value} {t : Nat} {x : Int32} {β : Type} {F : St → Option β} {o : β} (cx : Cx G X RX6 cc nL n) (ht : isTab t) (hdg : decode cc pc = .ok (.putfield 40, 3)) (hF : lt (setI σ t 3 x) F = some o) (k : ∀ σ1 : St, F σ1 = some o → WW G X nL σ1 lv (pc + 3) st) : WW G X nL σ lv pc (.int x :: .ref (gad G t) :: st) := ww_put (C := RX6) (T := TX6) (N := 14) (j := 3) (ci := 6) rfl wi6 tyX6 tyX6_ok nmX6 (by decide) fl_X6_40 (by decide +kernel) (by decide +kernel) cx ht.1 rfl hdg hF k
theorem pf_X6_43 {G : GT} {X : CT} {cc : ByteArray} {nL n : Nat} {σ : St} {lv : List (Nat × Value)} {pc : Nat} {st : List Value} {t : Nat} {x : Int32} {β : Type} {F : St → Option β} {o : β} (cx : Cx G X RX6 cc nL n) (ht : isTab t) (hdg : decode cc pc = .ok (.putfield 43, 3)) (hF : lt (setI σ t 4 x) F = some o) (k : ∀ σ1 : St, F σ1 = some o → WW G X nL σ1 lv (pc + 3) st) : WW G X nL σ lv pc (.int x :: .ref (gad G t) :: st) := ww_put (C := RX6) (T := TX6) (N := 14) (j := 4) (ci := 6) rfl wi6 tyX6 tyX6_ok nmX6 (by decide) fl_X6_43 (by decide +kernel) (by decide +kernel) cx ht.1 rfl hdg hF k
theorem pf_X6_49 {G : GT} {X : CT} {cc : ByteArray} {nL n : Nat} {σ : St} {lv : List (Nat × Value)} {pc : Nat} {st : List Value} {t : Nat} {x : Int32} {β : Type} {F : St → Option β} {o : β} (cx : Cx G X RX6 cc nL n) (ht : isTab t) (hdg : decode cc pc = .ok (.putfield 49, 3)) (hF : lt (setI σ t 6 x) F = some o) (k : ∀ σ1 : St, F σ1 = some o → WW G X nL σ1 lv (pc + 3) st) : WW G X nL σ lv pc (.int x :: .ref (gad G t) :: st) := ww_put (C := RX6) (T := TX6) (N := 14) (j := 6) (ci := 6) rfl wi6 tyX6 tyX6_ok nmX6 (by decide) fl_X6_49 (by decide +kernel) (by decide +kernel) cx ht.1 rfl hdg hF k
theorem pf_X6_52 {G : GT} {X : CT} {cc : ByteArray} {nL n : Nat} {σ : St} {lv : List (Nat × Value)} {pc : Nat} {st : List Value} {t : Nat} {x : Int32} {β : Type} {F : St → Option β} {o : β} (cx : Cx G X RX6 cc nL n) (ht : isTab t) (hdg : decode cc pc = .ok (.putfield 52, 3)) (hF : lt (setI σ t 7 x) F = some o) (k : ∀ σ1 : St, F σ1 = some o → WW G X nL σ1 lv (pc + 3) st) : WW G X nL σ lv pc (.int x :: .ref (gad G t) :: st) := ww_put (C := RX6) (T := TX6) (N := 14) (j := 7) (ci := 6) rfl wi6 tyX6 tyX6_ok nmX6 (by decide) fl_X6_52 (by decide +kernel) (by decide +kernel) cx ht.1 rfl hdg hF k
theorem gf_X6_49 {G : GT} {X : CT} {cc : ByteArray} {nL n : Nat} {σ : St} {lv : List (Nat × Value)} {pc : Nat} {st : List Value} {t : Nat} (cx : Cx G X RX6 cc nL n) (ht : isTab t) (hdg : decode cc pc = .ok (.getfield 49, 3)) (k : WW G X nL σ lv (pc + 3) (.int (σ.1 t 6) :: st)) : WW G X nL σ lv pc (.ref (gad G t) :: st) := ww_get (C := RX6) (T := TX6) (N := 14) (j := 6) (ci := 6) rfl wi6 (by decide) fl_X6_49 cx ht.1 rfl hdg k
theorem gf_X6_27 {G : GT} {X : CT} {cc : ByteArray} {nL n : Nat} {σ : St} {lv : List (Nat × Value)} {pc : Nat} {st : List Value} {t : Nat} (cx : Cx G X RX6 cc nL n) (ht : isTab t) (hdg : decode cc pc = .ok (.getfield 27, 3)) (k : WW G X nL σ lv (pc + 3) (.ref (gad G (t + 6)) :: st)) : WW G X nL σ lv pc (.ref (gad G t) :: st) := ww_get (C := RX6) (T := TX6) (N := 14) (j := 13) (ci := 6) rfl wi6 (by decide) fl_X6_27 cx ht.1 rfl hdg k
theorem gf_X6_40 {G : GT} {X : CT} {cc : ByteArray} {nL n : Nat} {σ : St} {lv : List (Nat × Value)} {pc : Nat} {st : List Value} {t : Nat} (cx : Cx G X RX6 cc nL n) (ht : isTab t) (hdg : decode cc pc = .ok (.getfield 40, 3)) (k : WW G X nL σ lv (pc + 3) (.int (σ.1 t 3) :: st)) : WW G X nL σ lv pc (.ref (gad G t) :: st) := ww_get (C := RX6) (T := TX6) (N := 14) (j := 3) (ci := 6) rfl wi6 (by decide) fl_X6_40 cx ht.1 rfl hdg k
theorem gf_X6_30 {G : GT} {X : CT} {cc : ByteArray} {nL n : Nat} {σ : St} {lv : List (Nat × Value)} {pc : Nat} {st : List Value} {t : Nat} (cx : Cx G X RX6 cc nL n) (ht : isTab t) (hdg : decode cc pc = .ok (.getfield 30, 3)) (k : WW G X nL σ lv (pc + 3) (.int (σ.1 t 0) :: st)) : WW G X nL σ lv pc (.ref (gad G t) :: st) := ww_get (C := RX6) (T := TX6) (N := 14) (j := 0) (ci := 6) rfl wi6 (by decide) fl_X6_30 cx ht.1 rfl hdg k
theorem gf_X6_9 {G : GT} {X : CT} {cc : ByteArray} {nL n : Nat} {σ : St} {lv : List (Nat × Value)} {pc : Nat} {st : List Value} {t : Nat} (cx : Cx G X RX6 cc nL n) (ht : isTab t) (hdg : decode cc pc = .ok (.getfield 9, 3)) (k : WW G X nL σ lv (pc + 3) (.ref (gad G (t + 1)) :: st)) : WW G X nL σ lv pc (.ref (gad G t) :: st) := ww_get (C := RX6) (T := TX6) (N := 14) (j := 8) (ci := 6) rfl wi6 (by decide) fl_X6_9 cx ht.1 rfl hdg k
theorem gf_X8_9 {G : GT} {X : CT} {cc : ByteArray} {nL n : Nat} {σ : St} {lv : List (Nat × Value)} {pc : Nat} {st : List Value} (cx : Cx G X RX8 cc nL n) (hdg : decode cc pc = .ok (.getfield 9, 3)) (k : WW G X nL σ lv (pc + 3) (.ref (gad G 63) :: st)) : WW G X nL σ lv pc (.ref (gad G 62) :: st) := ww_get (C := RX8) (T := TX8) (N := 34) (j := 1) (ci := 8) rfl wi8 (by decide) fl_X8_9 cx sh_62 rfl hdg k
theorem gf_X8_61 {G : GT} {X : CT} {cc : ByteArray} {nL n : Nat} {σ : St} {lv : List (Nat × Value)} {pc : Nat} {st : List Value} (cx : Cx G X RX8 cc nL n) (hdg : decode cc pc = .ok (.getfield 61, 3)) (k : WW G X nL σ lv (pc + 3) (.ref (gad G 78) :: st)) : WW G X nL σ lv pc (.ref (gad G 62) :: st) := ww_get (C := RX8) (T := TX8) (N := 34) (j := 30) (ci := 8) rfl wi8 (by decide) fl_X8_61 cx sh_62 rfl hdg k
theorem gf_X8_95 {G : GT} {X : CT} {cc : ByteArray} {nL n : Nat} {σ : St} {lv : List (Nat × Value)} {pc : Nat} {st : List Value} (cx : Cx G X RX8 cc nL n) (hdg : decode cc pc = .ok (.getfield 95, 3)) (k : WW G X nL σ lv (pc + 3) (.int (σ.1 62 5) :: st)) : WW G X nL σ lv pc (.ref (gad G 62) :: st) := ww_get (C := RX8) (T := TX8) (N := 34) (j := 5) (ci := 8) rfl wi8 (by decide) fl_X8_95 cx sh_62 rfl hdg k
theorem gf_X8_27 {G : GT} {X : CT} {cc : ByteArray} {nL n : Nat} {σ : St} {lv : List (Nat × Value)} {pc : Nat} {st : List Value} (cx : Cx G X RX8 cc nL n) (hdg : decode cc pc = .ok (.getfield 27, 3)) (k : WW G X nL σ lv (pc + 3) (.int (σ.1 62 13) :: st)) : WW G X nL σ lv pc (.ref (gad G 62) :: st) := ww_get (C := RX8) (T := TX8) (N := 34) (j := 13) (ci := 8) rfl wi8 (by decide) fl_X8_27 cx sh_62 rfl hdg k
theorem gf_X8_131 {G : GT} {X : CT} {cc : ByteArray} {nL n : Nat} {σ : St} {lv : List (Nat × Value)} {pc : Nat} {st : List Value} (cx : Cx G X RX8 cc nL n) (hdg : decode cc pc = .ok (.getfield 131, 3)) (k : WW G X nL σ lv (pc + 3) (.int (σ.1 62 12) :: st)) : WW G X nL σ lv pc (.ref (gad G 62) :: st) := ww_get (C := RX8) (T := TX8) (N := 34) (j := 12) (ci := 8) rfl wi8 (by decide) fl_X8_131 cx sh_62 rfl hdg k
theorem pf_X8_95 {G : GT} {X : CT} {cc : ByteArray} {nL n : Nat} {σ : St} {lv : List (Nat × Value)} {pc : Nat} {st : List Value} {x : Int32} {β : Type} {F : St → Option β} {o : β} (cx : Cx G X RX8 cc nL n) (hdg : decode cc pc = .ok (.putfield 95, 3)) (hF : lt (setI σ 62 5 x) F = some o) (k : ∀ σ1 : St, F σ1 = some o → WW G X nL σ1 lv (pc + 3) st) : WW G X nL σ lv pc (.int x :: .ref (gad G 62) :: st) := ww_put (C := RX8) (T := TX8) (N := 34) (j := 5) (ci := 8) rfl wi8 tyX8 tyX8_ok nmX8 (by decide) fl_X8_95 (by decide +kernel) (by decide +kernel) cx sh_62 rfl hdg hF k
theorem gf_X8_20 {G : GT} {X : CT} {cc : ByteArray} {nL n : Nat} {σ : St} {lv : List (Nat × Value)} {pc : Nat} {st : List Value} (cx : Cx G X RX8 cc nL n) (hdg : decode cc pc = .ok (.getfield 20, 3)) (k : WW G X nL σ lv (pc + 3) (.ref (gad G 66) :: st)) : WW G X nL σ lv pc (.ref (gad G 62) :: st) := ww_get (C := RX8) (T := TX8) (N := 34) (j := 4) (ci := 8) rfl wi8 (by decide) fl_X8_20 cx sh_62 rfl hdg k
theorem gf_X8_24 {G : GT} {X : CT} {cc : ByteArray} {nL n : Nat} {σ : St} {lv : List (Nat × Value)} {pc : Nat} {st : List Value} (cx : Cx G X RX8 cc nL n) (hdg : decode cc pc = .ok (.getfield 24, 3)) (k : WW G X nL σ lv (pc + 3) (.ref (gad G 67) :: st)) : WW G X nL σ lv pc (.ref (gad G 62) :: st) := ww_get (C := RX8) (T := TX8) (N := 34) (j := 6) (ci := 8) rfl wi8 (by decide) fl_X8_24 cx sh_62 rfl hdg k
theorem gf_X8_31 {G : GT} {X : CT} {cc : ByteArray} {nL n : Nat} {σ : St} {lv : List (Nat × Value)} {pc : Nat} {st : List Value} (cx : Cx G X RX8 cc nL n) (hdg : decode cc pc = .ok (.getfield 31, 3)) (k : WW G X nL σ lv (pc + 3) (.ref (gad G 68) :: st)) : WW G X nL σ lv pc (.ref (gad G 62) :: st) := ww_get (C := RX8) (T := TX8) (N := 34) (j := 14) (ci := 8) rfl wi8 (by decide) fl_X8_31 cx sh_62 rfl hdg k
theorem gf_X8_67 {G : GT} {X : CT} {cc : ByteArray} {nL n : Nat} {σ : St} {lv : List (Nat × Value)} {pc : Nat} {st : List Value} (cx : Cx G X RX8 cc nL n) (hdg : decode cc pc = .ok (.getfield 67, 3)) (k : WW G X nL σ lv (pc + 3) (.ref (gad G 80) :: st)) : WW G X nL σ lv pc (.ref (gad G 62) :: st) := ww_get (C := RX8) (T := TX8) (N := 34) (j := 32) (ci := 8) rfl wi8 (by decide) fl_X8_67 cx sh_62 rfl hdg k
theorem gf_X8_98 {G : GT} {X : CT} {cc : ByteArray} {nL n : Nat} {σ : St} {lv : List (Nat × Value)} {pc : Nat} {st : List Value} (cx : Cx G X RX8 cc nL n) (hdg : decode cc pc = .ok (.getfield 98, 3)) (k : WW G X nL σ lv (pc + 3) (.int (σ.1 62 7) :: st)) : WW G X nL σ lv pc (.ref (gad G 62) :: st) := ww_get (C := RX8) (T := TX8) (N := 34) (j := 7) (ci := 8) rfl wi8 (by decide) fl_X8_98 cx sh_62 rfl hdg k
theorem gf_X7_19 {G : GT} {X : CT} {cc : ByteArray} {nL n : Nat} {σ : St} {lv : List (Nat × Value)} {pc : Nat} {st : List Value} (cx : Cx G X RX7 cc nL n) (hdg : decode cc pc = .ok (.getfield 19, 3)) (k : WW G X nL σ lv (pc + 3) (.ref (gad G 3) :: st)) : WW G X nL σ lv pc (.ref (gad G 0) :: st) := ww_get (C := RX7) (T := TX7) (N := 12) (j := 1) (ci := 7) rfl wi7 (by decide) fl_X7_19 cx sh_0 rfl hdg k
theorem gf_X7_112 {G : GT} {X : CT} {cc : ByteArray} {nL n : Nat} {σ : St} {lv : List (Nat × Value)} {pc : Nat} {st : List Value} {t : Nat} (cx : Cx G X RX7 cc nL n) (ht : isTab t) (hdg : decode cc pc = .ok (.getfield 112, 3)) (k : WW G X nL σ lv (pc + 3) (.ref (gad G (t + 2)) :: st)) : WW G X nL σ lv pc (.ref (gad G t) :: st) := ww_get (C := RX6) (T := TX6) (N := 14) (j := 9) (ci := 6) rfl wi6 (by decide) fl_X7_112 cx ht.1 rfl hdg k
theorem gf_X7_105 {G : GT} {X : CT} {cc : ByteArray} {nL n : Nat} {σ : St} {lv : List (Nat × Value)} {pc : Nat} {st : List Value} {t : Nat} (cx : Cx G X RX7 cc nL n) (ht : isTab t) (hdg : decode cc pc = .ok (.getfield 105, 3)) (k : WW G X nL σ lv (pc + 3) (.ref (gad G (t + 1)) :: st)) : WW G X nL σ lv pc (.ref (gad G t) :: st) := ww_get (C := RX6) (T := TX6) (N := 14) (j := 8) (ci := 6) rfl wi6 (by decide) fl_X7_105 cx ht.1 rfl hdg k
theorem gf_X7_109 {G : GT} {X : CT} {cc : ByteArray} {nL n : Nat} {σ : St} {lv : List (Nat × Value)} {pc : Nat} {st : List Value} {t : Nat} (cx : Cx G X RX7 cc nL n) (ht : isTab t) (hdg : decode cc pc = .ok (.getfield 109, 3)) (k : WW G X nL σ lv (pc + 3) (.int (σ.1 t 7) :: st)) : WW G X nL σ lv pc (.ref (gad G t) :: st) := ww_get (C := RX6) (T := TX6) (N := 14) (j := 7) (ci := 6) rfl wi6 (by decide) fl_X7_109 cx ht.1 rfl hdg k
theorem gf_X7_72 {G : GT} {X : CT} {cc : ByteArray} {nL n : Nat} {σ : St} {lv : List (Nat × Value)} {pc : Nat} {st : List Value} (cx : Cx G X RX7 cc nL n) (hdg : decode cc pc = .ok (.getfield 72, 3)) (k : WW G X nL σ lv (pc + 3) (.ref (gad G 60) :: st)) : WW G X nL σ lv pc (.ref (gad G 0) :: st) := ww_get (C := RX7) (T := TX7) (N := 12) (j := 11) (ci := 7) rfl wi7 (by decide) fl_X7_72 cx sh_0 rfl hdg k
theorem gf_X7_361 {G : GT} {X : CT} {cc : ByteArray} {nL n : Nat} {σ : St} {lv : List (Nat × Value)} {pc : Nat} {st : List Value} {t : Nat} (cx : Cx G X RX7 cc nL n) (ht : isTab t) (hdg : decode cc pc = .ok (.getfield 361, 3)) (k : WW G X nL σ lv (pc + 3) (.int (σ.1 t 1) :: st)) : WW G X nL σ lv pc (.ref (gad G t) :: st) := ww_get (C := RX6) (T := TX6) (N := 14) (j := 1) (ci := 6) rfl wi6 (by decide) fl_X7_361 cx ht.1 rfl hdg k
theorem gf_X7_364 {G : GT} {X : CT} {cc : ByteArray} {nL n : Nat} {σ : St} {lv : List (Nat × Value)} {pc : Nat} {st : List Value} {t : Nat} (cx : Cx G X RX7 cc nL n) (ht : isTab t) (hdg : decode cc pc = .ok (.getfield 364, 3)) (k : WW G X nL σ lv (pc + 3) (.int (σ.1 t 2) :: st)) : WW G X nL σ lv pc (.ref (gad G t) :: st) := ww_get (C := RX6) (T := TX6) (N := 14) (j := 2) (ci := 6) rfl wi6 (by decide) fl_X7_364 cx ht.1 rfl hdg k
theorem gf_X7_367 {G : GT} {X : CT} {cc : ByteArray} {nL n : Nat} {σ : St} {lv : List (Nat × Value)} {pc : Nat} {st : List Value} {t : Nat} (cx : Cx G X RX7 cc nL n) (ht : isTab t) (hdg : decode cc pc = .ok (.getfield 367, 3)) (k : WW G X nL σ lv (pc + 3) (.int (σ.1 t 3) :: st)) : WW G X nL σ lv pc (.ref (gad G t) :: st) := ww_get (C := RX6) (T := TX6) (N := 14) (j := 3) (ci := 6) rfl wi6 (by decide) fl_X7_367 cx ht.1 rfl hdg k
theorem gf_X7_252 {G : GT} {X : CT} {cc : ByteArray} {nL n : Nat} {σ : St} {lv : List (Nat × Value)} {pc : Nat} {st : List Value} {t : Nat} (cx : Cx G X RX7 cc nL n) (ht : isTab t) (hdg : decode cc pc = .ok (.getfield 252, 3)) (k : WW G X nL σ lv (pc + 3) (.int (σ.1 t 4) :: st)) : WW G X nL σ lv pc (.ref (gad G t) :: st) := ww_get (C := RX6) (T := TX6) (N := 14) (j := 4) (ci := 6) rfl wi6 (by decide) fl_X7_252 cx ht.1 rfl hdg k
theorem gf_X7_202 {G : GT} {X : CT} {cc : ByteArray} {nL n : Nat} {σ : St} {lv : List (Nat × Value)} {pc : Nat} {st : List Value} {t : Nat} (cx : Cx G X RX7 cc nL n) (ht : isTab t) (hdg : decode cc pc = .ok (.getfield 202, 3)) (k : WW G X nL σ lv (pc + 3) (.int (σ.1 t 5) :: st)) : WW G X nL σ lv pc (.ref (gad G t) :: st) := ww_get (C := RX6) (T := TX6) (N := 14) (j := 5) (ci := 6) rfl wi6 (by decide) fl_X7_202 cx ht.1 rfl hdg k
theorem gf_X7_345 {G : GT} {X : CT} {cc : ByteArray} {nL n : Nat} {σ : St} {lv : List (Nat × Value)} {pc : Nat} {st : List Value} {t : Nat} (cx : Cx G X RX7 cc nL n) (ht : isTab t) (hdg : decode cc pc = .ok (.getfield 345, 3)) (k : WW G X nL σ lv (pc + 3) (.int (σ.1 t 6) :: st)) : WW G X nL σ lv pc (.ref (gad G t) :: st) := ww_get (C := RX6) (T := TX6) (N := 14) (j := 6) (ci := 6) rfl wi6 (by decide) fl_X7_345 cx ht.1 rfl hdg k
theorem gf_X7_92 {G : GT} {X : CT} {cc : ByteArray} {nL n : Nat} {σ : St} {lv : List (Nat × Value)} {pc : Nat} {st : List Value} {t : Nat} (cx : Cx G X RX7 cc nL n) (ht : isTab t) (hdg : decode cc pc = .ok (.getfield 92, 3)) (k : WW G X nL σ lv (pc + 3) (.int (σ.1 t 0) :: st)) : WW G X nL σ lv pc (.ref (gad G t) :: st) := ww_get (C := RX6) (T := TX6) (N := 14) (j := 0) (ci := 6) rfl wi6 (by decide) fl_X7_92 cx ht.1 rfl hdg k
theorem pf_X7_48 {G : GT} {X : CT} {cc : ByteArray} {nL n : Nat} {σ : St} {lv : List (Nat × Value)} {pc : Nat} {st : List Value} {x : Int32} {β : Type} {F : St → Option β} {o : β} (cx : Cx G X RX7 cc nL n) (hdg : decode cc pc = .ok (.putfield 48, 3)) (hF : gd (x = 0 ∨ x = 1) (lt (setI σ 0 7 x) F) = some o) (k : ∀ σ1 : St, F σ1 = some o → WW G X nL σ1 lv (pc + 3) st) : WW G X nL σ lv pc (.int x :: .ref (gad G 0) :: st) := ww_putZ (C := RX7) (T := TX7) (N := 12) (j := 7) (ci := 7) rfl wi7 tyX7 tyX7_ok nmX7 (by decide) fl_X7_48 (by decide +kernel) (by decide +kernel) cx sh_0 rfl hdg hF k
theorem gf_X7_140 {G : GT} {X : CT} {cc : ByteArray} {nL n : Nat} {σ : St} {lv : List (Nat × Value)} {pc : Nat} {st : List Value} {t : Nat} (cx : Cx G X RX7 cc nL n) (ht : isTab t) (hdg : decode cc pc = .ok (.getfield 140, 3)) (k : WW G X nL σ lv (pc + 3) (.ref (gad G (t + 5)) :: st)) : WW G X nL σ lv pc (.ref (gad G t) :: st) := ww_get (C := RX6) (T := TX6) (N := 14) (j := 12) (ci := 6) rfl wi6 (by decide) fl_X7_140 cx ht.1 rfl hdg k
theorem gf_X7_143 {G : GT} {X : CT} {cc : ByteArray} {nL n : Nat} {σ : St} {lv : List (Nat × Value)} {pc : Nat} {st : List Value} {t : Nat} (cx : Cx G X RX7 cc nL n) (ht : isTab t) (hdg : decode cc pc = .ok (.getfield 143, 3)) (k : WW G X nL σ lv (pc + 3) (.ref (gad G (t + 6)) :: st)) : WW G X nL σ lv pc (.ref (gad G t) :: st) := ww_get (C := RX6) (T := TX6) (N := 14) (j := 13) (ci := 6) rfl wi6 (by decide) fl_X7_143 cx ht.1 rfl hdg k
theorem gf_X7_380 {G : GT} {X : CT} {cc : ByteArray} {nL n : Nat} {σ : St} {lv : List (Nat × Value)} {pc : Nat} {st : List Value} {w : Nat} (cx : Cx G X RX7 cc nL n) (ht : isRow w) (hdg : decode cc pc = .ok (.getfield 380, 3)) (k : WW G X nL σ lv (pc + 3) (.int (σ.1 w 1) :: st)) : WW G X nL σ lv pc (.ref (gad G w) :: st) := ww_get (C := RX4) (T := TX4) (N := 4) (j := 1) (ci := 4) rfl wi4 (by decide) fl_X7_380 cx ht.1 rfl hdg k
theorem gf_X7_338 {G : GT} {X : CT} {cc : ByteArray} {nL n : Nat} {σ : St} {lv : List (Nat × Value)} {pc : Nat} {st : List Value} {w : Nat} (cx : Cx G X RX7 cc nL n) (ht : isRow w) (hdg : decode cc pc = .ok (.getfield 338, 3)) (k : WW G X nL σ lv (pc + 3) (.int (σ.1 w 2) :: st)) : WW G X nL σ lv pc (.ref (gad G w) :: st) := ww_get (C := RX4) (T := TX4) (N := 4) (j := 2) (ci := 4) rfl wi4 (by decide) fl_X7_338 cx ht.1 rfl hdg k
theorem gf_X7_341 {G : GT} {X : CT} {cc : ByteArray} {nL n : Nat} {σ : St} {lv : List (Nat × Value)} {pc : Nat} {st : List Value} {w : Nat} (cx : Cx G X RX7 cc nL n) (ht : isRow w) (hdg : decode cc pc = .ok (.getfield 341, 3)) (k : WW G X nL σ lv (pc + 3) (.ref (gad G (w + 1)) :: st)) : WW G X nL σ lv pc (.ref (gad G w) :: st) := ww_get (C := RX4) (T := TX4) (N := 4) (j := 3) (ci := 4) rfl wi4 (by decide) fl_X7_341 cx ht.1 rfl hdg k
theorem pf_X7_109 {G : GT} {X : CT} {cc : ByteArray} {nL n : Nat} {σ : St} {lv : List (Nat × Value)} {pc : Nat} {st : List Value} {t : Nat} {x : Int32} {β : Type} {F : St → Option β} {o : β} (cx : Cx G X RX7 cc nL n) (ht : isTab t) (hdg : decode cc pc = .ok (.putfield 109, 3)) (hF : lt (setI σ t 7 x) F = some o) (k : ∀ σ1 : St, F σ1 = some o → WW G X nL σ1 lv (pc + 3) st) : WW G X nL σ lv pc (.int x :: .ref (gad G t) :: st) := ww_put (C := RX6) (T := TX6) (N := 14) (j := 7) (ci := 6) rfl wi6 tyX6 tyX6_ok nmX6 (by decide) fl_X7_109 (by decide +kernel) (by decide +kernel) cx ht.1 rfl hdg hF k
theorem gf_X1_85 {G : GT} {X : CT} {cc : ByteArray} {nL n : Nat} {σ : St} {lv : List (Nat × Value)} {pc : Nat} {st : List Value} {t : Nat} (cx : Cx G X RX1 cc nL n) (ht : isTab t) (hdg : decode cc pc = .ok (.getfield 85, 3)) (k : WW G X nL σ lv (pc + 3) (.int (σ.1 t 4) :: st)) : WW G X nL σ lv pc (.ref (gad G t) :: st) := ww_get (C := RX6) (T := TX6) (N := 14) (j := 4) (ci := 6) rfl wi6 (by decide) fl_X1_85 cx ht.1 rfl hdg k
theorem pf_X2_30 {G : GT} {X : CT} {cc : ByteArray} {nL n : Nat} {σ : St} {lv : List (Nat × Value)} {pc : Nat} {st : List Value} {x : Int32} {β : Type} {F : St → Option β} {o : β} (cx : Cx G X RX2 cc nL n) (hdg : decode cc pc = .ok (.putfield 30, 3)) (hF : lt (setI σ 1 6 x) F = some o) (k : ∀ σ1 : St, F σ1 = some o → WW G X nL σ1 lv (pc + 3) st) : WW G X nL σ lv pc (.int x :: .ref (gad G 1) :: st) := ww_put (C := RX2) (T := TX2) (N := 8) (j := 6) (ci := 2) rfl wi2 tyX2 tyX2_ok nmX2 (by decide) fl_X2_30 (by decide +kernel) (by decide +kernel) cx sh_1 rfl hdg hF k
theorem pf_X2_122 {G : GT} {X : CT} {cc : ByteArray} {nL n : Nat} {σ : St} {lv : List (Nat × Value)} {pc : Nat} {st : List Value} {x : Int32} {β : Type} {F : St → Option β} {o : β} (cx : Cx G X RX2 cc nL n) (hdg : decode cc pc = .ok (.putfield 122, 3)) (hF : lt (setI σ 1 7 x) F = some o) (k : ∀ σ1 : St, F σ1 = some o → WW G X nL σ1 lv (pc + 3) st) : WW G X nL σ lv pc (.int x :: .ref (gad G 1) :: st) := ww_put (C := RX2) (T := TX2) (N := 8) (j := 7) (ci := 2) rfl wi2 tyX2 tyX2_ok nmX2 (by decide) fl_X2_122 (by decide +kernel) (by decide +kernel) cx sh_1 rfl hdg hF k
theorem pf_X2_177 {G : GT} {X : CT} {cc : ByteArray} {nL n : Nat} {σ : St} {lv : List (Nat × Value)} {pc : Nat} {st : List Value} {x : Int32} {β : Type} {F : St → Option β} {o : β} (cx : Cx G X RX2 cc nL n) (hdg : decode cc pc = .ok (.putfield 177, 3)) (hF : lt (setI σ 1 5 x) F = some o) (k : ∀ σ1 : St, F σ1 = some o → WW G X nL σ1 lv (pc + 3) st) : WW G X nL σ lv pc (.int x :: .ref (gad G 1) :: st) := ww_put (C := RX2) (T := TX2) (N := 8) (j := 5) (ci := 2) rfl wi2 tyX2 tyX2_ok nmX2 (by decide) fl_X2_177 (by decide +kernel) (by decide +kernel) cx sh_1 rfl hdg hF k
theorem pf_X2_36 {G : GT} {X : CT} {cc : ByteArray} {nL n : Nat} {σ : St} {lv : List (Nat × Value)} {pc : Nat} {st : List Value} {x : Int32} {β : Type} {F : St → Option β} {o : β} (cx : Cx G X RX2 cc nL n) (hdg : decode cc pc = .ok (.putfield 36, 3)) (hF : lt (setI σ 1 4 x) F = some o) (k : ∀ σ1 : St, F σ1 = some o → WW G X nL σ1 lv (pc + 3) st) : WW G X nL σ lv pc (.int x :: .ref (gad G 1) :: st) := ww_put (C := RX2) (T := TX2) (N := 8) (j := 4) (ci := 2) rfl wi2 tyX2 tyX2_ok nmX2 (by decide) fl_X2_36 (by decide +kernel) (by decide +kernel) cx sh_1 rfl hdg hF k
theorem gf_X2_30 {G : GT} {X : CT} {cc : ByteArray} {nL n : Nat} {σ : St} {lv : List (Nat × Value)} {pc : Nat} {st : List Value} (cx : Cx G X RX2 cc nL n) (hdg : decode cc pc = .ok (.getfield 30, 3)) (k : WW G X nL σ lv (pc + 3) (.int (σ.1 1 6) :: st)) : WW G X nL σ lv pc (.ref (gad G 1) :: st) := ww_get (C := RX2) (T := TX2) (N := 8) (j := 6) (ci := 2) rfl wi2 (by decide) fl_X2_30 cx sh_1 rfl hdg k
theorem gf_X3_30 {G : GT} {X : CT} {cc : ByteArray} {nL n : Nat} {σ : St} {lv : List (Nat × Value)} {pc : Nat} {st : List Value} {w : Nat} (cx : Cx G X RX3 cc nL n) (ht : isRow w) (hdg : decode cc pc = .ok (.getfield 30, 3)) (k : WW G X nL σ lv (pc + 3) (.int (σ.1 w 2) :: st)) : WW G X nL σ lv pc (.ref (gad G w) :: st) := ww_get (C := RX4) (T := TX4) (N := 4) (j := 2) (ci := 4) rfl wi4 (by decide) fl_X3_30 cx ht.1 rfl hdg k
theorem gf_X3_19 {G : GT} {X : CT} {cc : ByteArray} {nL n : Nat} {σ : St} {lv : List (Nat × Value)} {pc : Nat} {st : List Value} (cx : Cx G X RX3 cc nL n) (hdg : decode cc pc = .ok (.getfield 19, 3)) (k : WW G X nL σ lv (pc + 3) (.int (σ.1 53 1) :: st)) : WW G X nL σ lv pc (.ref (gad G 53) :: st) := ww_get (C := RX3) (T := TX3) (N := 4) (j := 1) (ci := 3) rfl wi3 (by decide) fl_X3_19 cx sh_53 rfl hdg k
theorem gf_X3_35 {G : GT} {X : CT} {cc : ByteArray} {nL n : Nat} {σ : St} {lv : List (Nat × Value)} {pc : Nat} {st : List Value} {w : Nat} (cx : Cx G X RX3 cc nL n) (ht : isRow w) (hdg : decode cc pc = .ok (.getfield 35, 3)) (k : WW G X nL σ lv (pc + 3) (.ref (gad G (w + 1)) :: st)) : WW G X nL σ lv pc (.ref (gad G w) :: st) := ww_get (C := RX4) (T := TX4) (N := 4) (j := 3) (ci := 4) rfl wi4 (by decide) fl_X3_35 cx ht.1 rfl hdg k
theorem pf_X3_19 {G : GT} {X : CT} {cc : ByteArray} {nL n : Nat} {σ : St} {lv : List (Nat × Value)} {pc : Nat} {st : List Value} {x : Int32} {β : Type} {F : St → Option β} {o : β} (cx : Cx G X RX3 cc nL n) (hdg : decode cc pc = .ok (.putfield 19, 3)) (hF : lt (setI σ 53 1 x) F = some o) (k : ∀ σ1 : St, F σ1 = some o → WW G X nL σ1 lv (pc + 3) st) : WW G X nL σ lv pc (.int x :: .ref (gad G 53) :: st) := ww_put (C := RX3) (T := TX3) (N := 4) (j := 1) (ci := 3) rfl wi3 tyX3 tyX3_ok nmX3 (by decide) fl_X3_19 (by decide +kernel) (by decide +kernel) cx sh_53 rfl hdg hF k
theorem pf_X3_27 {G : GT} {X : CT} {cc : ByteArray} {nL n : Nat} {σ : St} {lv : List (Nat × Value)} {pc : Nat} {st : List Value} {x : Int32} {β : Type} {F : St → Option β} {o : β} (cx : Cx G X RX3 cc nL n) (hdg : decode cc pc = .ok (.putfield 27, 3)) (hF : lt (setI σ 53 2 x) F = some o) (k : ∀ σ1 : St, F σ1 = some o → WW G X nL σ1 lv (pc + 3) st) : WW G X nL σ lv pc (.int x :: .ref (gad G 53) :: st) := ww_put (C := RX3) (T := TX3) (N := 4) (j := 2) (ci := 3) rfl wi3 tyX3 tyX3_ok nmX3 (by decide) fl_X3_27 (by decide +kernel) (by decide +kernel) cx sh_53 rfl hdg hF k
theorem gf_X3_15 {G : GT} {X : CT} {cc : ByteArray} {nL n : Nat} {σ : St} {lv : List (Nat × Value)} {pc : Nat} {st : List Value} (cx : Cx G X RX3 cc nL n) (hdg : decode cc pc = .ok (.getfield 15, 3)) (k : WW G X nL σ lv (pc + 3) (.int (σ.1 53 0) :: st)) : WW G X nL σ lv pc (.ref (gad G 53) :: st) := ww_get (C := RX3) (T := TX3) (N := 4) (j := 0) (ci := 3) rfl wi3 (by decide) fl_X3_15 cx sh_53 rfl hdg k
theorem pf_X3_15 {G : GT} {X : CT} {cc : ByteArray} {nL n : Nat} {σ : St} {lv : List (Nat × Value)} {pc : Nat} {st : List Value} {x : Int32} {β : Type} {F : St → Option β} {o : β} (cx : Cx G X RX3 cc nL n) (hdg : decode cc pc = .ok (.putfield 15, 3)) (hF : lt (setI σ 53 0 x) F = some o) (k : ∀ σ1 : St, F σ1 = some o → WW G X nL σ1 lv (pc + 3) st) : WW G X nL σ lv pc (.int x :: .ref (gad G 53) :: st) := ww_put (C := RX3) (T := TX3) (N := 4) (j := 0) (ci := 3) rfl wi3 tyX3 tyX3_ok nmX3 (by decide) fl_X3_15 (by decide +kernel) (by decide +kernel) cx sh_53 rfl hdg hF k
theorem gf_X3_22 {G : GT} {X : CT} {cc : ByteArray} {nL n : Nat} {σ : St} {lv : List (Nat × Value)} {pc : Nat} {st : List Value} {t : Nat} (cx : Cx G X RX3 cc nL n) (ht : isTab t) (hdg : decode cc pc = .ok (.getfield 22, 3)) (k : WW G X nL σ lv (pc + 3) (.int (σ.1 t 7) :: st)) : WW G X nL σ lv pc (.ref (gad G t) :: st) := ww_get (C := RX6) (T := TX6) (N := 14) (j := 7) (ci := 6) rfl wi6 (by decide) fl_X3_22 cx ht.1 rfl hdg k
theorem gf_X3_65 {G : GT} {X : CT} {cc : ByteArray} {nL n : Nat} {σ : St} {lv : List (Nat × Value)} {pc : Nat} {st : List Value} {t : Nat} (cx : Cx G X RX3 cc nL n) (ht : isTab t) (hdg : decode cc pc = .ok (.getfield 65, 3)) (k : WW G X nL σ lv (pc + 3) (.ref (gad G (t + 6)) :: st)) : WW G X nL σ lv pc (.ref (gad G t) :: st) := ww_get (C := RX6) (T := TX6) (N := 14) (j := 13) (ci := 6) rfl wi6 (by decide) fl_X3_65 cx ht.1 rfl hdg k
theorem gf_X6_52 {G : GT} {X : CT} {cc : ByteArray} {nL n : Nat} {σ : St} {lv : List (Nat × Value)} {pc : Nat} {st : List Value} {t : Nat} (cx : Cx G X RX6 cc nL n) (ht : isTab t) (hdg : decode cc pc = .ok (.getfield 52, 3)) (k : WW G X nL σ lv (pc + 3) (.int (σ.1 t 7) :: st)) : WW G X nL σ lv pc (.ref (gad G t) :: st) := ww_get (C := RX6) (T := TX6) (N := 14) (j := 7) (ci := 6) rfl wi6 (by decide) fl_X6_52 cx ht.1 rfl hdg k
theorem pf_X8_111 {G : GT} {X : CT} {cc : ByteArray} {nL n : Nat} {σ : St} {lv : List (Nat × Value)} {pc : Nat} {st : List Value} {x : Int32} {β : Type} {F : St → Option β} {o : β} (cx : Cx G X RX8 cc nL n) (hdg : decode cc pc = .ok (.putfield 111, 3)) (hF : lt (setI σ 62 10 x) F = some o) (k : ∀ σ1 : St, F σ1 = some o → WW G X nL σ1 lv (pc + 3) st) : WW G X nL σ lv pc (.int x :: .ref (gad G 62) :: st) := ww_put (C := RX8) (T := TX8) (N := 34) (j := 10) (ci := 8) rfl wi8 tyX8 tyX8_ok nmX8 (by decide) fl_X8_111 (by decide +kernel) (by decide +kernel) cx sh_62 rfl hdg hF k
theorem gf_X8_101 {G : GT} {X : CT} {cc : ByteArray} {nL n : Nat} {σ : St} {lv : List (Nat × Value)} {pc : Nat} {st : List Value} (cx : Cx G X RX8 cc nL n) (hdg : decode cc pc = .ok (.getfield 101, 3)) (k : WW G X nL σ lv (pc + 3) (.int (σ.1 62 8) :: st)) : WW G X nL σ lv pc (.ref (gad G 62) :: st) := ww_get (C := RX8) (T := TX8) (N := 34) (j := 8) (ci := 8) rfl wi8 (by decide) fl_X8_101 cx sh_62 rfl hdg k
theorem pf_X8_101 {G : GT} {X : CT} {cc : ByteArray} {nL n : Nat} {σ : St} {lv : List (Nat × Value)} {pc : Nat} {st : List Value} {x : Int32} {β : Type} {F : St → Option β} {o : β} (cx : Cx G X RX8 cc nL n) (hdg : decode cc pc = .ok (.putfield 101, 3)) (hF : lt (setI σ 62 8 x) F = some o) (k : ∀ σ1 : St, F σ1 = some o → WW G X nL σ1 lv (pc + 3) st) : WW G X nL σ lv pc (.int x :: .ref (gad G 62) :: st) := ww_put (C := RX8) (T := TX8) (N := 34) (j := 8) (ci := 8) rfl wi8 tyX8 tyX8_ok nmX8 (by decide) fl_X8_101 (by decide +kernel) (by decide +kernel) cx sh_62 rfl hdg hF k
theorem gf_X8_122 {G : GT} {X : CT} {cc : ByteArray} {nL n : Nat} {σ : St} {lv : List (Nat × Value)} {pc : Nat} {st : List Value} (cx : Cx G X RX8 cc nL n) (hdg : decode cc pc = .ok (.getfield 122, 3)) (k : WW G X nL σ lv (pc + 3) (.int (σ.1 62 11) :: st)) : WW G X nL σ lv pc (.ref (gad G 62) :: st) := ww_get (C := RX8) (T := TX8) (N := 34) (j := 11) (ci := 8) rfl wi8 (by decide) fl_X8_122 cx sh_62 rfl hdg k
theorem pf_X8_122 {G : GT} {X : CT} {cc : ByteArray} {nL n : Nat} {σ : St} {lv : List (Nat × Value)} {pc : Nat} {st : List Value} {x : Int32} {β : Type} {F : St → Option β} {o : β} (cx : Cx G X RX8 cc nL n) (hdg : decode cc pc = .ok (.putfield 122, 3)) (hF : lt (setI σ 62 11 x) F = some o) (k : ∀ σ1 : St, F σ1 = some o → WW G X nL σ1 lv (pc + 3) st) : WW G X nL σ lv pc (.int x :: .ref (gad G 62) :: st) := ww_put (C := RX8) (T := TX8) (N := 34) (j := 11) (ci := 8) rfl wi8 tyX8 tyX8_ok nmX8 (by decide) fl_X8_122 (by decide +kernel) (by decide +kernel) cx sh_62 rfl hdg hF k
theorem pf_X8_108 {G : GT} {X : CT} {cc : ByteArray} {nL n : Nat} {σ : St} {lv : List (Nat × Value)} {pc : Nat} {st : List Value} {x : Int32} {β : Type} {F : St → Option β} {o : β} (cx : Cx G X RX8 cc nL n) (hdg : decode cc pc = .ok (.putfield 108, 3)) (hF : lt (setI σ 62 9 x) F = some o) (k : ∀ σ1 : St, F σ1 = some o → WW G X nL σ1 lv (pc + 3) st) : WW G X nL σ lv pc (.int x :: .ref (gad G 62) :: st) := ww_put (C := RX8) (T := TX8) (N := 34) (j := 9) (ci := 8) rfl wi8 tyX8 tyX8_ok nmX8 (by decide) fl_X8_108 (by decide +kernel) (by decide +kernel) cx sh_62 rfl hdg hF k
theorem gf_X8_13 {G : GT} {X : CT} {cc : ByteArray} {nL n : Nat} {σ : St} {lv : List (Nat × Value)} {pc : Nat} {st : List Value} (cx : Cx G X RX8 cc nL n) (hdg : decode cc pc = .ok (.getfield 13, 3)) (k : WW G X nL σ lv (pc + 3) (.ref (gad G 64) :: st)) : WW G X nL σ lv pc (.ref (gad G 62) :: st) := ww_get (C := RX8) (T := TX8) (N := 34) (j := 2) (ci := 8) rfl wi8 (by decide) fl_X8_13 cx sh_62 rfl hdg k
theorem gf_X8_16 {G : GT} {X : CT} {cc : ByteArray} {nL n : Nat} {σ : St} {lv : List (Nat × Value)} {pc : Nat} {st : List Value} (cx : Cx G X RX8 cc nL n) (hdg : decode cc pc = .ok (.getfield 16, 3)) (k : WW G X nL σ lv (pc + 3) (.ref (gad G 65) :: st)) : WW G X nL σ lv pc (.ref (gad G 62) :: st) := ww_get (C := RX8) (T := TX8) (N := 34) (j := 3) (ci := 8) rfl wi8 (by decide) fl_X8_16 cx sh_62 rfl hdg k
theorem gf_X8_49 {G : GT} {X : CT} {cc : ByteArray} {nL n : Nat} {σ : St} {lv : List (Nat × Value)} {pc : Nat} {st : List Value} (cx : Cx G X RX8 cc nL n) (hdg : decode cc pc = .ok (.getfield 49, 3)) (k : WW G X nL σ lv (pc + 3) (.ref (gad G 74) :: st)) : WW G X nL σ lv pc (.ref (gad G 62) :: st) := ww_get (C := RX8) (T := TX8) (N := 34) (j := 24) (ci := 8) rfl wi8 (by decide) fl_X8_49 cx sh_62 rfl hdg k
theorem gf_X8_52 {G : GT} {X : CT} {cc : ByteArray} {nL n : Nat} {σ : St} {lv : List (Nat × Value)} {pc : Nat} {st : List Value} (cx : Cx G X RX8 cc nL n) (hdg : decode cc pc = .ok (.getfield 52, 3)) (k : WW G X nL σ lv (pc + 3) (.ref (gad G 75) :: st)) : WW G X nL σ lv pc (.ref (gad G 62) :: st) := ww_get (C := RX8) (T := TX8) (N := 34) (j := 25) (ci := 8) rfl wi8 (by decide) fl_X8_52 cx sh_62 rfl hdg k
theorem gf_X8_55 {G : GT} {X : CT} {cc : ByteArray} {nL n : Nat} {σ : St} {lv : List (Nat × Value)} {pc : Nat} {st : List Value} (cx : Cx G X RX8 cc nL n) (hdg : decode cc pc = .ok (.getfield 55, 3)) (k : WW G X nL σ lv (pc + 3) (.ref (gad G 76) :: st)) : WW G X nL σ lv pc (.ref (gad G 62) :: st) := ww_get (C := RX8) (T := TX8) (N := 34) (j := 26) (ci := 8) rfl wi8 (by decide) fl_X8_55 cx sh_62 rfl hdg k
theorem gf_X8_400 {G : GT} {X : CT} {cc : ByteArray} {nL n : Nat} {σ : St} {lv : List (Nat × Value)} {pc : Nat} {st : List Value} (cx : Cx G X RX8 cc nL n) (hdg : decode cc pc = .ok (.getfield 400, 3)) (k : WW G X nL σ lv (pc + 3) (.int (σ.1 62 28) :: st)) : WW G X nL σ lv pc (.ref (gad G 62) :: st) := ww_get (C := RX8) (T := TX8) (N := 34) (j := 28) (ci := 8) rfl wi8 (by decide) fl_X8_400 cx sh_62 rfl hdg k
theorem pf_X8_400 {G : GT} {X : CT} {cc : ByteArray} {nL n : Nat} {σ : St} {lv : List (Nat × Value)} {pc : Nat} {st : List Value} {x : Int32} {β : Type} {F : St → Option β} {o : β} (cx : Cx G X RX8 cc nL n) (hdg : decode cc pc = .ok (.putfield 400, 3)) (hF : lt (setI σ 62 28 x) F = some o) (k : ∀ σ1 : St, F σ1 = some o → WW G X nL σ1 lv (pc + 3) st) : WW G X nL σ lv pc (.int x :: .ref (gad G 62) :: st) := ww_put (C := RX8) (T := TX8) (N := 34) (j := 28) (ci := 8) rfl wi8 tyX8 tyX8_ok nmX8 (by decide) fl_X8_400 (by decide +kernel) (by decide +kernel) cx sh_62 rfl hdg hF k
theorem gf_X8_46 {G : GT} {X : CT} {cc : ByteArray} {nL n : Nat} {σ : St} {lv : List (Nat × Value)} {pc : Nat} {st : List Value} (cx : Cx G X RX8 cc nL n) (hdg : decode cc pc = .ok (.getfield 46, 3)) (k : WW G X nL σ lv (pc + 3) (.ref (gad G 73) :: st)) : WW G X nL σ lv pc (.ref (gad G 62) :: st) := ww_get (C := RX8) (T := TX8) (N := 34) (j := 23) (ci := 8) rfl wi8 (by decide) fl_X8_46 cx sh_62 rfl hdg k
theorem pf_X8_131 {G : GT} {X : CT} {cc : ByteArray} {nL n : Nat} {σ : St} {lv : List (Nat × Value)} {pc : Nat} {st : List Value} {x : Int32} {β : Type} {F : St → Option β} {o : β} (cx : Cx G X RX8 cc nL n) (hdg : decode cc pc = .ok (.putfield 131, 3)) (hF : lt (setI σ 62 12 x) F = some o) (k : ∀ σ1 : St, F σ1 = some o → WW G X nL σ1 lv (pc + 3) st) : WW G X nL σ lv pc (.int x :: .ref (gad G 62) :: st) := ww_put (C := RX8) (T := TX8) (N := 34) (j := 12) (ci := 8) rfl wi8 tyX8 tyX8_ok nmX8 (by decide) fl_X8_131 (by decide +kernel) (by decide +kernel) cx sh_62 rfl hdg hF k
theorem gf_X8_108 {G : GT} {X : CT} {cc : ByteArray} {nL n : Nat} {σ : St} {lv : List (Nat × Value)} {pc : Nat} {st : List Value} (cx : Cx G X RX8 cc nL n) (hdg : decode cc pc = .ok (.getfield 108, 3)) (k : WW G X nL σ lv (pc + 3) (.int (σ.1 62 9) :: st)) : WW G X nL σ lv pc (.ref (gad G 62) :: st) := ww_get (C := RX8) (T := TX8) (N := 34) (j := 9) (ci := 8) rfl wi8 (by decide) fl_X8_108 cx sh_62 rfl hdg k
theorem pf_X8_27 {G : GT} {X : CT} {cc : ByteArray} {nL n : Nat} {σ : St} {lv : List (Nat × Value)} {pc : Nat} {st : List Value} {x : Int32} {β : Type} {F : St → Option β} {o : β} (cx : Cx G X RX8 cc nL n) (hdg : decode cc pc = .ok (.putfield 27, 3)) (hF : lt (setI σ 62 13 x) F = some o) (k : ∀ σ1 : St, F σ1 = some o → WW G X nL σ1 lv (pc + 3) st) : WW G X nL σ lv pc (.int x :: .ref (gad G 62) :: st) := ww_put (C := RX8) (T := TX8) (N := 34) (j := 13) (ci := 8) rfl wi8 tyX8 tyX8_ok nmX8 (by decide) fl_X8_27 (by decide +kernel) (by decide +kernel) cx sh_62 rfl hdg hF k
theorem gf_X8_43 {G : GT} {X : CT} {cc : ByteArray} {nL n : Nat} {σ : St} {lv : List (Nat × Value)} {pc : Nat} {st : List Value} (cx : Cx G X RX8 cc nL n) (hdg : decode cc pc = .ok (.getfield 43, 3)) (k : WW G X nL σ lv (pc + 3) (.ref (gad G 72) :: st)) : WW G X nL σ lv pc (.ref (gad G 62) :: st) := ww_get (C := RX8) (T := TX8) (N := 34) (j := 22) (ci := 8) rfl wi8 (by decide) fl_X8_43 cx sh_62 rfl hdg k
theorem gf_X8_111 {G : GT} {X : CT} {cc : ByteArray} {nL n : Nat} {σ : St} {lv : List (Nat × Value)} {pc : Nat} {st : List Value} (cx : Cx G X RX8 cc nL n) (hdg : decode cc pc = .ok (.getfield 111, 3)) (k : WW G X nL σ lv (pc + 3) (.int (σ.1 62 10) :: st)) : WW G X nL σ lv pc (.ref (gad G 62) :: st) := ww_get (C := RX8) (T := TX8) (N := 34) (j := 10) (ci := 8) rfl wi8 (by decide) fl_X8_111 cx sh_62 rfl hdg k
theorem gf_X7_30 {G : GT} {X : CT} {cc : ByteArray} {nL n : Nat} {σ : St} {lv : List (Nat × Value)} {pc : Nat} {st : List Value} (cx : Cx G X RX7 cc nL n) (hdg : decode cc pc = .ok (.getfield 30, 3)) (k : WW G X nL σ lv (pc + 3) (.ref (gad G 39) :: st)) : WW G X nL σ lv pc (.ref (gad G 0) :: st) := ww_get (C := RX7) (T := TX7) (N := 12) (j := 4) (ci := 7) rfl wi7 (by decide) fl_X7_30 cx sh_0 rfl hdg k
theorem gf_X7_26 {G : GT} {X : CT} {cc : ByteArray} {nL n : Nat} {σ : St} {lv : List (Nat × Value)} {pc : Nat} {st : List Value} (cx : Cx G X RX7 cc nL n) (hdg : decode cc pc = .ok (.getfield 26, 3)) (k : WW G X nL σ lv (pc + 3) (.ref (gad G 17) :: st)) : WW G X nL σ lv pc (.ref (gad G 0) :: st) := ww_get (C := RX7) (T := TX7) (N := 12) (j := 3) (ci := 7) rfl wi7 (by decide) fl_X7_26 cx sh_0 rfl hdg k
theorem gf_X7_58 {G : GT} {X : CT} {cc : ByteArray} {nL n : Nat} {σ : St} {lv : List (Nat × Value)} {pc : Nat} {st : List Value} (cx : Cx G X RX7 cc nL n) (hdg : decode cc pc = .ok (.getfield 58, 3)) (k : WW G X nL σ lv (pc + 3) (.ref (gad G 53) :: st)) : WW G X nL σ lv pc (.ref (gad G 0) :: st) := ww_get (C := RX7) (T := TX7) (N := 12) (j := 9) (ci := 7) rfl wi7 (by decide) fl_X7_58 cx sh_0 rfl hdg k
theorem gf_X7_193 {G : GT} {X : CT} {cc : ByteArray} {nL n : Nat} {σ : St} {lv : List (Nat × Value)} {pc : Nat} {st : List Value} (cx : Cx G X RX7 cc nL n) (hdg : decode cc pc = .ok (.getfield 193, 3)) (k : WW G X nL σ lv (pc + 3) (.ref (gad G 54) :: st)) : WW G X nL σ lv pc (.ref (gad G 53) :: st) := ww_get (C := RX3) (T := TX3) (N := 4) (j := 3) (ci := 3) rfl wi3 (by decide) fl_X7_193 cx sh_53 rfl hdg k
theorem gf_X1_56 {G : GT} {X : CT} {cc : ByteArray} {nL n : Nat} {σ : St} {lv : List (Nat × Value)} {pc : Nat} {st : List Value} {t : Nat} (cx : Cx G X RX1 cc nL n) (ht : isTab t) (hdg : decode cc pc = .ok (.getfield 56, 3)) (k : WW G X nL σ lv (pc + 3) (.ref (gad G (t + 4)) :: st)) : WW G X nL σ lv pc (.ref (gad G t) :: st) := ww_get (C := RX6) (T := TX6) (N := 14) (j := 11) (ci := 6) rfl wi6 (by decide) fl_X1_56 cx ht.1 rfl hdg k
theorem gf_X1_63 {G : GT} {X : CT} {cc : ByteArray} {nL n : Nat} {σ : St} {lv : List (Nat × Value)} {pc : Nat} {st : List Value} {t : Nat} (cx : Cx G X RX1 cc nL n) (ht : isTab t) (hdg : decode cc pc = .ok (.getfield 63, 3)) (k : WW G X nL σ lv (pc + 3) (.ref (gad G (t + 6)) :: st)) : WW G X nL σ lv pc (.ref (gad G t) :: st) := ww_get (C := RX6) (T := TX6) (N := 14) (j := 13) (ci := 6) rfl wi6 (by decide) fl_X1_63 cx ht.1 rfl hdg k
theorem gf_X1_72 {G : GT} {X : CT} {cc : ByteArray} {nL n : Nat} {σ : St} {lv : List (Nat × Value)} {pc : Nat} {st : List Value} {t : Nat} (cx : Cx G X RX1 cc nL n) (ht : isTab t) (hdg : decode cc pc = .ok (.getfield 72, 3)) (k : WW G X nL σ lv (pc + 3) (.ref (gad G (t + 5)) :: st)) : WW G X nL σ lv pc (.ref (gad G t) :: st) := ww_get (C := RX6) (T := TX6) (N := 14) (j := 12) (ci := 6) rfl wi6 (by decide) fl_X1_72 cx ht.1 rfl hdg k
theorem gf_X1_75 {G : GT} {X : CT} {cc : ByteArray} {nL n : Nat} {σ : St} {lv : List (Nat × Value)} {pc : Nat} {st : List Value} {t : Nat} (cx : Cx G X RX1 cc nL n) (ht : isTab t) (hdg : decode cc pc = .ok (.getfield 75, 3)) (k : WW G X nL σ lv (pc + 3) (.int (σ.1 t 2) :: st)) : WW G X nL σ lv pc (.ref (gad G t) :: st) := ww_get (C := RX6) (T := TX6) (N := 14) (j := 2) (ci := 6) rfl wi6 (by decide) fl_X1_75 cx ht.1 rfl hdg k
theorem gf_X1_78 {G : GT} {X : CT} {cc : ByteArray} {nL n : Nat} {σ : St} {lv : List (Nat × Value)} {pc : Nat} {st : List Value} {t : Nat} (cx : Cx G X RX1 cc nL n) (ht : isTab t) (hdg : decode cc pc = .ok (.getfield 78, 3)) (k : WW G X nL σ lv (pc + 3) (.ref (gad G (t + 3)) :: st)) : WW G X nL σ lv pc (.ref (gad G t) :: st) := ww_get (C := RX6) (T := TX6) (N := 14) (j := 10) (ci := 6) rfl wi6 (by decide) fl_X1_78 cx ht.1 rfl hdg k
theorem gf_X1_45 {G : GT} {X : CT} {cc : ByteArray} {nL n : Nat} {σ : St} {lv : List (Nat × Value)} {pc : Nat} {st : List Value} (cx : Cx G X RX1 cc nL n) (hdg : decode cc pc = .ok (.getfield 45, 3)) (k : WW G X nL σ lv (pc + 3) (.int (σ.1 55 1) :: st)) : WW G X nL σ lv pc (.ref (gad G 55) :: st) := ww_get (C := RX1) (T := TX1) (N := 7) (j := 1) (ci := 1) rfl wi1 (by decide) fl_X1_45 cx sh_55 rfl hdg k
theorem gf_X1_42 {G : GT} {X : CT} {cc : ByteArray} {nL n : Nat} {σ : St} {lv : List (Nat × Value)} {pc : Nat} {st : List Value} (cx : Cx G X RX1 cc nL n) (hdg : decode cc pc = .ok (.getfield 42, 3)) (k : WW G X nL σ lv (pc + 3) (.int (σ.1 55 0) :: st)) : WW G X nL σ lv pc (.ref (gad G 55) :: st) := ww_get (C := RX1) (T := TX1) (N := 7) (j := 0) (ci := 1) rfl wi1 (by decide) fl_X1_42 cx sh_55 rfl hdg k
theorem gf_X5_47 {G : GT} {X : CT} {cc : ByteArray} {nL n : Nat} {σ : St} {lv : List (Nat × Value)} {pc : Nat} {st : List Value} {t : Nat} (cx : Cx G X RX5 cc nL n) (ht : isTab t) (hdg : decode cc pc = .ok (.getfield 47, 3)) (k : WW G X nL σ lv (pc + 3) (.int (σ.1 t 7) :: st)) : WW G X nL σ lv pc (.ref (gad G t) :: st) := ww_get (C := RX6) (T := TX6) (N := 14) (j := 7) (ci := 6) rfl wi6 (by decide) fl_X5_47 cx ht.1 rfl hdg k
theorem gf_X5_54 {G : GT} {X : CT} {cc : ByteArray} {nL n : Nat} {σ : St} {lv : List (Nat × Value)} {pc : Nat} {st : List Value} {t : Nat} (cx : Cx G X RX5 cc nL n) (ht : isTab t) (hdg : decode cc pc = .ok (.getfield 54, 3)) (k : WW G X nL σ lv (pc + 3) (.ref (gad G (t + 2)) :: st)) : WW G X nL σ lv pc (.ref (gad G t) :: st) := ww_get (C := RX6) (T := TX6) (N := 14) (j := 9) (ci := 6) rfl wi6 (by decide) fl_X5_54 cx ht.1 rfl hdg k
theorem gf_X8_58 {G : GT} {X : CT} {cc : ByteArray} {nL n : Nat} {σ : St} {lv : List (Nat × Value)} {pc : Nat} {st : List Value} (cx : Cx G X RX8 cc nL n) (hdg : decode cc pc = .ok (.getfield 58, 3)) (k : WW G X nL σ lv (pc + 3) (.ref (gad G 77) :: st)) : WW G X nL σ lv pc (.ref (gad G 62) :: st) := ww_get (C := RX8) (T := TX8) (N := 34) (j := 29) (ci := 8) rfl wi8 (by decide) fl_X8_58 cx sh_62 rfl hdg k
theorem gf_X8_403 {G : GT} {X : CT} {cc : ByteArray} {nL n : Nat} {σ : St} {lv : List (Nat × Value)} {pc : Nat} {st : List Value} (cx : Cx G X RX8 cc nL n) (hdg : decode cc pc = .ok (.getfield 403, 3)) (k : WW G X nL σ lv (pc + 3) (.int (σ.1 62 27) :: st)) : WW G X nL σ lv pc (.ref (gad G 62) :: st) := ww_get (C := RX8) (T := TX8) (N := 34) (j := 27) (ci := 8) rfl wi8 (by decide) fl_X8_403 cx sh_62 rfl hdg k
theorem pf_X8_403 {G : GT} {X : CT} {cc : ByteArray} {nL n : Nat} {σ : St} {lv : List (Nat × Value)} {pc : Nat} {st : List Value} {x : Int32} {β : Type} {F : St → Option β} {o : β} (cx : Cx G X RX8 cc nL n) (hdg : decode cc pc = .ok (.putfield 403, 3)) (hF : lt (setI σ 62 27 x) F = some o) (k : ∀ σ1 : St, F σ1 = some o → WW G X nL σ1 lv (pc + 3) st) : WW G X nL σ lv pc (.int x :: .ref (gad G 62) :: st) := ww_put (C := RX8) (T := TX8) (N := 34) (j := 27) (ci := 8) rfl wi8 tyX8 tyX8_ok nmX8 (by decide) fl_X8_403 (by decide +kernel) (by decide +kernel) cx sh_62 rfl hdg hF k
theorem gf_X8_71 {G : GT} {X : CT} {cc : ByteArray} {nL n : Nat} {σ : St} {lv : List (Nat × Value)} {pc : Nat} {st : List Value} (cx : Cx G X RX8 cc nL n) (hdg : decode cc pc = .ok (.getfield 71, 3)) (k : WW G X nL σ lv (pc + 3) (.ref (gad G 81) :: st)) : WW G X nL σ lv pc (.ref (gad G 62) :: st) := ww_get (C := RX8) (T := TX8) (N := 34) (j := 33) (ci := 8) rfl wi8 (by decide) fl_X8_71 cx sh_62 rfl hdg k
theorem gf_X8_64 {G : GT} {X : CT} {cc : ByteArray} {nL n : Nat} {σ : St} {lv : List (Nat × Value)} {pc : Nat} {st : List Value} (cx : Cx G X RX8 cc nL n) (hdg : decode cc pc = .ok (.getfield 64, 3)) (k : WW G X nL σ lv (pc + 3) (.ref (gad G 79) :: st)) : WW G X nL σ lv pc (.ref (gad G 62) :: st) := ww_get (C := RX8) (T := TX8) (N := 34) (j := 31) (ci := 8) rfl wi8 (by decide) fl_X8_64 cx sh_62 rfl hdg k
theorem gf_X8_326 {G : GT} {X : CT} {cc : ByteArray} {nL n : Nat} {σ : St} {lv : List (Nat × Value)} {pc : Nat} {st : List Value} (cx : Cx G X RX8 cc nL n) (hdg : decode cc pc = .ok (.getfield 326, 3)) (k : WW G X nL σ lv (pc + 3) (.int (σ.1 62 19) :: st)) : WW G X nL σ lv pc (.ref (gad G 62) :: st) := ww_get (C := RX8) (T := TX8) (N := 34) (j := 19) (ci := 8) rfl wi8 (by decide) fl_X8_326 cx sh_62 rfl hdg k
theorem gf_X8_323 {G : GT} {X : CT} {cc : ByteArray} {nL n : Nat} {σ : St} {lv : List (Nat × Value)} {pc : Nat} {st : List Value} (cx : Cx G X RX8 cc nL n) (hdg : decode cc pc = .ok (.getfield 323, 3)) (k : WW G X nL σ lv (pc + 3) (.int (σ.1 62 20) :: st)) : WW G X nL σ lv pc (.ref (gad G 62) :: st) := ww_get (C := RX8) (T := TX8) (N := 34) (j := 20) (ci := 8) rfl wi8 (by decide) fl_X8_323 cx sh_62 rfl hdg k
theorem pf_X8_323 {G : GT} {X : CT} {cc : ByteArray} {nL n : Nat} {σ : St} {lv : List (Nat × Value)} {pc : Nat} {st : List Value} {x : Int32} {β : Type} {F : St → Option β} {o : β} (cx : Cx G X RX8 cc nL n) (hdg : decode cc pc = .ok (.putfield 323, 3)) (hF : lt (setI σ 62 20 x) F = some o) (k : ∀ σ1 : St, F σ1 = some o → WW G X nL σ1 lv (pc + 3) st) : WW G X nL σ lv pc (.int x :: .ref (gad G 62) :: st) := ww_put (C := RX8) (T := TX8) (N := 34) (j := 20) (ci := 8) rfl wi8 tyX8 tyX8_ok nmX8 (by decide) fl_X8_323 (by decide +kernel) (by decide +kernel) cx sh_62 rfl hdg hF k
theorem pf_X8_326 {G : GT} {X : CT} {cc : ByteArray} {nL n : Nat} {σ : St} {lv : List (Nat × Value)} {pc : Nat} {st : List Value} {x : Int32} {β : Type} {F : St → Option β} {o : β} (cx : Cx G X RX8 cc nL n) (hdg : decode cc pc = .ok (.putfield 326, 3)) (hF : lt (setI σ 62 19 x) F = some o) (k : ∀ σ1 : St, F σ1 = some o → WW G X nL σ1 lv (pc + 3) st) : WW G X nL σ lv pc (.int x :: .ref (gad G 62) :: st) := ww_put (C := RX8) (T := TX8) (N := 34) (j := 19) (ci := 8) rfl wi8 tyX8 tyX8_ok nmX8 (by decide) fl_X8_326 (by decide +kernel) (by decide +kernel) cx sh_62 rfl hdg hF k
theorem gf_X7_52 {G : GT} {X : CT} {cc : ByteArray} {nL n : Nat} {σ : St} {lv : List (Nat × Value)} {pc : Nat} {st : List Value} (cx : Cx G X RX7 cc nL n) (hdg : decode cc pc = .ok (.getfield 52, 3)) (k : WW G X nL σ lv (pc + 3) (.ref (gad G 51) :: st)) : WW G X nL σ lv pc (.ref (gad G 0) :: st) := ww_get (C := RX7) (T := TX7) (N := 12) (j := 8) (ci := 7) rfl wi7 (by decide) fl_X7_52 cx sh_0 rfl hdg k
theorem gf_X7_48 {G : GT} {X : CT} {cc : ByteArray} {nL n : Nat} {σ : St} {lv : List (Nat × Value)} {pc : Nat} {st : List Value} (cx : Cx G X RX7 cc nL n) (hdg : decode cc pc = .ok (.getfield 48, 3)) (k : WW G X nL σ lv (pc + 3) (.int (σ.1 0 7) :: st)) : WW G X nL σ lv pc (.ref (gad G 0) :: st) := ww_get (C := RX7) (T := TX7) (N := 12) (j := 7) (ci := 7) rfl wi7 (by decide) fl_X7_48 cx sh_0 rfl hdg k
theorem gf_X7_44 {G : GT} {X : CT} {cc : ByteArray} {nL n : Nat} {σ : St} {lv : List (Nat × Value)} {pc : Nat} {st : List Value} (cx : Cx G X RX7 cc nL n) (hdg : decode cc pc = .ok (.getfield 44, 3)) (k : WW G X nL σ lv (pc + 3) (.ref (gad G 49) :: st)) : WW G X nL σ lv pc (.ref (gad G 0) :: st) := ww_get (C := RX7) (T := TX7) (N := 12) (j := 6) (ci := 7) rfl wi7 (by decide) fl_X7_44 cx sh_0 rfl hdg k
theorem gf_X7_186 {G : GT} {X : CT} {cc : ByteArray} {nL n : Nat} {σ : St} {lv : List (Nat × Value)} {pc : Nat} {st : List Value} (cx : Cx G X RX7 cc nL n) (hdg : decode cc pc = .ok (.getfield 186, 3)) (k : WW G X nL σ lv (pc + 3) (.int (σ.1 53 2) :: st)) : WW G X nL σ lv pc (.ref (gad G 53) :: st) := ww_get (C := RX3) (T := TX3) (N := 4) (j := 2) (ci := 3) rfl wi3 (by decide) fl_X7_186 cx sh_53 rfl hdg k
theorem gf_X7_180 {G : GT} {X : CT} {cc : ByteArray} {nL n : Nat} {σ : St} {lv : List (Nat × Value)} {pc : Nat} {st : List Value} (cx : Cx G X RX7 cc nL n) (hdg : decode cc pc = .ok (.getfield 180, 3)) (k : WW G X nL σ lv (pc + 3) (.int (σ.1 53 0) :: st)) : WW G X nL σ lv pc (.ref (gad G 53) :: st) := ww_get (C := RX3) (T := TX3) (N := 4) (j := 0) (ci := 3) rfl wi3 (by decide) fl_X7_180 cx sh_53 rfl hdg k
theorem gf_X7_124 {G : GT} {X : CT} {cc : ByteArray} {nL n : Nat} {σ : St} {lv : List (Nat × Value)} {pc : Nat} {st : List Value} {t : Nat} (cx : Cx G X RX7 cc nL n) (ht : isTab t) (hdg : decode cc pc = .ok (.getfield 124, 3)) (k : WW G X nL σ lv (pc + 3) (.ref (gad G (t + 3)) :: st)) : WW G X nL σ lv pc (.ref (gad G t) :: st) := ww_get (C := RX6) (T := TX6) (N := 14) (j := 10) (ci := 6) rfl wi6 (by decide) fl_X7_124 cx ht.1 rfl hdg k
theorem gf_X7_127 {G : GT} {X : CT} {cc : ByteArray} {nL n : Nat} {σ : St} {lv : List (Nat × Value)} {pc : Nat} {st : List Value} {t : Nat} (cx : Cx G X RX7 cc nL n) (ht : isTab t) (hdg : decode cc pc = .ok (.getfield 127, 3)) (k : WW G X nL σ lv (pc + 3) (.ref (gad G (t + 4)) :: st)) : WW G X nL σ lv pc (.ref (gad G t) :: st) := ww_get (C := RX6) (T := TX6) (N := 14) (j := 11) (ci := 6) rfl wi6 (by decide) fl_X7_127 cx ht.1 rfl hdg k
theorem gf_X7_183 {G : GT} {X : CT} {cc : ByteArray} {nL n : Nat} {σ : St} {lv : List (Nat × Value)} {pc : Nat} {st : List Value} (cx : Cx G X RX7 cc nL n) (hdg : decode cc pc = .ok (.getfield 183, 3)) (k : WW G X nL σ lv (pc + 3) (.int (σ.1 53 1) :: st)) : WW G X nL σ lv pc (.ref (gad G 53) :: st) := ww_get (C := RX3) (T := TX3) (N := 4) (j := 1) (ci := 3) rfl wi3 (by decide) fl_X7_183 cx sh_53 rfl hdg k
theorem gf_X7_237 {G : GT} {X : CT} {cc : ByteArray} {nL n : Nat} {σ : St} {lv : List (Nat × Value)} {pc : Nat} {st : List Value} {h : Nat} (cx : Cx G X RX7 cc nL n) (ht : isShe h) (hdg : decode cc pc = .ok (.getfield 237, 3)) (k : WW G X nL σ lv (pc + 3) (.ref (gad G (h + 1)) :: st)) : WW G X nL σ lv pc (.ref (gad G h) :: st) := ww_get (C := RX5) (T := TX5) (N := 1) (j := 0) (ci := 5) rfl wi5 (by decide) fl_X7_237 cx ht.1 rfl hdg k
theorem gf_X1_28 {G : GT} {X : CT} {cc : ByteArray} {nL n : Nat} {σ : St} {lv : List (Nat × Value)} {pc : Nat} {st : List Value} {w : Nat} (cx : Cx G X RX1 cc nL n) (ht : isRow w) (hdg : decode cc pc = .ok (.getfield 28, 3)) (k : WW G X nL σ lv (pc + 3) (.int (σ.1 w 2) :: st)) : WW G X nL σ lv pc (.ref (gad G w) :: st) := ww_get (C := RX4) (T := TX4) (N := 4) (j := 2) (ci := 4) rfl wi4 (by decide) fl_X1_28 cx ht.1 rfl hdg k
theorem gf_X1_34 {G : GT} {X : CT} {cc : ByteArray} {nL n : Nat} {σ : St} {lv : List (Nat × Value)} {pc : Nat} {st : List Value} {w : Nat} (cx : Cx G X RX1 cc nL n) (ht : isRow w) (hdg : decode cc pc = .ok (.getfield 34, 3)) (k : WW G X nL σ lv (pc + 3) (.ref (gad G (w + 1)) :: st)) : WW G X nL σ lv pc (.ref (gad G w) :: st) := ww_get (C := RX4) (T := TX4) (N := 4) (j := 3) (ci := 4) rfl wi4 (by decide) fl_X1_34 cx ht.1 rfl hdg k
theorem gf_X2_102 {G : GT} {X : CT} {cc : ByteArray} {nL n : Nat} {σ : St} {lv : List (Nat × Value)} {pc : Nat} {st : List Value} {t : Nat} (cx : Cx G X RX2 cc nL n) (ht : isTab t) (hdg : decode cc pc = .ok (.getfield 102, 3)) (k : WW G X nL σ lv (pc + 3) (.int (σ.1 t 4) :: st)) : WW G X nL σ lv pc (.ref (gad G t) :: st) := ww_get (C := RX6) (T := TX6) (N := 14) (j := 4) (ci := 6) rfl wi6 (by decide) fl_X2_102 cx ht.1 rfl hdg k
theorem gf_X2_120 {G : GT} {X : CT} {cc : ByteArray} {nL n : Nat} {σ : St} {lv : List (Nat × Value)} {pc : Nat} {st : List Value} {t : Nat} (cx : Cx G X RX2 cc nL n) (ht : isTab t) (hdg : decode cc pc = .ok (.getfield 120, 3)) (k : WW G X nL σ lv (pc + 3) (.int (σ.1 t 7) :: st)) : WW G X nL σ lv pc (.ref (gad G t) :: st) := ww_get (C := RX6) (T := TX6) (N := 14) (j := 7) (ci := 6) rfl wi6 (by decide) fl_X2_120 cx ht.1 rfl hdg k
theorem pf_X2_120 {G : GT} {X : CT} {cc : ByteArray} {nL n : Nat} {σ : St} {lv : List (Nat × Value)} {pc : Nat} {st : List Value} {t : Nat} {x : Int32} {β : Type} {F : St → Option β} {o : β} (cx : Cx G X RX2 cc nL n) (ht : isTab t) (hdg : decode cc pc = .ok (.putfield 120, 3)) (hF : lt (setI σ t 7 x) F = some o) (k : ∀ σ1 : St, F σ1 = some o → WW G X nL σ1 lv (pc + 3) st) : WW G X nL σ lv pc (.int x :: .ref (gad G t) :: st) := ww_put (C := RX6) (T := TX6) (N := 14) (j := 7) (ci := 6) rfl wi6 tyX6 tyX6_ok nmX6 (by decide) fl_X2_120 (by decide +kernel) (by decide +kernel) cx ht.1 rfl hdg hF k
theorem pf_X8_351 {G : GT} {X : CT} {cc : ByteArray} {nL n : Nat} {σ : St} {lv : List (Nat × Value)} {pc : Nat} {st : List Value} {x : Int32} {β : Type} {F : St → Option β} {o : β} (cx : Cx G X RX8 cc nL n) (hdg : decode cc pc = .ok (.putfield 351, 3)) (hF : lt (setI σ 62 21 x) F = some o) (k : ∀ σ1 : St, F σ1 = some o → WW G X nL σ1 lv (pc + 3) st) : WW G X nL σ lv pc (.int x :: .ref (gad G 62) :: st) := ww_put (C := RX8) (T := TX8) (N := 34) (j := 21) (ci := 8) rfl wi8 tyX8 tyX8_ok nmX8 (by decide) fl_X8_351 (by decide +kernel) (by decide +kernel) cx sh_62 rfl hdg hF k
theorem gf_X8_351 {G : GT} {X : CT} {cc : ByteArray} {nL n : Nat} {σ : St} {lv : List (Nat × Value)} {pc : Nat} {st : List Value} (cx : Cx G X RX8 cc nL n) (hdg : decode cc pc = .ok (.getfield 351, 3)) (k : WW G X nL σ lv (pc + 3) (.int (σ.1 62 21) :: st)) : WW G X nL σ lv pc (.ref (gad G 62) :: st) := ww_get (C := RX8) (T := TX8) (N := 34) (j := 21) (ci := 8) rfl wi8 (by decide) fl_X8_351 cx sh_62 rfl hdg k
theorem gf_X7_65 {G : GT} {X : CT} {cc : ByteArray} {nL n : Nat} {σ : St} {lv : List (Nat × Value)} {pc : Nat} {st : List Value} (cx : Cx G X RX7 cc nL n) (hdg : decode cc pc = .ok (.getfield 65, 3)) (k : WW G X nL σ lv (pc + 3) (.ref (gad G 55) :: st)) : WW G X nL σ lv pc (.ref (gad G 0) :: st) := ww_get (C := RX7) (T := TX7) (N := 12) (j := 10) (ci := 7) rfl wi7 (by decide) fl_X7_65 cx sh_0 rfl hdg k
theorem gf_X7_301 {G : GT} {X : CT} {cc : ByteArray} {nL n : Nat} {σ : St} {lv : List (Nat × Value)} {pc : Nat} {st : List Value} (cx : Cx G X RX7 cc nL n) (hdg : decode cc pc = .ok (.getfield 301, 3)) (k : WW G X nL σ lv (pc + 3) (.ref (gad G 59) :: st)) : WW G X nL σ lv pc (.ref (gad G 55) :: st) := ww_get (C := RX1) (T := TX1) (N := 7) (j := 6) (ci := 1) rfl wi1 (by decide) fl_X7_301 cx sh_55 rfl hdg k
theorem gf_X7_304 {G : GT} {X : CT} {cc : ByteArray} {nL n : Nat} {σ : St} {lv : List (Nat × Value)} {pc : Nat} {st : List Value} (cx : Cx G X RX7 cc nL n) (hdg : decode cc pc = .ok (.getfield 304, 3)) (k : WW G X nL σ lv (pc + 3) (.ref (gad G 58) :: st)) : WW G X nL σ lv pc (.ref (gad G 55) :: st) := ww_get (C := RX1) (T := TX1) (N := 7) (j := 5) (ci := 1) rfl wi1 (by decide) fl_X7_304 cx sh_55 rfl hdg k
theorem gf_X7_283 {G : GT} {X : CT} {cc : ByteArray} {nL n : Nat} {σ : St} {lv : List (Nat × Value)} {pc : Nat} {st : List Value} (cx : Cx G X RX7 cc nL n) (hdg : decode cc pc = .ok (.getfield 283, 3)) (k : WW G X nL σ lv (pc + 3) (.int (σ.1 55 0) :: st)) : WW G X nL σ lv pc (.ref (gad G 55) :: st) := ww_get (C := RX1) (T := TX1) (N := 7) (j := 0) (ci := 1) rfl wi1 (by decide) fl_X7_283 cx sh_55 rfl hdg k
theorem gf_X7_286 {G : GT} {X : CT} {cc : ByteArray} {nL n : Nat} {σ : St} {lv : List (Nat × Value)} {pc : Nat} {st : List Value} (cx : Cx G X RX7 cc nL n) (hdg : decode cc pc = .ok (.getfield 286, 3)) (k : WW G X nL σ lv (pc + 3) (.int (σ.1 55 1) :: st)) : WW G X nL σ lv pc (.ref (gad G 55) :: st) := ww_get (C := RX1) (T := TX1) (N := 7) (j := 1) (ci := 1) rfl wi1 (by decide) fl_X7_286 cx sh_55 rfl hdg k
theorem gf_X7_289 {G : GT} {X : CT} {cc : ByteArray} {nL n : Nat} {σ : St} {lv : List (Nat × Value)} {pc : Nat} {st : List Value} (cx : Cx G X RX7 cc nL n) (hdg : decode cc pc = .ok (.getfield 289, 3)) (k : WW G X nL σ lv (pc + 3) (.int (σ.1 55 2) :: st)) : WW G X nL σ lv pc (.ref (gad G 55) :: st) := ww_get (C := RX1) (T := TX1) (N := 7) (j := 2) (ci := 1) rfl wi1 (by decide) fl_X7_289 cx sh_55 rfl hdg k
theorem gf_X7_298 {G : GT} {X : CT} {cc : ByteArray} {nL n : Nat} {σ : St} {lv : List (Nat × Value)} {pc : Nat} {st : List Value} (cx : Cx G X RX7 cc nL n) (hdg : decode cc pc = .ok (.getfield 298, 3)) (k : WW G X nL σ lv (pc + 3) (.ref (gad G 57) :: st)) : WW G X nL σ lv pc (.ref (gad G 55) :: st) := ww_get (C := RX1) (T := TX1) (N := 7) (j := 4) (ci := 1) rfl wi1 (by decide) fl_X7_298 cx sh_55 rfl hdg k
theorem gf_X7_295 {G : GT} {X : CT} {cc : ByteArray} {nL n : Nat} {σ : St} {lv : List (Nat × Value)} {pc : Nat} {st : List Value} (cx : Cx G X RX7 cc nL n) (hdg : decode cc pc = .ok (.getfield 295, 3)) (k : WW G X nL σ lv (pc + 3) (.ref (gad G 56) :: st)) : WW G X nL σ lv pc (.ref (gad G 55) :: st) := ww_get (C := RX1) (T := TX1) (N := 7) (j := 3) (ci := 1) rfl wi1 (by decide) fl_X7_295 cx sh_55 rfl hdg k
theorem gf_X2_92 {G : GT} {X : CT} {cc : ByteArray} {nL n : Nat} {σ : St} {lv : List (Nat × Value)} {pc : Nat} {st : List Value} {t : Nat} (cx : Cx G X RX2 cc nL n) (ht : isTab t) (hdg : decode cc pc = .ok (.getfield 92, 3)) (k : WW G X nL σ lv (pc + 3) (.int (σ.1 t 1) :: st)) : WW G X nL σ lv pc (.ref (gad G t) :: st) := ww_get (C := RX6) (T := TX6) (N := 14) (j := 1) (ci := 6) rfl wi6 (by decide) fl_X2_92 cx ht.1 rfl hdg k
theorem pf_X8_186 {G : GT} {X : CT} {cc : ByteArray} {nL n : Nat} {σ : St} {lv : List (Nat × Value)} {pc : Nat} {st : List Value} {x : Int32} {β : Type} {F : St → Option β} {o : β} (cx : Cx G X RX8 cc nL n) (hdg : decode cc pc = .ok (.putfield 186, 3)) (hF : lt (setI σ 62 18 x) F = some o) (k : ∀ σ1 : St, F σ1 = some o → WW G X nL σ1 lv (pc + 3) st) : WW G X nL σ lv pc (.int x :: .ref (gad G 62) :: st) := ww_put (C := RX8) (T := TX8) (N := 34) (j := 18) (ci := 8) rfl wi8 tyX8 tyX8_ok nmX8 (by decide) fl_X8_186 (by decide +kernel) (by decide +kernel) cx sh_62 rfl hdg hF k
theorem gf_X8_186 {G : GT} {X : CT} {cc : ByteArray} {nL n : Nat} {σ : St} {lv : List (Nat × Value)} {pc : Nat} {st : List Value} (cx : Cx G X RX8 cc nL n) (hdg : decode cc pc = .ok (.getfield 186, 3)) (k : WW G X nL σ lv (pc + 3) (.int (σ.1 62 18) :: st)) : WW G X nL σ lv pc (.ref (gad G 62) :: st) := ww_get (C := RX8) (T := TX8) (N := 34) (j := 18) (ci := 8) rfl wi8 (by decide) fl_X8_186 cx sh_62 rfl hdg k
theorem gf_X2_129 {G : GT} {X : CT} {cc : ByteArray} {nL n : Nat} {σ : St} {lv : List (Nat × Value)} {pc : Nat} {st : List Value} {t : Nat} (cx : Cx G X RX2 cc nL n) (ht : isTab t) (hdg : decode cc pc = .ok (.getfield 129, 3)) (k : WW G X nL σ lv (pc + 3) (.int (σ.1 t 5) :: st)) : WW G X nL σ lv pc (.ref (gad G t) :: st) := ww_get (C := RX6) (T := TX6) (N := 14) (j := 5) (ci := 6) rfl wi6 (by decide) fl_X2_129 cx ht.1 rfl hdg k
theorem gf_X8_37 {G : GT} {X : CT} {cc : ByteArray} {nL n : Nat} {σ : St} {lv : List (Nat × Value)} {pc : Nat} {st : List Value} (cx : Cx G X RX8 cc nL n) (hdg : decode cc pc = .ok (.getfield 37, 3)) (k : WW G X nL σ lv (pc + 3) (.ref (gad G 70) :: st)) : WW G X nL σ lv pc (.ref (gad G 62) :: st) := ww_get (C := RX8) (T := TX8) (N := 34) (j := 16) (ci := 8) rfl wi8 (by decide) fl_X8_37 cx sh_62 rfl hdg k
theorem gf_X8_40 {G : GT} {X : CT} {cc : ByteArray} {nL n : Nat} {σ : St} {lv : List (Nat × Value)} {pc : Nat} {st : List Value} (cx : Cx G X RX8 cc nL n) (hdg : decode cc pc = .ok (.getfield 40, 3)) (k : WW G X nL σ lv (pc + 3) (.ref (gad G 71) :: st)) : WW G X nL σ lv pc (.ref (gad G 62) :: st) := ww_get (C := RX8) (T := TX8) (N := 34) (j := 17) (ci := 8) rfl wi8 (by decide) fl_X8_40 cx sh_62 rfl hdg k
theorem gf_X8_34 {G : GT} {X : CT} {cc : ByteArray} {nL n : Nat} {σ : St} {lv : List (Nat × Value)} {pc : Nat} {st : List Value} (cx : Cx G X RX8 cc nL n) (hdg : decode cc pc = .ok (.getfield 34, 3)) (k : WW G X nL σ lv (pc + 3) (.ref (gad G 69) :: st)) : WW G X nL σ lv pc (.ref (gad G 62) :: st) := ww_get (C := RX8) (T := TX8) (N := 34) (j := 15) (ci := 8) rfl wi8 (by decide) fl_X8_34 cx sh_62 rfl hdg k
theorem gf_X2_141 {G : GT} {X : CT} {cc : ByteArray} {nL n : Nat} {σ : St} {lv : List (Nat × Value)} {pc : Nat} {st : List Value} {t : Nat} (cx : Cx G X RX2 cc nL n) (ht : isTab t) (hdg : decode cc pc = .ok (.getfield 141, 3)) (k : WW G X nL σ lv (pc + 3) (.int (σ.1 t 6) :: st)) : WW G X nL σ lv pc (.ref (gad G t) :: st) := ww_get (C := RX6) (T := TX6) (N := 14) (j := 6) (ci := 6) rfl wi6 (by decide) fl_X2_141 cx ht.1 rfl hdg k
theorem gf_X2_148 {G : GT} {X : CT} {cc : ByteArray} {nL n : Nat} {σ : St} {lv : List (Nat × Value)} {pc : Nat} {st : List Value} {t : Nat} (cx : Cx G X RX2 cc nL n) (ht : isTab t) (hdg : decode cc pc = .ok (.getfield 148, 3)) (k : WW G X nL σ lv (pc + 3) (.ref (gad G (t + 5)) :: st)) : WW G X nL σ lv pc (.ref (gad G t) :: st) := ww_get (C := RX6) (T := TX6) (N := 14) (j := 12) (ci := 6) rfl wi6 (by decide) fl_X2_148 cx ht.1 rfl hdg k
theorem gf_X2_150 {G : GT} {X : CT} {cc : ByteArray} {nL n : Nat} {σ : St} {lv : List (Nat × Value)} {pc : Nat} {st : List Value} {t : Nat} (cx : Cx G X RX2 cc nL n) (ht : isTab t) (hdg : decode cc pc = .ok (.getfield 150, 3)) (k : WW G X nL σ lv (pc + 3) (.ref (gad G (t + 6)) :: st)) : WW G X nL σ lv pc (.ref (gad G t) :: st) := ww_get (C := RX6) (T := TX6) (N := 14) (j := 13) (ci := 6) rfl wi6 (by decide) fl_X2_150 cx ht.1 rfl hdg k
theorem pf_X2_141 {G : GT} {X : CT} {cc : ByteArray} {nL n : Nat} {σ : St} {lv : List (Nat × Value)} {pc : Nat} {st : List Value} {t : Nat} {x : Int32} {β : Type} {F : St → Option β} {o : β} (cx : Cx G X RX2 cc nL n) (ht : isTab t) (hdg : decode cc pc = .ok (.putfield 141, 3)) (hF : lt (setI σ t 6 x) F = some o) (k : ∀ σ1 : St, F σ1 = some o → WW G X nL σ1 lv (pc + 3) st) : WW G X nL σ lv pc (.int x :: .ref (gad G t) :: st) := ww_put (C := RX6) (T := TX6) (N := 14) (j := 6) (ci := 6) rfl wi6 tyX6 tyX6_ok nmX6 (by decide) fl_X2_141 (by decide +kernel) (by decide +kernel) cx ht.1 rfl hdg hF k
theorem pf_X2_92 {G : GT} {X : CT} {cc : ByteArray} {nL n : Nat} {σ : St} {lv : List (Nat × Value)} {pc : Nat} {st : List Value} {t : Nat} {x : Int32} {β : Type} {F : St → Option β} {o : β} (cx : Cx G X RX2 cc nL n) (ht : isTab t) (hdg : decode cc pc = .ok (.putfield 92, 3)) (hF : lt (setI σ t 1 x) F = some o) (k : ∀ σ1 : St, F σ1 = some o → WW G X nL σ1 lv (pc + 3) st) : WW G X nL σ lv pc (.int x :: .ref (gad G t) :: st) := ww_put (C := RX6) (T := TX6) (N := 14) (j := 1) (ci := 6) rfl wi6 tyX6 tyX6_ok nmX6 (by decide) fl_X2_92 (by decide +kernel) (by decide +kernel) cx ht.1 rfl hdg hF k
theorem pf_X2_96 {G : GT} {X : CT} {cc : ByteArray} {nL n : Nat} {σ : St} {lv : List (Nat × Value)} {pc : Nat} {st : List Value} {t : Nat} {x : Int32} {β : Type} {F : St → Option β} {o : β} (cx : Cx G X RX2 cc nL n) (ht : isTab t) (hdg : decode cc pc = .ok (.putfield 96, 3)) (hF : lt (setI σ t 2 x) F = some o) (k : ∀ σ1 : St, F σ1 = some o → WW G X nL σ1 lv (pc + 3) st) : WW G X nL σ lv pc (.int x :: .ref (gad G t) :: st) := ww_put (C := RX6) (T := TX6) (N := 14) (j := 2) (ci := 6) rfl wi6 tyX6 tyX6_ok nmX6 (by decide) fl_X2_96 (by decide +kernel) (by decide +kernel) cx ht.1 rfl hdg hF k
theorem gf_X2_96 {G : GT} {X : CT} {cc : ByteArray} {nL n : Nat} {σ : St} {lv : List (Nat × Value)} {pc : Nat} {st : List Value} {t : Nat} (cx : Cx G X RX2 cc nL n) (ht : isTab t) (hdg : decode cc pc = .ok (.getfield 96, 3)) (k : WW G X nL σ lv (pc + 3) (.int (σ.1 t 2) :: st)) : WW G X nL σ lv pc (.ref (gad G t) :: st) := ww_get (C := RX6) (T := TX6) (N := 14) (j := 2) (ci := 6) rfl wi6 (by decide) fl_X2_96 cx ht.1 rfl hdg k
theorem pf_X2_100 {G : GT} {X : CT} {cc : ByteArray} {nL n : Nat} {σ : St} {lv : List (Nat × Value)} {pc : Nat} {st : List Value} {t : Nat} {x : Int32} {β : Type} {F : St → Option β} {o : β} (cx : Cx G X RX2 cc nL n) (ht : isTab t) (hdg : decode cc pc = .ok (.putfield 100, 3)) (hF : lt (setI σ t 3 x) F = some o) (k : ∀ σ1 : St, F σ1 = some o → WW G X nL σ1 lv (pc + 3) st) : WW G X nL σ lv pc (.int x :: .ref (gad G t) :: st) := ww_put (C := RX6) (T := TX6) (N := 14) (j := 3) (ci := 6) rfl wi6 tyX6 tyX6_ok nmX6 (by decide) fl_X2_100 (by decide +kernel) (by decide +kernel) cx ht.1 rfl hdg hF k
theorem gf_X2_100 {G : GT} {X : CT} {cc : ByteArray} {nL n : Nat} {σ : St} {lv : List (Nat × Value)} {pc : Nat} {st : List Value} {t : Nat} (cx : Cx G X RX2 cc nL n) (ht : isTab t) (hdg : decode cc pc = .ok (.getfield 100, 3)) (k : WW G X nL σ lv (pc + 3) (.int (σ.1 t 3) :: st)) : WW G X nL σ lv pc (.ref (gad G t) :: st) := ww_get (C := RX6) (T := TX6) (N := 14) (j := 3) (ci := 6) rfl wi6 (by decide) fl_X2_100 cx ht.1 rfl hdg k
theorem pf_X8_98 {G : GT} {X : CT} {cc : ByteArray} {nL n : Nat} {σ : St} {lv : List (Nat × Value)} {pc : Nat} {st : List Value} {x : Int32} {β : Type} {F : St → Option β} {o : β} (cx : Cx G X RX8 cc nL n) (hdg : decode cc pc = .ok (.putfield 98, 3)) (hF : lt (setI σ 62 7 x) F = some o) (k : ∀ σ1 : St, F σ1 = some o → WW G X nL σ1 lv (pc + 3) st) : WW G X nL σ lv pc (.int x :: .ref (gad G 62) :: st) := ww_put (C := RX8) (T := TX8) (N := 34) (j := 7) (ci := 8) rfl wi8 tyX8 tyX8_ok nmX8 (by decide) fl_X8_98 (by decide +kernel) (by decide +kernel) cx sh_62 rfl hdg hF k
theorem gf_X2_111 {G : GT} {X : CT} {cc : ByteArray} {nL n : Nat} {σ : St} {lv : List (Nat × Value)} {pc : Nat} {st : List Value} {t : Nat} (cx : Cx G X RX2 cc nL n) (ht : isTab t) (hdg : decode cc pc = .ok (.getfield 111, 3)) (k : WW G X nL σ lv (pc + 3) (.ref (gad G (t + 1)) :: st)) : WW G X nL σ lv pc (.ref (gad G t) :: st) := ww_get (C := RX6) (T := TX6) (N := 14) (j := 8) (ci := 6) rfl wi6 (by decide) fl_X2_111 cx ht.1 rfl hdg k
theorem gf_X2_114 {G : GT} {X : CT} {cc : ByteArray} {nL n : Nat} {σ : St} {lv : List (Nat × Value)} {pc : Nat} {st : List Value} {t : Nat} (cx : Cx G X RX2 cc nL n) (ht : isTab t) (hdg : decode cc pc = .ok (.getfield 114, 3)) (k : WW G X nL σ lv (pc + 3) (.ref (gad G (t + 2)) :: st)) : WW G X nL σ lv pc (.ref (gad G t) :: st) := ww_get (C := RX6) (T := TX6) (N := 14) (j := 9) (ci := 6) rfl wi6 (by decide) fl_X2_114 cx ht.1 rfl hdg k
theorem pf_X2_102 {G : GT} {X : CT} {cc : ByteArray} {nL n : Nat} {σ : St} {lv : List (Nat × Value)} {pc : Nat} {st : List Value} {t : Nat} {x : Int32} {β : Type} {F : St → Option β} {o : β} (cx : Cx G X RX2 cc nL n) (ht : isTab t) (hdg : decode cc pc = .ok (.putfield 102, 3)) (hF : lt (setI σ t 4 x) F = some o) (k : ∀ σ1 : St, F σ1 = some o → WW G X nL σ1 lv (pc + 3) st) : WW G X nL σ lv pc (.int x :: .ref (gad G t) :: st) := ww_put (C := RX6) (T := TX6) (N := 14) (j := 4) (ci := 6) rfl wi6 tyX6 tyX6_ok nmX6 (by decide) fl_X2_102 (by decide +kernel) (by decide +kernel) cx ht.1 rfl hdg hF k
theorem gf_X2_47 {G : GT} {X : CT} {cc : ByteArray} {nL n : Nat} {σ : St} {lv : List (Nat × Value)} {pc : Nat} {st : List Value} {t : Nat} (cx : Cx G X RX2 cc nL n) (ht : isTab t) (hdg : decode cc pc = .ok (.getfield 47, 3)) (k : WW G X nL σ lv (pc + 3) (.int (σ.1 t 0) :: st)) : WW G X nL σ lv pc (.ref (gad G t) :: st) := ww_get (C := RX6) (T := TX6) (N := 14) (j := 0) (ci := 6) rfl wi6 (by decide) fl_X2_47 cx ht.1 rfl hdg k
theorem pf_X2_47 {G : GT} {X : CT} {cc : ByteArray} {nL n : Nat} {σ : St} {lv : List (Nat × Value)} {pc : Nat} {st : List Value} {t : Nat} {x : Int32} {β : Type} {F : St → Option β} {o : β} (cx : Cx G X RX2 cc nL n) (ht : isTab t) (hdg : decode cc pc = .ok (.putfield 47, 3)) (hF : lt (setI σ t 0 x) F = some o) (k : ∀ σ1 : St, F σ1 = some o → WW G X nL σ1 lv (pc + 3) st) : WW G X nL σ lv pc (.int x :: .ref (gad G t) :: st) := ww_put (C := RX6) (T := TX6) (N := 14) (j := 0) (ci := 6) rfl wi6 tyX6 tyX6_ok nmX6 (by decide) fl_X2_47 (by decide +kernel) (by decide +kernel) cx ht.1 rfl hdg hF k
theorem gf_X7_23 {G : GT} {X : CT} {cc : ByteArray} {nL n : Nat} {σ : St} {lv : List (Nat × Value)} {pc : Nat} {st : List Value} (cx : Cx G X RX7 cc nL n) (hdg : decode cc pc = .ok (.getfield 23, 3)) (k : WW G X nL σ lv (pc + 3) (.ref (gad G 10) :: st)) : WW G X nL σ lv pc (.ref (gad G 0) :: st) := ww_get (C := RX7) (T := TX7) (N := 12) (j := 2) (ci := 7) rfl wi7 (by decide) fl_X7_23 cx sh_0 rfl hdg k
theorem kv_X7_101 : CallV RX7 101 RX6 yX6_hasClaim cX6_hasClaim 2 (some .boolean) 1 := callV_of ml_X7_101 im_X6_hasClaim se_X6_hasClaim in_X6 co_X6_hasClaim (by decide +kernel)
theorem kv_X7_163 : CallV RX7 163 RX6 yX6_claimsHoldingIn cX6_claimsHoldingIn 4 (some .int) 1 := callV_of ml_X7_163 im_X6_claimsHoldingIn se_X6_claimsHoldingIn in_X6 co_X6_claimsHoldingIn (by decide +kernel)
theorem kv_X7_115 : CallS RX7 115 yJ6_bitCount_0f7a4 cJ6_bitCount_0f7a4 1 (some .int) 1 := callS_of ml_X7_115 sc_J6_bitCount_0f7a4 in_J6 co_J6_bitCount_0f7a4 (by decide +kernel)
theorem kv_X7_270 : CallS RX7 270 yX7_isBit cX7_isBit 1 (some .boolean) 1 := callS_of ml_X7_270 sc_X7_isBit in_X7 co_X7_isBit (by decide +kernel)
theorem kv_X7_273 : CallV RX7 273 RX0 yX0_worldThatComes cX0_worldThatComes 11 (some .int) 3 := callV_of ml_X7_273 im_X0_worldThatComes se_X0_worldThatComes in_X0 co_X0_worldThatComes (by decide +kernel)
theorem kv_X7_370 : CallV RX7 370 RX7 yX7_rowsThere cX7_rowsThere 3 (some .int) 0 := callV_of ml_X7_370 im_X7_rowsThere se_X7_rowsThere in_X7 co_X7_rowsThere (by decide +kernel)
theorem kv_X7_149 : CallV RX7 149 RX6 yX6_isTold cX6_isTold 1 (some .boolean) 0 := callV_of ml_X7_149 im_X6_isTold se_X6_isTold in_X6 co_X6_isTold (by decide +kernel)
theorem kv_X7_355 : CallS RX7 355 yX7_isSeed cX7_isSeed 1 (some .boolean) 1 := callS_of ml_X7_355 sc_X7_isSeed in_X7 co_X7_isSeed (by decide +kernel)
theorem kv_X7_358 : CallV RX7 358 RX6 yX6_holedSteps cX6_holedSteps 6 (some .int) 1 := callV_of ml_X7_358 im_X6_holedSteps se_X6_holedSteps in_X6 co_X6_holedSteps (by decide +kernel)
theorem kv_X7_352 : CallV RX7 352 RX6 yX6_dropStep cX6_dropStep 2 (none) 0 := callV_of ml_X7_352 im_X6_dropStep se_X6_dropStep in_X6 co_X6_dropStep (by decide +kernel)
theorem kv_X7_133 : CallS RX7 133 yX7_bit cX7_bit 1 (some .int) 1 := callS_of ml_X7_133 sc_X7_bit in_X7 co_X7_bit (by decide +kernel)
theorem kv_X7_80 : CallV RX7 80 RX2 yX2_append cX2_append 3 (none) 1 := callV_of ml_X7_80 im_X2_append se_X2_append in_X2 co_X2_append (by decide +kernel)
theorem kv_X7_137 : CallV RX7 137 RX6 yX6_hasGuest cX6_hasGuest 2 (some .boolean) 1 := callV_of ml_X7_137 im_X6_hasGuest se_X6_hasGuest in_X6 co_X6_hasGuest (by decide +kernel)
theorem kv_X7_146 : CallV RX7 146 RX6 yX6_canDo cX6_canDo 2 (some .int) 1 := callV_of ml_X7_146 im_X6_canDo se_X6_canDo in_X6 co_X6_canDo (by decide +kernel)
theorem kv_X7_390 : CallS RX7 390 yX7_greatestDivisor cX7_greatestDivisor 6 (some .int) 2 := callS_of ml_X7_390 sc_X7_greatestDivisor in_X7 co_X7_greatestDivisor (by decide +kernel)
theorem kv_X7_196 : CallS RX7 196 yX7_isSlot cX7_isSlot 1 (some .boolean) 1 := callS_of ml_X7_196 sc_X7_isSlot in_X7 co_X7_isSlot (by decide +kernel)
theorem kv_X7_373 : CallV RX7 373 RX4 yX4_begin cX4_begin 4 (none) 2 := callV_of ml_X7_373 im_X4_begin se_X4_begin in_X4 co_X4_begin (by decide +kernel)
theorem kv_X7_329 : CallS RX7 329 yX7_withBit cX7_withBit 3 (some .int) 3 := callS_of ml_X7_329 sc_X7_withBit in_X7 co_X7_withBit (by decide +kernel)
theorem kv_X7_121 : CallV RX7 121 RX6 yX6_hasStep cX6_hasStep 2 (some .boolean) 1 := callV_of ml_X7_121 im_X6_hasStep se_X6_hasStep in_X6 co_X6_hasStep (by decide +kernel)
theorem kv_X7_376 : CallV RX7 376 RX4 yX4_cut cX4_cut 3 (some .long) 1 := callV_of ml_X7_376 im_X4_cut se_X4_cut in_X4 co_X4_cut (by decide +kernel)
theorem kv_X2_199 : CallV RX2 199 RX2 yX2_kindAt cX2_kindAt 3 (some .int) 1 := callV_of ml_X2_199 im_X2_kindAt se_X2_kindAt in_X2 co_X2_kindAt (by decide +kernel)
theorem kv_X3_39 : CallV RX3 39 RX3 yX3_reasonAgainst cX3_reasonAgainst 3 (some .int) 2 := callV_of ml_X3_39 im_X3_reasonAgainst se_X3_reasonAgainst in_X3 co_X3_reasonAgainst (by decide +kernel)
theorem kv_X3_49 : CallV RX3 49 RX3 yX3_usedForAll cX3_usedForAll 5 (some .int) 2 := callV_of ml_X3_49 im_X3_usedForAll se_X3_usedForAll in_X3 co_X3_usedForAll (by decide +kernel)
theorem kv_X3_72 : CallV RX3 72 RX6 yX6_worthOf cX6_worthOf 4 (some .int) 1 := callV_of ml_X3_72 im_X6_worthOf se_X6_worthOf in_X6 co_X6_worthOf (by decide +kernel)
theorem kv_X3_68 : CallV RX3 68 RX6 yX6_goes cX6_goes 3 (some .boolean) 2 := callV_of ml_X3_68 im_X6_goes se_X6_goes in_X6 co_X6_goes (by decide +kernel)
theorem kv_X3_55 : CallV RX3 55 RX6 yX6_canDo cX6_canDo 2 (some .int) 1 := callV_of ml_X3_55 im_X6_canDo se_X6_canDo in_X6 co_X6_canDo (by decide +kernel)
theorem kv_X5_15 : CallS RX5 15 yJ6_bitCount_0f7a4 cJ6_bitCount_0f7a4 1 (some .int) 1 := callS_of ml_X5_15 sc_J6_bitCount_0f7a4 in_J6 co_J6_bitCount_0f7a4 (by decide +kernel)
theorem kv_X6_84 : CallV RX6 84 RX6 yX6_goes cX6_goes 3 (some .boolean) 2 := callV_of ml_X6_84 im_X6_goes se_X6_goes in_X6 co_X6_goes (by decide +kernel)
theorem kv_X6_61 : CallV RX6 61 RX6 yX6_isTold cX6_isTold 1 (some .boolean) 0 := callV_of ml_X6_61 im_X6_isTold se_X6_isTold in_X6 co_X6_isTold (by decide +kernel)
theorem kv_X6_88 : CallV RX6 88 RX6 yX6_canDo cX6_canDo 2 (some .int) 1 := callV_of ml_X6_88 im_X6_canDo se_X6_canDo in_X6 co_X6_canDo (by decide +kernel)
theorem kv_X6_65 : CallV RX6 65 RX6 yX6_allWorlds cX6_allWorlds 1 (some .int) 0 := callV_of ml_X6_65 im_X6_allWorlds se_X6_allWorlds in_X6 co_X6_allWorlds (by decide +kernel)
theorem kv_X8_104 : CallV RX8 104 RX8 yX8_see cX8_see 2 (some .int) 1 := callV_of ml_X8_104 im_X8_see se_X8_see in_X8 co_X8_see (by decide +kernel)
theorem kv_X8_83 : CallS RX8 83 yX8_in cX8_in 6 (some .boolean) 3 := callS_of ml_X8_83 sc_X8_in in_X8 co_X8_in (by decide +kernel)
theorem kv_X8_87 : CallV RX8 87 RX8 yX8_worlds cX8_worlds 1 (some .int) 0 := callV_of ml_X8_87 im_X8_worlds se_X8_worlds in_X8 co_X8_worlds (by decide +kernel)
theorem kv_X8_291 : CallV RX8 291 RX8 yX8_isTable cX8_isTable 1 (some .boolean) 0 := callV_of ml_X8_291 im_X8_isTable se_X8_isTable in_X8 co_X8_isTable (by decide +kernel)
theorem kv_X8_363 : CallV RX8 363 RX8 yX8_allClaims cX8_allClaims 1 (some .int) 0 := callV_of ml_X8_363 im_X8_allClaims se_X8_allClaims in_X8 co_X8_allClaims (by decide +kernel)
theorem kv_X8_375 : CallV RX8 375 RX8 yX8_allGuests cX8_allGuests 1 (some .int) 0 := callV_of ml_X8_375 im_X8_allGuests se_X8_allGuests in_X8 co_X8_allGuests (by decide +kernel)
theorem kv_X8_168 : CallS RX8 168 yX8_bit cX8_bit 2 (some .int) 2 := callS_of ml_X8_168 sc_X8_bit in_X8 co_X8_bit (by decide +kernel)
theorem kv_X8_282 : CallV RX8 282 RX8 yX8_ofGuest cX8_ofGuest 3 (some .int) 2 := callV_of ml_X8_282 im_X8_ofGuest se_X8_ofGuest in_X8 co_X8_ofGuest (by decide +kernel)
theorem kv_X8_263 : CallV RX8 263 RX8 yX8_ofStep cX8_ofStep 3 (some .int) 2 := callV_of ml_X8_263 im_X8_ofStep se_X8_ofStep in_X8 co_X8_ofStep (by decide +kernel)
theorem kv_X8_304 : CallV RX8 304 RX8 yX8_allSteps cX8_allSteps 1 (some .int) 0 := callV_of ml_X8_304 im_X8_allSteps se_X8_allSteps in_X8 co_X8_allSteps (by decide +kernel)
theorem kv_X8_319 : CallV RX8 319 RX8 yX8_numberAt cX8_numberAt 3 (some .long) 2 := callV_of ml_X8_319 im_X8_numberAt se_X8_numberAt in_X8 co_X8_numberAt (by decide +kernel)
theorem kv_X8_134 : CallV RX8 134 RX8 yX8_good cX8_good 1 (some .boolean) 0 := callV_of ml_X8_134 im_X8_good se_X8_good in_X8 co_X8_good (by decide +kernel)
theorem kv_X8_91 : CallV RX8 91 RX8 yX8_ofClaim cX8_ofClaim 3 (some .int) 2 := callV_of ml_X8_91 im_X8_ofClaim se_X8_ofClaim in_X8 co_X8_ofClaim (by decide +kernel)
theorem kv_X8_181 : CallV RX8 181 RX8 yX8_freshAll cX8_freshAll 1 (some .int) 0 := callV_of ml_X8_181 im_X8_freshAll se_X8_freshAll in_X8 co_X8_freshAll (by decide +kernel)
theorem kv_X8_424 : CallS RX8 424 yX8_divisor cX8_divisor 5 (some .int) 2 := callS_of ml_X8_424 sc_X8_divisor in_X8 co_X8_divisor (by decide +kernel)
theorem kv_X7_240 : CallV RX7 240 RX6 yX6_isClaimSet cX6_isClaimSet 2 (some .boolean) 1 := callV_of ml_X7_240 im_X6_isClaimSet se_X6_isClaimSet in_X6 co_X6_isClaimSet (by decide +kernel)
theorem kv_X7_348 : CallV RX7 348 RX6 yX6_addStep cX6_addStep 3 (none) 2 := callV_of ml_X7_348 im_X6_addStep se_X6_addStep in_X6 co_X6_addStep (by decide +kernel)
theorem kv_X7_88 : CallV RX7 88 RX6 yX6_copyFrom cX6_copyFrom 2 (none) 1 := callV_of ml_X7_88 im_X6_copyFrom se_X6_copyFrom in_X6 co_X6_copyFrom (by decide +kernel)
theorem kv_X7_153 : CallV RX7 153 RX6 yX6_worldsOf cX6_worldsOf 4 (some .int) 1 := callV_of ml_X7_153 im_X6_worldsOf se_X6_worldsOf in_X6 co_X6_worldsOf (by decide +kernel)
theorem kv_X7_160 : CallS RX7 160 yX7_lowestBit cX7_lowestBit 1 (some .int) 1 := callS_of ml_X7_160 sc_X7_lowestBit in_X7 co_X7_lowestBit (by decide +kernel)
theorem kv_X7_313 : CallS RX7 313 yX7_partOfFraction cX7_partOfFraction 4 (some .int) 3 := callS_of ml_X7_313 sc_X7_partOfFraction in_X7 co_X7_partOfFraction (by decide +kernel)
theorem kv_X7_393 : CallV RX7 393 RX7 yX7_refusalOfSlot cX7_refusalOfSlot 2 (some .int) 1 := callV_of ml_X7_393 im_X7_refusalOfSlot se_X7_refusalOfSlot in_X7 co_X7_refusalOfSlot (by decide +kernel)
theorem kv_X7_205 : CallV RX7 205 RX4 yX4_areAllBelow cX4_areAllBelow 3 (some .boolean) 1 := callV_of ml_X7_205 im_X4_areAllBelow se_X4_areAllBelow in_X4 co_X4_areAllBelow (by decide +kernel)
theorem kv_X7_335 : CallV RX7 335 RX4 yX4_asSet cX4_asSet 3 (some .int) 0 := callV_of ml_X7_335 im_X4_asSet se_X4_asSet in_X4 co_X4_asSet (by decide +kernel)
theorem kv_X7_396 : CallV RX7 396 RX4 yX4_arePairsBelow cX4_arePairsBelow 5 (some .boolean) 2 := callV_of ml_X7_396 im_X4_arePairsBelow se_X4_arePairsBelow in_X4 co_X4_arePairsBelow (by decide +kernel)
theorem kv_X7_176 : CallV RX7 176 RX3 yX3_read cX3_read 5 (none) 2 := callV_of ml_X7_176 im_X3_read se_X3_read in_X3 co_X3_read (by decide +kernel)
theorem kv_X7_249 : CallV RX7 249 RX6 yX6_isGuestSet cX6_isGuestSet 2 (some .boolean) 1 := callV_of ml_X7_249 im_X6_isGuestSet se_X6_isGuestSet in_X6 co_X6_isGuestSet (by decide +kernel)
theorem kv_X7_261 : CallV RX7 261 RX6 yX6_teamCanDo cX6_teamCanDo 4 (some .int) 1 := callV_of ml_X7_261 im_X6_teamCanDo se_X6_teamCanDo in_X6 co_X6_teamCanDo (by decide +kernel)
theorem kv_X1_59 : CallV RX1 59 RX1 yX1_hourOfAll cX1_hourOfAll 5 (some .int) 2 := callV_of ml_X1_59 im_X1_hourOfAll se_X1_hourOfAll in_X1 co_X1_hourOfAll (by decide +kernel)
theorem kv_X1_81 : CallV RX1 81 RX1 yX1_give cX1_give 4 (none) 3 := callV_of ml_X1_81 im_X1_give se_X1_give in_X1 co_X1_give (by decide +kernel)
theorem kv_X2_77 : CallV RX2 77 RX2 yX2_fail cX2_fail 2 (some .boolean) 1 := callV_of ml_X2_77 im_X2_fail se_X2_fail in_X2 co_X2_fail (by decide +kernel)
theorem kv_X2_33 : CallV RX2 33 RX2 yX2_advance cX2_advance 2 (none) 0 := callV_of ml_X2_33 im_X2_advance se_X2_advance in_X2 co_X2_advance (by decide +kernel)
theorem kv_X5_24 : CallS RX5 24 yX5_subsetBehind cX5_subsetBehind 2 (some .int) 2 := callS_of ml_X5_24 sc_X5_subsetBehind in_X5 co_X5_subsetBehind (by decide +kernel)
theorem kv_X5_21 : CallS RX5 21 yX5_subsetsOf cX5_subsetsOf 1 (some .int) 1 := callS_of ml_X5_21 sc_X5_subsetsOf in_X5 co_X5_subsetsOf (by decide +kernel)
theorem kv_X5_57 : CallV RX5 57 RX5 yX5_isLeast cX5_isLeast 5 (some .boolean) 2 := callV_of ml_X5_57 im_X5_isLeast se_X5_isLeast in_X5 co_X5_isLeast (by decide +kernel)
theorem kv_X5_28 : CallS RX5 28 yX5_withoutLowest cX5_withoutLowest 1 (some .int) 1 := callS_of ml_X5_28 sc_X5_withoutLowest in_X5 co_X5_withoutLowest (by decide +kernel)
theorem kv_X5_31 : CallN yX7_lowestBit cX7_lowestBit 1 (some .int) 1 := callN_of sc_X7_lowestBit in_X7 co_X7_lowestBit (by decide +kernel)
theorem kv_X5_34 : CallV RX5 34 RX6 yX6_goes cX6_goes 3 (some .boolean) 2 := callV_of ml_X5_34 im_X6_goes se_X6_goes in_X6 co_X6_goes (by decide +kernel)
theorem kv_X5_40 : CallV RX5 40 RX6 yX6_spread cX6_spread 8 (some .int) 2 := callV_of ml_X5_40 im_X6_spread se_X6_spread in_X6 co_X6_spread (by decide +kernel)
theorem kv_X5_51 : CallV RX5 51 RX6 yX6_allWorlds cX6_allWorlds 1 (some .int) 0 := callV_of ml_X5_51 im_X6_allWorlds se_X6_allWorlds in_X6 co_X6_allWorlds (by decide +kernel)
theorem kv_X5_43 : CallV RX5 43 RX6 yX6_allSteps cX6_allSteps 1 (some .int) 0 := callV_of ml_X5_43 im_X6_allSteps se_X6_allSteps in_X6 co_X6_allSteps (by decide +kernel)
theorem kv_X5_60 : CallV RX5 60 RX6 yX6_worthOf cX6_worthOf 4 (some .int) 1 := callV_of ml_X5_60 im_X6_worthOf se_X6_worthOf in_X6 co_X6_worthOf (by decide +kernel)
theorem kv_X6_69 : CallV RX6 69 RX6 yX6_worldsOf cX6_worldsOf 4 (some .int) 1 := callV_of ml_X6_69 im_X6_worldsOf se_X6_worldsOf in_X6 co_X6_worldsOf (by decide +kernel)
theorem kv_X6_73 : CallS RX6 73 yJ6_bitCount_0f7a4 cJ6_bitCount_0f7a4 1 (some .int) 1 := callS_of ml_X6_73 sc_J6_bitCount_0f7a4 in_J6 co_J6_bitCount_0f7a4 (by decide +kernel)
theorem kv_X8_269 : CallV RX8 269 RX8 yX8_isClaim cX8_isClaim 3 (some .boolean) 1 := callV_of ml_X8_269 im_X8_isClaim se_X8_isClaim in_X8 co_X8_isClaim (by decide +kernel)
theorem kv_X8_366 : CallV RX8 366 RX8 yX8_areClaims cX8_areClaims 2 (some .boolean) 1 := callV_of ml_X8_366 im_X8_areClaims se_X8_areClaims in_X8 co_X8_areClaims (by decide +kernel)
theorem kv_X8_273 : CallS RX8 273 yX8_bits cX8_bits 3 (some .int) 1 := callS_of ml_X8_273 sc_X8_bits in_X8 co_X8_bits (by decide +kernel)
theorem kv_X8_316 : CallS RX8 316 yX8_isSlot cX8_isSlot 1 (some .boolean) 1 := callS_of ml_X8_316 sc_X8_isSlot in_X8 co_X8_isSlot (by decide +kernel)
theorem kv_X8_285 : CallV RX8 285 RX8 yX8_isGuest cX8_isGuest 3 (some .boolean) 1 := callV_of ml_X8_285 im_X8_isGuest se_X8_isGuest in_X8 co_X8_isGuest (by decide +kernel)
theorem kv_X8_276 : CallV RX8 276 RX8 yX8_isStep cX8_isStep 3 (some .boolean) 1 := callV_of ml_X8_276 im_X8_isStep se_X8_isStep in_X8 co_X8_isStep (by decide +kernel)
theorem kv_X8_393 : CallV RX8 393 RX8 yX8_fillDoubt cX8_fillDoubt 9 (none) 2 := callV_of ml_X8_393 im_X8_fillDoubt se_X8_fillDoubt in_X8 co_X8_fillDoubt (by decide +kernel)
theorem kv_X8_459 : CallS RX8 459 yX8_isSeed cX8_isSeed 1 (some .boolean) 1 := callS_of ml_X8_459 sc_X8_isSeed in_X8 co_X8_isSeed (by decide +kernel)
theorem kv_X8_462 : CallV RX8 462 RX8 yX8_holesBy cX8_holesBy 7 (some .int) 1 := callV_of ml_X8_462 im_X8_holesBy se_X8_holesBy in_X8 co_X8_holesBy (by decide +kernel)
theorem kv_X8_300 : CallV RX8 300 RX8 yX8_goes cX8_goes 3 (some .boolean) 2 := callV_of ml_X8_300 im_X8_goes se_X8_goes in_X8 co_X8_goes (by decide +kernel)
theorem kv_X8_415 : CallS RX8 415 yX8_mine cX8_mine 1 (some .int) 1 := callS_of ml_X8_415 sc_X8_mine in_X8 co_X8_mine (by decide +kernel)
theorem kv_X8_406 : CallV RX8 406 RX8 yX8_cooks cX8_cooks 5 (some .boolean) 2 := callV_of ml_X8_406 im_X8_cooks se_X8_cooks in_X8 co_X8_cooks (by decide +kernel)
theorem kv_X8_257 : CallV RX8 257 RX8 yX8_saltNow cX8_saltNow 3 (some .int) 0 := callV_of ml_X8_257 im_X8_saltNow se_X8_saltNow in_X8 co_X8_saltNow (by decide +kernel)
theorem kv_X8_288 : CallV RX8 288 RX8 yX8_canDo cX8_canDo 2 (some .int) 1 := callV_of ml_X8_288 im_X8_canDo se_X8_canDo in_X8 co_X8_canDo (by decide +kernel)
theorem kv_X8_151 : CallV RX8 151 RX8 yX8_advance cX8_advance 2 (none) 0 := callV_of ml_X8_151 im_X8_advance se_X8_advance in_X8 co_X8_advance (by decide +kernel)
theorem kv_X8_157 : CallV RX8 157 RX8 yX8_errs cX8_errs 2 (none) 1 := callV_of ml_X8_157 im_X8_errs se_X8_errs in_X8 co_X8_errs (by decide +kernel)
theorem kv_X8_254 : CallV RX8 254 RX8 yX8_allWorlds cX8_allWorlds 1 (some .int) 0 := callV_of ml_X8_254 im_X8_allWorlds se_X8_allWorlds in_X8 co_X8_allWorlds (by decide +kernel)
theorem kv_X8_472 : CallS RX8 472 yX8_cut cX8_cut 4 (some .long) 2 := callS_of ml_X8_472 sc_X8_cut in_X8 co_X8_cut (by decide +kernel)
theorem kv_X7_317 : CallV RX7 317 RX6 yX6_leftAtWorst cX6_leftAtWorst 4 (some .int) 1 := callV_of ml_X7_317 im_X6_leftAtWorst se_X6_leftAtWorst in_X6 co_X6_leftAtWorst (by decide +kernel)
theorem kv_X7_408 : CallV RX7 408 RX5 yX5_fillWithRuledOut cX5_fillWithRuledOut 4 (none) 1 := callV_of ml_X7_408 im_X5_fillWithRuledOut se_X5_fillWithRuledOut in_X5 co_X5_fillWithRuledOut (by decide +kernel)
theorem kv_X7_411 : CallV RX7 411 RX6 yX6_allWorlds cX6_allWorlds 1 (some .int) 0 := callV_of ml_X7_411 im_X6_allWorlds se_X6_allWorlds in_X6 co_X6_allWorlds (by decide +kernel)
theorem kv_X7_243 : CallV RX7 243 RX5 yX5_leastSet cX5_leastSet 7 (some .int) 2 := callV_of ml_X7_243 im_X5_leastSet se_X5_leastSet in_X5 co_X5_leastSet (by decide +kernel)
theorem kv_X7_189 : CallV RX7 189 RX3 yX3_worthEaten cX3_worthEaten 9 (some .int) 3 := callV_of ml_X7_189 im_X3_worthEaten se_X3_worthEaten in_X3 co_X3_worthEaten (by decide +kernel)
theorem kv_X7_173 : CallV RX7 173 RX7 yX7_refusalOfSteps cX7_refusalOfSteps 3 (some .int) 1 := callV_of ml_X7_173 im_X7_refusalOfSteps se_X7_refusalOfSteps in_X7 co_X7_refusalOfSteps (by decide +kernel)
theorem kv_X7_130 : CallV RX7 130 RX6 yX6_falseWorlds cX6_falseWorlds 2 (some .int) 1 := callV_of ml_X7_130 im_X6_falseWorlds se_X6_falseWorlds in_X6 co_X6_falseWorlds (by decide +kernel)
theorem kv_X7_156 : CallV RX7 156 RX6 yX6_followsFrom cX6_followsFrom 3 (some .boolean) 2 := callV_of ml_X7_156 im_X6_followsFrom se_X6_followsFrom in_X6 co_X6_followsFrom (by decide +kernel)
theorem kv_X7_222 : CallV RX7 222 RX6 yX6_allSteps cX6_allSteps 1 (some .int) 0 := callV_of ml_X7_222 im_X6_allSteps se_X6_allSteps in_X6 co_X6_allSteps (by decide +kernel)
theorem kv_X7_399 : CallV RX7 399 RX5 yX5_fillWithProofs cX5_fillWithProofs 7 (none) 3 := callV_of ml_X7_399 im_X5_fillWithProofs se_X5_fillWithProofs in_X5 co_X5_fillWithProofs (by decide +kernel)
theorem kv_X7_414 : CallV RX7 414 RX5 yX5_fillWithSaltProofs cX5_fillWithSaltProofs 4 (none) 1 := callV_of ml_X7_414 im_X5_fillWithSaltProofs se_X5_fillWithSaltProofs in_X5 co_X5_fillWithSaltProofs (by decide +kernel)
theorem kv_X7_403 : CallV RX7 403 RX5 yX5_menuSet cX5_menuSet 12 (some .int) 3 := callV_of ml_X7_403 im_X5_menuSet se_X5_menuSet in_X5 co_X5_menuSet (by decide +kernel)
theorem kv_X7_292 : CallV RX7 292 RX6 yX6_worthOf cX6_worthOf 4 (some .int) 1 := callV_of ml_X7_292 im_X6_worthOf se_X6_worthOf in_X6 co_X6_worthOf (by decide +kernel)
theorem kv_X1_38 : CallV RX1 38 RX1 yX1_cookPair cX1_cookPair 6 (some .boolean) 3 := callV_of ml_X1_38 im_X1_cookPair se_X1_cookPair in_X1 co_X1_cookPair (by decide +kernel)
theorem kv_X1_24 : CallV RX1 24 RX1 yX1_open cX1_open 3 (none) 1 := callV_of ml_X1_24 im_X1_open se_X1_open in_X1 co_X1_open (by decide +kernel)
theorem kv_X2_125 : CallV RX2 125 RX2 yX2_readNumber cX2_readNumber 4 (some .int) 2 := callV_of ml_X2_125 im_X2_readNumber se_X2_readNumber in_X2 co_X2_readNumber (by decide +kernel)
theorem kv_X2_117 : CallV RX2 117 RX2 yX2_isNumberOf cX2_isNumberOf 2 (some .boolean) 1 := callV_of ml_X2_117 im_X2_isNumberOf se_X2_isNumberOf in_X2 co_X2_isNumberOf (by decide +kernel)
theorem kv_X2_152 : CallS RX2 152 yJ6_bitCount_0f7a4 cJ6_bitCount_0f7a4 1 (some .int) 1 := callS_of ml_X2_152 sc_J6_bitCount_0f7a4 in_J6 co_J6_bitCount_0f7a4 (by decide +kernel)
theorem kv_X8_439 : CallV RX8 439 RX8 yX8_asksEaten cX8_asksEaten 4 (some .int) 2 := callV_of ml_X8_439 im_X8_asksEaten se_X8_asksEaten in_X8 co_X8_asksEaten (by decide +kernel)
theorem kv_X8_307 : CallV RX8 307 RX8 yX8_provedBy cX8_provedBy 6 (some .int) 2 := callV_of ml_X8_307 im_X8_provedBy se_X8_provedBy in_X8 co_X8_provedBy (by decide +kernel)
theorem kv_X8_409 : CallV RX8 409 RX8 yX8_asksKitchen cX8_asksKitchen 4 (some .int) 2 := callV_of ml_X8_409 im_X8_asksKitchen se_X8_asksKitchen in_X8 co_X8_asksKitchen (by decide +kernel)
theorem kv_X8_412 : CallV RX8 412 RX8 yX8_goKitchen cX8_goKitchen 3 (none) 1 := callV_of ml_X8_412 im_X8_goKitchen se_X8_goKitchen in_X8 co_X8_goKitchen (by decide +kernel)
theorem kv_X8_260 : CallV RX8 260 RX8 yX8_saltedBy cX8_saltedBy 4 (some .int) 1 := callV_of ml_X8_260 im_X8_saltedBy se_X8_saltedBy in_X8 co_X8_saltedBy (by decide +kernel)
theorem kv_X8_418 : CallV RX8 418 RX8 yX8_fillDuel cX8_fillDuel 3 (none) 0 := callV_of ml_X8_418 im_X8_fillDuel se_X8_fillDuel in_X8 co_X8_fillDuel (by decide +kernel)
theorem kv_X8_329 : CallV RX8 329 RX8 yX8_asksRow cX8_asksRow 4 (some .int) 2 := callV_of ml_X8_329 im_X8_asksRow se_X8_asksRow in_X8 co_X8_asksRow (by decide +kernel)
theorem kv_X8_165 : CallV RX8 165 RX8 yX8_number cX8_number 4 (some .int) 2 := callV_of ml_X8_165 im_X8_number se_X8_number in_X8 co_X8_number (by decide +kernel)
theorem kv_X8_442 : CallV RX8 442 RX8 yX8_eatenBy cX8_eatenBy 4 (some .int) 1 := callV_of ml_X8_442 im_X8_eatenBy se_X8_eatenBy in_X8 co_X8_eatenBy (by decide +kernel)
theorem kv_X8_354 : CallV RX8 354 RX8 yX8_worthsOf cX8_worthsOf 4 (some .int) 1 := callV_of ml_X8_354 im_X8_worthsOf se_X8_worthsOf in_X8 co_X8_worthsOf (by decide +kernel)
theorem kv_X8_333 : CallV RX8 333 RX8 yX8_readRow cX8_readRow 2 (none) 1 := callV_of ml_X8_333 im_X8_readRow se_X8_readRow in_X8 co_X8_readRow (by decide +kernel)
theorem kv_X8_378 : CallV RX8 378 RX8 yX8_areGuests cX8_areGuests 2 (some .boolean) 1 := callV_of ml_X8_378 im_X8_areGuests se_X8_areGuests in_X8 co_X8_areGuests (by decide +kernel)
theorem kv_X8_384 : CallV RX8 384 RX8 yX8_strengthOf cX8_strengthOf 4 (some .int) 1 := callV_of ml_X8_384 im_X8_strengthOf se_X8_strengthOf in_X8 co_X8_strengthOf (by decide +kernel)
theorem kv_X7_218 : CallV RX7 218 RX7 yX7_freshProofs cX7_freshProofs 1 (some (.object "ProvedTable$Sheet")) 0 := callV_of ml_X7_218 im_X7_freshProofs se_X7_freshProofs in_X7 co_X7_freshProofs (by decide +kernel)
theorem kv_X7_332 : CallV RX7 332 RX7 yX7_refusalOfDishes cX7_refusalOfDishes 3 (some .int) 1 := callV_of ml_X7_332 im_X7_refusalOfDishes se_X7_refusalOfDishes in_X7 co_X7_refusalOfDishes (by decide +kernel)
theorem kv_X7_280 : CallV RX7 280 RX1 yX1_cook cX1_cook 5 (none) 2 := callV_of ml_X7_280 im_X1_cook se_X1_cook in_X1 co_X1_cook (by decide +kernel)
theorem kv_X7_277 : CallV RX7 277 RX7 yX7_refusalOfPairs cX7_refusalOfPairs 3 (some .int) 1 := callV_of ml_X7_277 im_X7_refusalOfPairs se_X7_refusalOfPairs in_X7 co_X7_refusalOfPairs (by decide +kernel)
theorem kv_X7_310 : CallV RX7 310 RX7 yX7_coreSet cX7_coreSet 1 (some .int) 0 := callV_of ml_X7_310 im_X7_coreSet se_X7_coreSet in_X7 co_X7_coreSet (by decide +kernel)
theorem kv_X7_211 : CallS RX7 211 yX7_sizeOrNone cX7_sizeOrNone 1 (some .int) 1 := callS_of ml_X7_211 sc_X7_sizeOrNone in_X7 co_X7_sizeOrNone (by decide +kernel)
theorem kv_X7_405 : CallV RX7 405 RX6 yX6_teamKnows cX6_teamKnows 4 (some .int) 1 := callV_of ml_X7_405 im_X6_teamKnows se_X6_teamKnows in_X6 co_X6_teamKnows (by decide +kernel)
theorem kv_X7_320 : CallV RX7 320 RX7 yX7_ask cX7_ask 5 (some .int) 0 := callV_of ml_X7_320 im_X7_ask se_X7_ask in_X7 co_X7_ask (by decide +kernel)
theorem kv_X7_225 : CallV RX7 225 RX5 yX5_countLeast cX5_countLeast 6 (some .int) 2 := callV_of ml_X7_225 im_X5_countLeast se_X5_countLeast in_X5 co_X5_countLeast (by decide +kernel)
theorem kv_X7_326 : CallV RX7 326 RX7 yX7_leastSaltFor cX7_leastSaltFor 2 (some .int) 1 := callV_of ml_X7_326 im_X7_leastSaltFor se_X7_leastSaltFor in_X7 co_X7_leastSaltFor (by decide +kernel)
theorem kv_X2_191 : CallV RX2 191 RJ0 yJ0_length_8abf5 cJ0_length_8abf5 1 (some .int) 0 := callV_of ml_X2_191 im_J0_length_8abf5 se_J0_length_8abf5 in_J0 co_J0_length_8abf5 (by decide +kernel)
theorem kv_X2_195 : CallV RX2 195 RJ0 yJ0_charAt_5068e cJ0_charAt_5068e 2 (some .char) 1 := callV_of ml_X2_195 im_J0_charAt_5068e se_J0_charAt_5068e in_J0 co_J0_charAt_5068e (by decide +kernel)
theorem kv_X8_339 : CallV RX8 339 RX8 yX8_fewestSteps cX8_fewestSteps 6 (some .int) 3 := callV_of ml_X8_339 im_X8_fewestSteps se_X8_fewestSteps in_X8 co_X8_fewestSteps (by decide +kernel)
theorem kv_X8_421 : CallV RX8 421 RX8 yX8_coreOf cX8_coreOf 4 (some .int) 0 := callV_of ml_X8_421 im_X8_coreOf se_X8_coreOf in_X8 co_X8_coreOf (by decide +kernel)
theorem kv_X8_266 : CallV RX8 266 RX8 yX8_saltedNow cX8_saltedNow 1 (some .int) 0 := callV_of ml_X8_266 im_X8_saltedNow se_X8_saltedNow in_X8 co_X8_saltedNow (by decide +kernel)
theorem kv_X8_297 : CallS RX8 297 yX8_lowest cX8_lowest 2 (some .int) 1 := callS_of ml_X8_297 sc_X8_lowest in_X8 co_X8_lowest (by decide +kernel)
theorem kv_X8_310 : CallV RX8 310 RX8 yX8_provedNow cX8_provedNow 1 (some .int) 0 := callV_of ml_X8_310 im_X8_provedNow se_X8_provedNow in_X8 co_X8_provedNow (by decide +kernel)
theorem kv_X8_279 : CallV RX8 279 RX8 yX8_falseIn cX8_falseIn 2 (some .int) 1 := callV_of ml_X8_279 im_X8_falseIn se_X8_falseIn in_X8 co_X8_falseIn (by decide +kernel)
theorem kv_X8_357 : CallV RX8 357 RX8 yX8_mostBy cX8_mostBy 7 (some .int) 3 := callV_of ml_X8_357 im_X8_mostBy se_X8_mostBy in_X8 co_X8_mostBy (by decide +kernel)
theorem kv_X8_138 : CallV RX8 138 RJ0 yJ0_length_8abf5 cJ0_length_8abf5 1 (some .int) 0 := callV_of ml_X8_138 im_J0_length_8abf5 se_J0_length_8abf5 in_J0 co_J0_length_8abf5 (by decide +kernel)
theorem kv_X8_143 : CallV RX8 143 RJ0 yJ0_charAt_5068e cJ0_charAt_5068e 2 (some .char) 1 := callV_of ml_X8_143 im_J0_charAt_5068e se_J0_charAt_5068e in_J0 co_J0_charAt_5068e (by decide +kernel)
theorem kv_X8_345 : CallV RX8 345 RX8 yX8_isProvedBy cX8_isProvedBy 3 (some .boolean) 2 := callV_of ml_X8_345 im_X8_isProvedBy se_X8_isProvedBy in_X8 co_X8_isProvedBy (by decide +kernel)
theorem kv_X8_427 : CallS RX8 427 yX8_part cX8_part 3 (some .int) 3 := callS_of ml_X8_427 sc_X8_part in_X8 co_X8_part (by decide +kernel)
theorem kv_X8_212 : CallV RX8 212 RX8 yX8_freshClaim cX8_freshClaim 1 (some .int) 0 := callV_of ml_X8_212 im_X8_freshClaim se_X8_freshClaim in_X8 co_X8_freshClaim (by decide +kernel)
theorem kv_X8_208 : CallV RX8 208 RX8 yX8_isNextIn cX8_isNextIn 2 (some .boolean) 1 := callV_of ml_X8_208 im_X8_isNextIn se_X8_isNextIn in_X8 co_X8_isNextIn (by decide +kernel)
theorem kv_X8_336 : CallV RX8 336 RX8 yX8_usedBy cX8_usedBy 7 (some .int) 2 := callV_of ml_X8_336 im_X8_usedBy se_X8_usedBy in_X8 co_X8_usedBy (by decide +kernel)
theorem kv_X8_436 : CallV RX8 436 RX8 yX8_spareOf cX8_spareOf 5 (some .int) 1 := callV_of ml_X8_436 im_X8_spareOf se_X8_spareOf in_X8 co_X8_spareOf (by decide +kernel)
theorem kv_X7_246 : CallV RX7 246 RX7 yX7_guestsProving cX7_guestsProving 5 (some .int) 1 := callV_of ml_X7_246 im_X7_guestsProving se_X7_guestsProving in_X7 co_X7_guestsProving (by decide +kernel)
theorem kv_X7_214 : CallV RX7 214 RX6 yX6_firstGoing cX6_firstGoing 4 (some .int) 2 := callV_of ml_X7_214 im_X6_firstGoing se_X6_firstGoing in_X6 co_X6_firstGoing (by decide +kernel)
theorem kv_X7_208 : CallV RX7 208 RX7 yX7_shortestSet cX7_shortestSet 2 (some .int) 1 := callV_of ml_X7_208 im_X7_shortestSet se_X7_shortestSet in_X7 co_X7_shortestSet (by decide +kernel)
theorem kv_X7_234 : CallV RX7 234 RX7 yX7_menuSet cX7_menuSet 3 (some .int) 2 := callV_of ml_X7_234 im_X7_menuSet se_X7_menuSet in_X7 co_X7_menuSet (by decide +kernel)
theorem kv_X7_170 : CallV RX7 170 RX6 yX6_following cX6_following 4 (some .int) 0 := callV_of ml_X7_170 im_X6_following se_X6_following in_X6 co_X6_following (by decide +kernel)
theorem kv_X7_166 : CallV RX7 166 RX7 yX7_provedByAll cX7_provedByAll 1 (some .int) 0 := callV_of ml_X7_166 im_X7_provedByAll se_X7_provedByAll in_X7 co_X7_provedByAll (by decide +kernel)
theorem kv_X7_323 : CallV RX7 323 RX6 yX6_spread cX6_spread 8 (some .int) 2 := callV_of ml_X7_323 im_X6_spread se_X6_spread in_X6 co_X6_spread (by decide +kernel)
theorem kv_X7_264 : CallV RX7 264 RX7 yX7_doesTeamProve cX7_doesTeamProve 4 (some .boolean) 2 := callV_of ml_X7_264 im_X7_doesTeamProve se_X7_doesTeamProve in_X7 co_X7_doesTeamProve (by decide +kernel)
theorem kv_X7_228 : CallV RX7 228 RX7 yX7_provedWithout cX7_provedWithout 2 (some .int) 1 := callV_of ml_X7_228 im_X7_provedWithout se_X7_provedWithout in_X7 co_X7_provedWithout (by decide +kernel)
theorem kv_X2_55 : CallV RX2 55 RX2 yX2_isWord cX2_isWord 3 (some .boolean) 1 := callV_of ml_X2_55 im_X2_isWord se_X2_isWord in_X2 co_X2_isWord (by decide +kernel)
theorem kv_X2_180 : CallV RX2 180 RX6 yX6_worldsOfAtom cX6_worldsOfAtom 4 (some .int) 1 := callV_of ml_X2_180 im_X6_worldsOfAtom se_X6_worldsOfAtom in_X6 co_X6_worldsOfAtom (by decide +kernel)
theorem kv_X2_170 : CallV RX2 170 RX6 yX6_allWorlds cX6_allWorlds 1 (some .int) 0 := callV_of ml_X2_170 im_X6_allWorlds se_X6_allWorlds in_X6 co_X6_allWorlds (by decide +kernel)
theorem kv_X8_430 : CallV RX8 430 RX8 yX8_worstOf cX8_worstOf 3 (some .int) 1 := callV_of ml_X8_430 im_X8_worstOf se_X8_worstOf in_X8 co_X8_worstOf (by decide +kernel)
theorem kv_X8_369 : CallV RX8 369 RX8 yX8_canProve cX8_canProve 4 (some .boolean) 2 := callV_of ml_X8_369 im_X8_canProve se_X8_canProve in_X8 co_X8_canProve (by decide +kernel)
theorem kv_X8_342 : CallV RX8 342 RX8 yX8_proofOf cX8_proofOf 2 (some .int) 1 := callV_of ml_X8_342 im_X8_proofOf se_X8_proofOf in_X8 co_X8_proofOf (by decide +kernel)
theorem kv_X8_360 : CallV RX8 360 RX8 yX8_menuOf cX8_menuOf 2 (some .int) 1 := callV_of ml_X8_360 im_X8_menuOf se_X8_menuOf in_X8 co_X8_menuOf (by decide +kernel)
theorem kv_X8_466 : CallV RX8 466 RX8 yX8_feastOf cX8_feastOf 4 (some .int) 2 := callV_of ml_X8_466 im_X8_feastOf se_X8_feastOf in_X8 co_X8_feastOf (by decide +kernel)
theorem kv_X8_294 : CallV RX8 294 RX8 yX8_isFollowing cX8_isFollowing 2 (some .boolean) 1 := callV_of ml_X8_294 im_X8_isFollowing se_X8_isFollowing in_X8 co_X8_isFollowing (by decide +kernel)
theorem kv_X8_189 : CallV RX8 189 RX8 yX8_atomWorlds cX8_atomWorlds 4 (some .int) 1 := callV_of ml_X8_189 im_X8_atomWorlds se_X8_atomWorlds in_X8 co_X8_atomWorlds (by decide +kernel)
theorem kv_X8_147 : CallV RX8 147 RX8 yX8_is cX8_is 4 (some .boolean) 1 := callV_of ml_X8_147 im_X8_is se_X8_is in_X8 co_X8_is (by decide +kernel)
theorem kv_X8_348 : CallV RX8 348 RX8 yX8_isLeastProof cX8_isLeastProof 4 (some .boolean) 2 := callV_of ml_X8_348 im_X8_isLeastProof se_X8_isLeastProof in_X8 co_X8_isLeastProof (by decide +kernel)
theorem kv_X8_387 : CallV RX8 387 RX8 yX8_canTogether cX8_canTogether 5 (some .boolean) 2 := callV_of ml_X8_387 im_X8_canTogether se_X8_canTogether in_X8 co_X8_canTogether (by decide +kernel)
theorem kv_X7_307 : CallV RX7 307 RX7 yX7_lengthOfDuel cX7_lengthOfDuel 1 (some .int) 0 := callV_of ml_X7_307 im_X7_lengthOfDuel se_X7_lengthOfDuel in_X7 co_X7_lengthOfDuel (by decide +kernel)
theorem kv_X7_231 : CallV RX7 231 RX7 yX7_menuWorth cX7_menuWorth 3 (some .int) 2 := callV_of ml_X7_231 im_X7_menuWorth se_X7_menuWorth in_X7 co_X7_menuWorth (by decide +kernel)
theorem kv_X7_267 : CallV RX7 267 RX7 yX7_leastTeam cX7_leastTeam 6 (some .int) 1 := callV_of ml_X7_267 im_X7_leastTeam se_X7_leastTeam in_X7 co_X7_leastTeam (by decide +kernel)
theorem kv_X7_255 : CallV RX7 255 RX7 yX7_worthWithLemma cX7_worthWithLemma 6 (some .int) 2 := callV_of ml_X7_255 im_X7_worthWithLemma se_X7_worthWithLemma in_X7 co_X7_worthWithLemma (by decide +kernel)
theorem kv_X2_83 : CallV RX2 83 RX2 yX2_readWord cX2_readWord 2 (some .boolean) 1 := callV_of ml_X2_83 im_X2_readWord se_X2_readWord in_X2 co_X2_readWord (by decide +kernel)
theorem kv_X2_134 : CallV RX2 134 RX2 yX2_readSet cX2_readSet 6 (some .int) 2 := callV_of ml_X2_134 im_X2_readSet se_X2_readSet in_X2 co_X2_readSet (by decide +kernel)
theorem kv_X2_137 : CallV RX2 137 RX6 yX6_addStep cX6_addStep 3 (none) 2 := callV_of ml_X2_137 im_X6_addStep se_X6_addStep in_X6 co_X6_addStep (by decide +kernel)
theorem kv_X8_433 : CallV RX8 433 RX8 yX8_askOf cX8_askOf 4 (some .int) 0 := callV_of ml_X8_433 im_X8_askOf se_X8_askOf in_X8 co_X8_askOf (by decide +kernel)
theorem kv_X8_381 : CallV RX8 381 RX8 yX8_lemmaOf cX8_lemmaOf 6 (some .int) 1 := callV_of ml_X8_381 im_X8_lemmaOf se_X8_lemmaOf in_X8 co_X8_lemmaOf (by decide +kernel)
theorem kv_X8_313 : CallV RX8 313 RX8 yX8_following cX8_following 3 (some .int) 0 := callV_of ml_X8_313 im_X8_following se_X8_following in_X8 co_X8_following (by decide +kernel)
theorem kv_X8_390 : CallV RX8 390 RX8 yX8_teamOf cX8_teamOf 4 (some .int) 1 := callV_of ml_X8_390 im_X8_teamOf se_X8_teamOf in_X8 co_X8_teamOf (by decide +kernel)
theorem kv_X8_195 : CallV RX8 195 RX8 yX8_joined cX8_joined 4 (some .int) 3 := callV_of ml_X8_195 im_X8_joined se_X8_joined in_X8 co_X8_joined (by decide +kernel)
theorem kv_X8_192 : CallV RX8 192 RX8 yX8_formWord cX8_formWord 1 (some .int) 0 := callV_of ml_X8_192 im_X8_formWord se_X8_formWord in_X8 co_X8_formWord (by decide +kernel)
theorem kv_X8_372 : CallV RX8 372 RX8 yX8_whoOf cX8_whoOf 4 (some .int) 1 := callV_of ml_X8_372 im_X8_whoOf se_X8_whoOf in_X8 co_X8_whoOf (by decide +kernel)
theorem kv_X8_154 : CallV RX8 154 RX8 yX8_takes cX8_takes 3 (some .boolean) 1 := callV_of ml_X8_154 im_X8_takes se_X8_takes in_X8 co_X8_takes (by decide +kernel)
theorem kv_X7_258 : CallV RX7 258 RX7 yX7_lemma cX7_lemma 6 (some .int) 1 := callV_of ml_X7_258 im_X7_lemma se_X7_lemma in_X7 co_X7_lemma (by decide +kernel)
theorem kv_X2_88 : CallV RX2 88 RX2 yX2_readNamed cX2_readNamed 4 (some .int) 3 := callV_of ml_X2_88 im_X2_readNamed se_X2_readNamed in_X2 co_X2_readNamed (by decide +kernel)
theorem kv_X8_161 : CallV RX8 161 RX8 yX8_needs cX8_needs 2 (none) 1 := callV_of ml_X8_161 im_X8_needs se_X8_needs in_X8 co_X8_needs (by decide +kernel)
theorem kv_X8_201 : CallV RX8 201 RX8 yX8_told cX8_told 4 (some .int) 3 := callV_of ml_X8_201 im_X8_told se_X8_told in_X8 co_X8_told (by decide +kernel)
theorem kv_X8_205 : CallV RX8 205 RX8 yX8_form cX8_form 4 (some .int) 0 := callV_of ml_X8_205 im_X8_form se_X8_form in_X8 co_X8_form (by decide +kernel)
theorem kv_X8_237 : CallV RX8 237 RX8 yX8_readGuest cX8_readGuest 5 (none) 0 := callV_of ml_X8_237 im_X8_readGuest se_X8_readGuest in_X8 co_X8_readGuest (by decide +kernel)
theorem kv_X8_234 : CallV RX8 234 RX8 yX8_readStep cX8_readStep 6 (none) 0 := callV_of ml_X8_234 im_X8_readStep se_X8_readStep in_X8 co_X8_readStep (by decide +kernel)
theorem kv_X8_231 : CallV RX8 231 RX8 yX8_readSalt cX8_readSalt 2 (none) 0 := callV_of ml_X8_231 im_X8_readSalt se_X8_readSalt in_X8 co_X8_readSalt (by decide +kernel)
theorem kv_X8_228 : CallV RX8 228 RX8 yX8_readClaim cX8_readClaim 4 (none) 0 := callV_of ml_X8_228 im_X8_readClaim se_X8_readClaim in_X8 co_X8_readClaim (by decide +kernel)
theorem kv_X8_248 : CallV RX8 248 RX8 yX8_readNext cX8_readNext 2 (none) 0 := callV_of ml_X8_248 im_X8_readNext se_X8_readNext in_X8 co_X8_readNext (by decide +kernel)
theorem kv_X8_251 : CallV RX8 251 RX8 yX8_readLine cX8_readLine 1 (none) 0 := callV_of ml_X8_251 im_X8_readLine se_X8_readLine in_X8 co_X8_readLine (by decide +kernel)
theorem kv_X2_166 : CallV RX2 166 RX2 yX2_readParts cX2_readParts 6 (some .int) 3 := callV_of ml_X2_166 im_X2_readParts se_X2_readParts in_X2 co_X2_readParts (by decide +kernel)
theorem kv_X2_158 : CallV RX2 158 RX2 yX2_worldsOfLeaf cX2_worldsOfLeaf 3 (some .int) 1 := callV_of ml_X2_158 im_X2_worldsOfLeaf se_X2_worldsOfLeaf in_X2 co_X2_worldsOfLeaf (by decide +kernel)
theorem kv_X2_162 : CallV RX2 162 RX2 yX2_operatorHere cX2_operatorHere 1 (some .int) 0 := callV_of ml_X2_162 im_X2_operatorHere se_X2_operatorHere in_X2 co_X2_operatorHere (by decide +kernel)
theorem kv_X2_107 : CallV RX2 107 RX2 yX2_readForm cX2_readForm 5 (some .int) 2 := callV_of ml_X2_107 im_X2_readForm se_X2_readForm in_X2 co_X2_readForm (by decide +kernel)
theorem kv_X2_74 : CallV RX2 74 RX2 yX2_readGuest cX2_readGuest 4 (some .boolean) 1 := callV_of ml_X2_74 im_X2_readGuest se_X2_readGuest in_X2 co_X2_readGuest (by decide +kernel)
theorem kv_X2_69 : CallV RX2 69 RX2 yX2_readStep cX2_readStep 4 (some .boolean) 1 := callV_of ml_X2_69 im_X2_readStep se_X2_readStep in_X2 co_X2_readStep (by decide +kernel)
theorem kv_X2_64 : CallV RX2 64 RX2 yX2_readSalt cX2_readSalt 3 (some .boolean) 1 := callV_of ml_X2_64 im_X2_readSalt se_X2_readSalt in_X2 co_X2_readSalt (by decide +kernel)
theorem kv_X2_59 : CallV RX2 59 RX2 yX2_readClaim cX2_readClaim 4 (some .boolean) 1 := callV_of ml_X2_59 im_X2_readClaim se_X2_readClaim in_X2 co_X2_readClaim (by decide +kernel)
theorem kv_X2_50 : CallV RX2 50 RX2 yX2_readHead cX2_readHead 2 (some .boolean) 1 := callV_of ml_X2_50 im_X2_readHead se_X2_readHead in_X2 co_X2_readHead (by decide +kernel)
theorem kv_X2_39 : CallV RX2 39 RX2 yX2_readLine cX2_readLine 2 (some .boolean) 1 := callV_of ml_X2_39 im_X2_readLine se_X2_readLine in_X2 co_X2_readLine (by decide +kernel)
theorem kv_X2_43 : CallV RX2 43 RX2 yX2_readSign cX2_readSign 1 (some .boolean) 0 := callV_of ml_X2_43 im_X2_readSign se_X2_readSign in_X2 co_X2_readSign (by decide +kernel)
theorem kv_X2_22 : CallV RX2 22 RX6 yX6_clear cX6_clear 1 (none) 0 := callV_of ml_X2_22 im_X6_clear se_X6_clear in_X6 co_X6_clear (by decide +kernel)
theorem kv_X7_84 : CallV RX7 84 RX2 yX2_readTable cX2_readTable 3 (some .boolean) 1 := callV_of ml_X7_84 im_X2_readTable se_X2_readTable in_X2 co_X2_readTable (by decide +kernel)
end
section
def FD : Nat := 10
def fX7_bit (a0 : Int32) : Option (Int32) :=
  if a0 = 0 then some (0 : Int32) else some (1 : Int32)
def fX7_end (σ : St) (a1 : Int32) : Option (Int32 × St) :=
  if a1 < 0 then some ((-1 : Int32), σ) else if a1 ≤ (σ.1 1 1) then lt (setI σ 1 1 a1) (fun σ1 => some (a1, σ1)) else some ((-1 : Int32), σ)
def fX7_fault (σ : St) (a1 : Int32) : Option (Int32) :=
  if a1 = 0 then some (σ.1 1 2) else if a1 = 1 then some (σ.1 1 3) else some (-1 : Int32)
def fX7_greatestDivisor_B7 (kr7 : Int32 → Int32 → Int32 → Option (Int32)) (x2 : Int32) (x3 : Int32) (x4 : Int32) : Option (Int32) :=
  if (64 : Int32) ≤ x4 then some x2 else if x3 = 0 then some x2 else gd (¬ x3 = 0) (lt (x2 - x2 / x3 * x3) (fun v1 => lt x3 (fun v2 => lt v1 (fun v3 => lt (x4 + 1) (fun v4 => kr7 v2 v3 v4)))))
def fX7_greatestDivisor_l7 : Nat → Int32 → Int32 → Int32 → Option (Int32)
  | 0 => fun _ _ _ => none
  | n + 1 => fX7_greatestDivisor_B7 (fX7_greatestDivisor_l7 n)
def fX7_greatestDivisor (a0 : Int32) (a1 : Int32) : Option (Int32) :=
  lt a0 (fun v5 => lt a1 (fun v6 => lt (0 : Int32) (fun v7 => fX7_greatestDivisor_l7 FU v5 v6 v7)))
def fX7_isBit_b9 : Option (Int32) :=
  gd ((1 : Int32) = 0 ∨ (1 : Int32) = 1) (some (1 : Int32))
def fX7_isBit (a0 : Int32) : Option (Int32) :=
  if a0 = 0 then fX7_isBit_b9 else if a0 = (1 : Int32) then fX7_isBit_b9 else gd ((0 : Int32) = 0 ∨ (0 : Int32) = 1) (some (0 : Int32))
def fX7_isSeed (a0 : Int32) : Option (Int32) :=
  if a0 < 0 then gd ((0 : Int32) = 0 ∨ (0 : Int32) = 1) (some (0 : Int32)) else if (2000000000 : Int32) < a0 then gd ((0 : Int32) = 0 ∨ (0 : Int32) = 1) (some (0 : Int32)) else gd ((1 : Int32) = 0 ∨ (1 : Int32) = 1) (some (1 : Int32))
def fX7_isSlot (a0 : Int32) : Option (Int32) :=
  if a0 < 0 then gd ((0 : Int32) = 0 ∨ (0 : Int32) = 1) (some (0 : Int32)) else if (4 : Int32) ≤ a0 then gd ((0 : Int32) = 0 ∨ (0 : Int32) = 1) (some (0 : Int32)) else gd ((1 : Int32) = 0 ∨ (1 : Int32) = 1) (some (1 : Int32))
def fX7_rowsThere_B4 (σ : St) (kr4 : Int32 → Int32 → Option (Int32)) (x1 : Int32) (x2 : Int32) : Option (Int32) :=
  if (4 : Int32) ≤ x2 then some x1 else gd (ir x2 4) (lt (rowp x2.toNatClampNeg) (fun k1 => if (σ.1 k1 0) = 0 then lt (x2 + 1) (fun v2 => kr4 x1 v2) else lt (x1 + 1) (fun v3 => lt (x2 + 1) (fun v4 => kr4 v3 v4))))
def fX7_rowsThere_l4 (σ : St) : Nat → Int32 → Int32 → Option (Int32)
  | 0 => fun _ _ => none
  | n + 1 => fX7_rowsThere_B4 σ (fX7_rowsThere_l4 σ n)
def fX7_rowsThere (σ : St) : Option (Int32) :=
  lt (0 : Int32) (fun v5 => lt (0 : Int32) (fun v6 => fX7_rowsThere_l4 σ FU v5 v6))
def fX7_withBit (a0 : Int32) (a1 : Int32) (a2 : Int32) : Option (Int32) :=
  if a2 = (1 : Int32) then some (a0 ||| ((1 : Int32) <<< (a1 &&& 31))) else some (a0 &&& (((1 : Int32) <<< (a1 &&& 31)) ^^^ (-1 : Int32)))
def fX0_worldThatComes_b155 (t : Nat) (kr33 : St → Int32 → Int32 → Int32 → Option (Int32 × St)) (kr56 : St → Int32 → Int32 → Int32 → Int32 → Int32 → Option (Int32 × St)) (σ : St) (x2 : Int32) (x3 : Int32) (x4 : Int32) (x5 : Int32) (x6 : Int32) (x7 : Int32) (y1 : Int32) : Option (Int32 × St) :=
  gd (ir y1 16) (lt (setI σ 61 y1.toNatClampNeg x7) (fun σ1 => lt (x6 + 1) (fun v2 => kr56 σ1 x2 x3 x4 x5 v2)))
def fX0_worldThatComes_b132 (t : Nat) (kr33 : St → Int32 → Int32 → Int32 → Option (Int32 × St)) (kr56 : St → Int32 → Int32 → Int32 → Int32 → Int32 → Option (Int32 × St)) (σ : St) (x2 : Int32) (x3 : Int32) (x4 : Int32) (x5 : Int32) (x6 : Int32) (x7 : Int32) (x8 : Int32) (x9 : Int32) (y0 : Int32) : Option (Int32 × St) :=
  lt y0 (fun v3 => if x9 = 0 then if v3 = 0 then fX0_worldThatComes_b155 t kr33 kr56 σ x2 x3 x4 x5 x6 x7 x6 else gd (ir x6 16) (lt (setI σ 61 x6.toNatClampNeg x8) (fun σ4 => lt (x6 + 1) (fun v5 => kr56 σ4 x2 x3 x4 x5 v5))) else fX0_worldThatComes_b155 t kr33 kr56 σ x2 x3 x4 x5 x6 x7 x6)
def fX0_worldThatComes_b109 (t : Nat) (kr33 : St → Int32 → Int32 → Int32 → Option (Int32 × St)) (kr56 : St → Int32 → Int32 → Int32 → Int32 → Int32 → Option (Int32 × St)) (σ : St) (x2 : Int32) (x3 : Int32) (x4 : Int32) (x5 : Int32) (x6 : Int32) (x7 : Int32) (x8 : Int32) (y0 : Int32) : Option (Int32 × St) :=
  lt y0 (fun v6 => gd (ir x2 12) (if (((σ.1 (t + 2) x2.toNatClampNeg) >>> (x8 &&& 31)) &&& (1 : Int32)) = x5 then fX0_worldThatComes_b132 t kr33 kr56 σ x2 x3 x4 x5 x6 x7 x8 v6 (1 : Int32) else fX0_worldThatComes_b132 t kr33 kr56 σ x2 x3 x4 x5 x6 x7 x8 v6 (0 : Int32)))
def fX0_worldThatComes_B56 (t : Nat) (kr33 : St → Int32 → Int32 → Int32 → Option (Int32 × St)) (kr56 : St → Int32 → Int32 → Int32 → Int32 → Int32 → Option (Int32 × St)) (σ : St) (x2 : Int32) (x3 : Int32) (x4 : Int32) (x5 : Int32) (x6 : Int32) : Option (Int32 × St) :=
  if ((1 : Int32) <<< (x4 &&& 31)) ≤ x6 then lt (x4 + (-1)) (fun v7 => kr33 σ x2 x3 v7) else gd (ir x6 16) (lt (σ.1 61 x6.toNatClampNeg) (fun v8 => gd (ir (x6 ||| ((1 : Int32) <<< (x4 &&& 31))) 16) (lt (σ.1 61 (x6 ||| ((1 : Int32) <<< (x4 &&& 31))).toNatClampNeg) (fun v9 => gd (ir x2 12) (if (((σ.1 (t + 2) x2.toNatClampNeg) >>> (v8 &&& 31)) &&& (1 : Int32)) = x5 then fX0_worldThatComes_b109 t kr33 kr56 σ x2 x3 x4 x5 x6 v8 v9 (1 : Int32) else fX0_worldThatComes_b109 t kr33 kr56 σ x2 x3 x4 x5 x6 v8 v9 (0 : Int32))))))
def fX0_worldThatComes_l56 (t : Nat) (kr33 : St → Int32 → Int32 → Int32 → Option (Int32 × St)) : Nat → St → Int32 → Int32 → Int32 → Int32 → Int32 → Option (Int32 × St)
  | 0 => fun _ _ _ _ _ _ => none
  | n + 1 => fX0_worldThatComes_B56 t kr33 (fX0_worldThatComes_l56 t kr33 n)
def fX0_worldThatComes_b51 (t : Nat) (kr33 : St → Int32 → Int32 → Int32 → Option (Int32 × St)) (σ : St) (x2 : Int32) (x3 : Int32) (x4 : Int32) (y0 : Int32) : Option (Int32 × St) :=
  lt y0 (fun v10 => lt (0 : Int32) (fun v11 => fX0_worldThatComes_l56 t kr33 FU σ x2 x3 x4 v10 v11))
def fX0_worldThatComes_B33 (t : Nat) (kr33 : St → Int32 → Int32 → Int32 → Option (Int32 × St)) (σ : St) (x2 : Int32) (x3 : Int32) (x4 : Int32) : Option (Int32 × St) :=
  if x4 < 0 then gd (ir (0 : Int32) 16) (some ((σ.1 61 (0 : Int32).toNatClampNeg), σ)) else if (x4 &&& (1 : Int32)) = x3 then fX0_worldThatComes_b51 t kr33 σ x2 x3 x4 (1 : Int32) else fX0_worldThatComes_b51 t kr33 σ x2 x3 x4 (0 : Int32)
def fX0_worldThatComes_l33 (t : Nat) : Nat → St → Int32 → Int32 → Int32 → Option (Int32 × St)
  | 0 => fun _ _ _ _ => none
  | n + 1 => fX0_worldThatComes_B33 t (fX0_worldThatComes_l33 t n)
def fX0_worldThatComes_B3 (t : Nat) (kr3 : St → Int32 → Int32 → Int32 → Option (Int32 × St)) (σ : St) (x2 : Int32) (x3 : Int32) (x4 : Int32) : Option (Int32 × St) :=
  if (16 : Int32) ≤ x4 then lt ((σ.1 t 1) - (1 : Int32)) (fun v12 => fX0_worldThatComes_l33 t FU σ x2 x3 v12) else gd (ir x4 16) (lt (setI σ 61 x4.toNatClampNeg x4) (fun σ13 => lt (x4 + 1) (fun v14 => kr3 σ13 x2 x3 v14)))
def fX0_worldThatComes_l3 (t : Nat) : Nat → St → Int32 → Int32 → Int32 → Option (Int32 × St)
  | 0 => fun _ _ _ _ => none
  | n + 1 => fX0_worldThatComes_B3 t (fX0_worldThatComes_l3 t n)
def fX0_worldThatComes (σ : St) (t : Nat) (a2 : Int32) (a3 : Int32) : Option (Int32 × St) :=
  lt (0 : Int32) (fun v15 => fX0_worldThatComes_l3 t FU σ a2 a3 v15)
def fX1_give_b44 (σ : St) (x1 : Int32) (x3 : Int32) : Option (St) :=
  gd (ir x1 12) (lt (setI σ 56 x1.toNatClampNeg x3) (fun σ1 => some σ1))
def fX1_give (σ : St) (a1 : Int32) (a2 : Int32) (a3 : Int32) : Option (St) :=
  lt (setI σ 55 2 ((σ.1 55 2) ||| ((1 : Int32) <<< (a1 &&& 31)))) (fun σ2 => gd (ir a1 12) (gd (ir a1 12) (lt (setI σ2 57 a1.toNatClampNeg ((σ2.1 57 a1.toNatClampNeg) ||| ((1 : Int32) <<< (a2 &&& 31)))) (fun σ3 => gd (ir a1 12) (if (σ3.1 56 a1.toNatClampNeg) = (-1 : Int32) then fX1_give_b44 σ3 a1 a3 else gd (ir a1 12) (if (σ3.1 56 a1.toNatClampNeg) ≤ a3 then some σ3 else fX1_give_b44 σ3 a1 a3))))))
def fX1_open_B61 (t : Nat) (kr61 : St → Int32 → Option (St)) (σ : St) (x2 : Int32) : Option (St) :=
  if (5 : Int32) ≤ x2 then some σ else gd (ir x2 5) (lt (setI σ 58 x2.toNatClampNeg (0 : Int32)) (fun σ1 => gd (ir x2 5) (lt (setI σ1 59 x2.toNatClampNeg (0 : Int32)) (fun σ2 => lt (x2 + 1) (fun v3 => kr61 σ2 v3)))))
def fX1_open_l61 (t : Nat) : Nat → St → Int32 → Option (St)
  | 0 => fun _ _ => none
  | n + 1 => fX1_open_B61 t (fX1_open_l61 t n)
def fX1_open_b45 (t : Nat) (kr17 : St → Int32 → Option (St)) (σ : St) (x2 : Int32) (y1 : Int32) (y2 : Int32) : Option (St) :=
  gd (ir y1 12) (lt (setI σ 56 y1.toNatClampNeg y2) (fun σ4 => gd (ir x2 12) (lt (setI σ4 57 x2.toNatClampNeg (0 : Int32)) (fun σ5 => lt (x2 + 1) (fun v6 => kr17 σ5 v6)))))
def fX1_open_B17 (t : Nat) (kr17 : St → Int32 → Option (St)) (σ : St) (x2 : Int32) : Option (St) :=
  if (12 : Int32) ≤ x2 then lt (0 : Int32) (fun v7 => fX1_open_l61 t FU σ v7) else if (((σ.1 t 7) >>> (x2 &&& 31)) &&& (1 : Int32)) = (1 : Int32) then fX1_open_b45 t kr17 σ x2 x2 (0 : Int32) else fX1_open_b45 t kr17 σ x2 x2 (-1 : Int32)
def fX1_open_l17 (t : Nat) : Nat → St → Int32 → Option (St)
  | 0 => fun _ _ => none
  | n + 1 => fX1_open_B17 t (fX1_open_l17 t n)
def fX1_open (σ : St) (t : Nat) : Option (St) :=
  lt (setI σ 55 0 (0 : Int32)) (fun σ8 => lt (setI σ8 55 1 (0 : Int32)) (fun σ9 => lt (setI σ9 55 2 (0 : Int32)) (fun σ10 => lt (0 : Int32) (fun v11 => fX1_open_l17 t FU σ10 v11))))
def fX2_append_B3 (kr3 : St → Int32 → Int32 → Option (St)) (σ : St) (x1 : Int32) (x2 : Int32) : Option (St) :=
  if x2 < 0 then some σ else if (1600 : Int32) ≤ (σ.1 1 1) then some σ else gd (ir (σ.1 1 1) 1600) (lt (setI σ 2 (σ.1 1 1).toNatClampNeg ((x1 >>> (x2 &&& 31)).toInt8.toInt32).toInt8.toInt32) (fun σ1 => lt (setI σ1 1 1 ((σ1.1 1 1) + (1 : Int32))) (fun σ2 => lt (x2 + (-8)) (fun v3 => kr3 σ2 x1 v3))))
def fX2_append_l3 : Nat → St → Int32 → Int32 → Option (St)
  | 0 => fun _ _ _ => none
  | n + 1 => fX2_append_B3 (fX2_append_l3 n)
def fX2_append (σ : St) (a1 : Int32) : Option (St) :=
  lt (24 : Int32) (fun v4 => fX2_append_l3 FU σ a1 v4)
def fX2_fail (σ : St) (a1 : Int32) : Option (Int32 × St) :=
  lt (setI σ 1 2 a1) (fun σ1 => lt (setI σ1 1 3 (σ1.1 1 5)) (fun σ2 => gd ((0 : Int32) = 0 ∨ (0 : Int32) = 1) (some ((0 : Int32), σ2))))
def fX2_isNumberOf (σ : St) (a1 : Int32) : Option (Int32) :=
  if (σ.1 1 4) = (2 : Int32) then if a1 ≤ (σ.1 1 7) then gd ((0 : Int32) = 0 ∨ (0 : Int32) = 1) (some (0 : Int32)) else gd ((1 : Int32) = 0 ∨ (1 : Int32) = 1) (some (1 : Int32)) else gd ((0 : Int32) = 0 ∨ (0 : Int32) = 1) (some (0 : Int32))
def fX2_kindAt_b45 (σ : St) (x2 : Int32) : Option (Int32) :=
  if x2 = (59 : Int32) then some (3 : Int32) else some (4 : Int32)
def fX2_kindAt_b31 (σ : St) (x2 : Int32) : Option (Int32) :=
  if x2 < (48 : Int32) then fX2_kindAt_b45 σ x2 else if (57 : Int32) < x2 then fX2_kindAt_b45 σ x2 else some (2 : Int32)
def fX2_kindAt (σ : St) (a1 : Int32) : Option (Int32) :=
  if a1 < (σ.1 1 1) then gd (ir a1 1600) (lt (σ.1 2 a1.toNatClampNeg) (fun v1 => if v1 < (97 : Int32) then fX2_kindAt_b31 σ v1 else if (122 : Int32) < v1 then fX2_kindAt_b31 σ v1 else some (1 : Int32))) else some (0 : Int32)
def fX3_reasonAgainst (σ : St) (t : Nat) (a2 : Int32) : Option (Int32) :=
  gd (ir a2 12) (if ((σ.1 (t + 4) a2.toNatClampNeg) &&& ((σ.1 53 2) ^^^ (-1 : Int32))) = 0 then gd (ir a2 12) (if (((σ.1 53 2) >>> ((σ.1 (t + 3) a2.toNatClampNeg) &&& 31)) &&& (1 : Int32)) = (1 : Int32) then some (2 : Int32) else some (0 : Int32)) else some (1 : Int32))
def fX3_usedForAll_B5 (σ : St) (t : Nat) (kr5 : Int32 → Int32 → Int32 → Option (Int32)) (x2 : Int32) (x3 : Int32) (x4 : Int32) : Option (Int32) :=
  if (σ.1 t 4) ≤ x4 then some x3 else if ((x2 >>> (x4 &&& 31)) &&& (1 : Int32)) = (1 : Int32) then gd (ir x4 12) (lt (x3 ||| (σ.1 54 x4.toNatClampNeg)) (fun v2 => lt (x4 + 1) (fun v3 => kr5 x2 v2 v3))) else lt (x4 + 1) (fun v1 => kr5 x2 x3 v1)
def fX3_usedForAll_l5 (σ : St) (t : Nat) : Nat → Int32 → Int32 → Int32 → Option (Int32)
  | 0 => fun _ _ _ => none
  | n + 1 => fX3_usedForAll_B5 σ t (fX3_usedForAll_l5 σ t n)
def fX3_usedForAll (σ : St) (t : Nat) (a2 : Int32) : Option (Int32) :=
  lt (0 : Int32) (fun v4 => lt (0 : Int32) (fun v5 => fX3_usedForAll_l5 σ t FU a2 v4 v5))
def fX4_areAllBelow_B2 (σ : St) (w : Nat) (kr2 : Int32 → Int32 → Option (Int32)) (x1 : Int32) (x2 : Int32) : Option (Int32) :=
  if (σ.1 w 2) ≤ x2 then gd ((1 : Int32) = 0 ∨ (1 : Int32) = 1) (some (1 : Int32)) else gd (ir x2 60) (if (lg_cmp (σ.2 (w + 1) x2.toNatClampNeg) (0 : Int64)) < 0 then gd ((0 : Int32) = 0 ∨ (0 : Int32) = 1) (some (0 : Int32)) else gd (ir x2 60) (if (lg_cmp (σ.2 (w + 1) x2.toNatClampNeg) (x1.toInt64)) < 0 then lt (x2 + 1) (fun v1 => kr2 x1 v1) else gd ((0 : Int32) = 0 ∨ (0 : Int32) = 1) (some (0 : Int32))))
def fX4_areAllBelow_l2 (σ : St) (w : Nat) : Nat → Int32 → Int32 → Option (Int32)
  | 0 => fun _ _ => none
  | n + 1 => fX4_areAllBelow_B2 σ w (fX4_areAllBelow_l2 σ w n)
def fX4_areAllBelow (σ : St) (w : Nat) (a1 : Int32) : Option (Int32) :=
  lt (0 : Int32) (fun v2 => fX4_areAllBelow_l2 σ w FU a1 v2)
def fX4_arePairsBelow_b21 (σ : St) (w : Nat) (kr2 : Int32 → Int32 → Int32 → Option (Int32)) (x1 : Int32) (x2 : Int32) (x3 : Int32) (y0 : Int32) : Option (Int32) :=
  lt y0 (fun v1 => gd (ir x3 60) (if (lg_cmp (σ.2 (w + 1) x3.toNatClampNeg) (0 : Int64)) < 0 then gd ((0 : Int32) = 0 ∨ (0 : Int32) = 1) (some (0 : Int32)) else gd (ir x3 60) (if (lg_cmp (σ.2 (w + 1) x3.toNatClampNeg) (v1.toInt64)) < 0 then lt (x3 + 1) (fun v2 => kr2 x1 x2 v2) else gd ((0 : Int32) = 0 ∨ (0 : Int32) = 1) (some (0 : Int32)))))
def fX4_arePairsBelow_B2 (σ : St) (w : Nat) (kr2 : Int32 → Int32 → Int32 → Option (Int32)) (x1 : Int32) (x2 : Int32) (x3 : Int32) : Option (Int32) :=
  if (σ.1 w 2) ≤ x3 then if ((σ.1 w 2) &&& (1 : Int32)) = 0 then gd ((1 : Int32) = 0 ∨ (1 : Int32) = 1) (some (1 : Int32)) else gd ((0 : Int32) = 0 ∨ (0 : Int32) = 1) (some (0 : Int32)) else if (x3 &&& (1 : Int32)) = 0 then fX4_arePairsBelow_b21 σ w kr2 x1 x2 x3 x1 else fX4_arePairsBelow_b21 σ w kr2 x1 x2 x3 x2
def fX4_arePairsBelow_l2 (σ : St) (w : Nat) : Nat → Int32 → Int32 → Int32 → Option (Int32)
  | 0 => fun _ _ _ => none
  | n + 1 => fX4_arePairsBelow_B2 σ w (fX4_arePairsBelow_l2 σ w n)
def fX4_arePairsBelow (σ : St) (w : Nat) (a1 : Int32) (a2 : Int32) : Option (Int32) :=
  lt (0 : Int32) (fun v3 => fX4_arePairsBelow_l2 σ w FU a1 a2 v3)
def fX4_asSet_B4 (σ : St) (w : Nat) (kr4 : Int32 → Int32 → Option (Int32)) (x1 : Int32) (x2 : Int32) : Option (Int32) :=
  if (σ.1 w 2) ≤ x2 then some x1 else gd (ir x2 60) (lt (x1 ||| ((1 : Int32) <<< (((σ.2 (w + 1) x2.toNatClampNeg).toInt32) &&& 31))) (fun v1 => lt (x2 + 1) (fun v2 => kr4 v1 v2)))
def fX4_asSet_l4 (σ : St) (w : Nat) : Nat → Int32 → Int32 → Option (Int32)
  | 0 => fun _ _ => none
  | n + 1 => fX4_asSet_B4 σ w (fX4_asSet_l4 σ w n)
def fX4_asSet (σ : St) (w : Nat) : Option (Int32) :=
  lt (0 : Int32) (fun v3 => lt (0 : Int32) (fun v4 => fX4_asSet_l4 σ w FU v3 v4))
def fX4_begin_B17 (w : Nat) (kr17 : St → Int32 → Option (St)) (σ : St) (x3 : Int32) : Option (St) :=
  if (60 : Int32) ≤ x3 then some σ else gd (ir x3 60) (lt (setL σ (w + 1) x3.toNatClampNeg (0 : Int64)) (fun σ1 => lt (x3 + 1) (fun v2 => kr17 σ1 v2)))
def fX4_begin_l17 (w : Nat) : Nat → St → Int32 → Option (St)
  | 0 => fun _ _ => none
  | n + 1 => fX4_begin_B17 w (fX4_begin_l17 w n)
def fX4_begin (σ : St) (w : Nat) (a1 : Int32) (a2 : Int32) : Option (St) :=
  gd ((1 : Int32) = 0 ∨ (1 : Int32) = 1) (lt (setI σ w 0 (1 : Int32)) (fun σ3 => lt (setI σ3 w 1 a1) (fun σ4 => lt (setI σ4 w 2 a2) (fun σ5 => lt (0 : Int32) (fun v6 => fX4_begin_l17 w FU σ5 v6)))))
def fX4_cut (σ : St) (w : Nat) (a1 : Int64) : Option (Int64) :=
  if (σ.1 w 1) = 0 then some (((a1.toInt32).toInt8.toInt32).toInt64) else if (σ.1 w 1) = 1 then some (((a1.toInt32).toInt16.toInt32).toInt64) else if (σ.1 w 1) = 2 then some ((a1.toInt32).toInt64) else some a1
def fX5_isLeast_b22 (σ : St) (h : Nat) (kr2 : Int32 → Int32 → Int32 → Option (Int32)) (x1 : Int32) (x2 : Int32) (x3 : Int32) (y0 : Int32) : Option (Int32) :=
  lt y0 (fun v1 => if v1 = 0 then lt (x3 + 1) (fun v2 => kr2 x1 x2 v2) else gd (ir (x1 &&& (((1 : Int32) <<< (x3 &&& 31)) ^^^ (-1 : Int32))) 4096) (if (((σ.1 (h + 1) (x1 &&& (((1 : Int32) <<< (x3 &&& 31)) ^^^ (-1 : Int32))).toNatClampNeg) >>> (x2 &&& 31)) &&& (1 : Int32)) = (1 : Int32) then gd ((0 : Int32) = 0 ∨ (0 : Int32) = 1) (some (0 : Int32)) else lt (x3 + 1) (fun v3 => kr2 x1 x2 v3)))
def fX5_isLeast_B2 (σ : St) (h : Nat) (kr2 : Int32 → Int32 → Int32 → Option (Int32)) (x1 : Int32) (x2 : Int32) (x3 : Int32) : Option (Int32) :=
  if (12 : Int32) ≤ x3 then gd ((1 : Int32) = 0 ∨ (1 : Int32) = 1) (some (1 : Int32)) else if ((x1 >>> (x3 &&& 31)) &&& (1 : Int32)) = (1 : Int32) then fX5_isLeast_b22 σ h kr2 x1 x2 x3 (1 : Int32) else fX5_isLeast_b22 σ h kr2 x1 x2 x3 (0 : Int32)
def fX5_isLeast_l2 (σ : St) (h : Nat) : Nat → Int32 → Int32 → Int32 → Option (Int32)
  | 0 => fun _ _ _ => none
  | n + 1 => fX5_isLeast_B2 σ h (fX5_isLeast_l2 σ h n)
def fX5_isLeast (σ : St) (h : Nat) (a1 : Int32) (a2 : Int32) : Option (Int32) :=
  lt (0 : Int32) (fun v4 => fX5_isLeast_l2 σ h FU a1 a2 v4)
def fX5_subsetBehind (a0 : Int32) (a1 : Int32) : Option (Int32) :=
  some ((a0 - a1) &&& a1)
def fX5_withoutLowest (a0 : Int32) : Option (Int32) :=
  some (a0 &&& (a0 - (1 : Int32)))
def fX6_addStep (σ : St) (t : Nat) (a1 : Int32) (a2 : Int32) : Option (St) :=
  if (12 : Int32) ≤ (σ.1 t 5) then some σ else gd (ir (σ.1 t 5) 12) (lt (setI σ (t + 3) (σ.1 t 5).toNatClampNeg a1) (fun σ1 => gd (ir (σ1.1 t 5) 12) (lt (setI σ1 (t + 4) (σ1.1 t 5).toNatClampNeg a2) (fun σ2 => lt (setI σ2 t 5 ((σ2.1 t 5) + (1 : Int32))) (fun σ3 => some σ3)))))
def fX6_allSteps (σ : St) (t : Nat) : Option (Int32) :=
  some (((1 : Int32) <<< ((σ.1 t 5) &&& 31)) - (1 : Int32))
def fX6_allWorlds (σ : St) (t : Nat) : Option (Int32) :=
  some (((1 : Int32) <<< (((1 : Int32) <<< ((σ.1 t 1) &&& 31)) &&& 31)) - (1 : Int32))
def fX6_canDo (σ : St) (t : Nat) (a1 : Int32) : Option (Int32) :=
  gd (ir a1 5) (if (σ.1 (t + 5) a1.toNatClampNeg) ≤ 0 then some (0 : Int32) else gd (ir a1 5) (gd (¬ (σ.1 (t + 5) a1.toNatClampNeg) = 0) (some ((σ.1 t 2) / (σ.1 (t + 5) a1.toNatClampNeg)))))
def fX6_claimsHoldingIn_B4 (σ : St) (t : Nat) (kr4 : Int32 → Int32 → Int32 → Option (Int32)) (x1 : Int32) (x2 : Int32) (x3 : Int32) : Option (Int32) :=
  if (σ.1 t 4) ≤ x3 then some x2 else gd (ir x3 12) (if (σ.1 (t + 2) x3.toNatClampNeg) = x1 then lt (x2 ||| ((1 : Int32) <<< (x3 &&& 31))) (fun v2 => lt (x3 + 1) (fun v3 => kr4 x1 v2 v3)) else lt (x3 + 1) (fun v1 => kr4 x1 x2 v1))
def fX6_claimsHoldingIn_l4 (σ : St) (t : Nat) : Nat → Int32 → Int32 → Int32 → Option (Int32)
  | 0 => fun _ _ _ => none
  | n + 1 => fX6_claimsHoldingIn_B4 σ t (fX6_claimsHoldingIn_l4 σ t n)
def fX6_claimsHoldingIn (σ : St) (t : Nat) (a1 : Int32) : Option (Int32) :=
  lt (0 : Int32) (fun v4 => lt (0 : Int32) (fun v5 => fX6_claimsHoldingIn_l4 σ t FU a1 v4 v5))
def fX6_clear (σ : St) (t : Nat) : Option (St) :=
  lt (setI σ t 0 (0 : Int32)) (fun σ1 => lt (setI σ1 t 1 (0 : Int32)) (fun σ2 => lt (setI σ2 t 2 (0 : Int32)) (fun σ3 => lt (setI σ3 t 3 (0 : Int32)) (fun σ4 => lt (setI σ4 t 4 (0 : Int32)) (fun σ5 => lt (setI σ5 t 5 (0 : Int32)) (fun σ6 => lt (setI σ6 t 6 (0 : Int32)) (fun σ7 => lt (setI σ7 t 7 (0 : Int32)) (fun σ8 => some σ8))))))))
def fX6_dropStep_B19 (t : Nat) (kr19 : St → Int32 → Option (St)) (σ : St) (x1 : Int32) : Option (St) :=
  if (σ.1 t 6) ≤ x1 then some σ else gd (ir x1 5) (gd (ir x1 5) (lt (setI σ (t + 6) x1.toNatClampNeg ((σ.1 (t + 6) x1.toNatClampNeg) &&& (((1 : Int32) <<< ((σ.1 t 5) &&& 31)) ^^^ (-1 : Int32)))) (fun σ1 => lt (x1 + 1) (fun v2 => kr19 σ1 v2))))
def fX6_dropStep_l19 (t : Nat) : Nat → St → Int32 → Option (St)
  | 0 => fun _ _ => none
  | n + 1 => fX6_dropStep_B19 t (fX6_dropStep_l19 t n)
def fX6_dropStep (σ : St) (t : Nat) : Option (St) :=
  if (σ.1 t 5) ≤ 0 then some σ else lt (setI σ t 5 ((σ.1 t 5) - (1 : Int32))) (fun σ3 => lt (0 : Int32) (fun v4 => fX6_dropStep_l19 t FU σ3 v4))
def fX6_goes (σ : St) (t : Nat) (a1 : Int32) (a2 : Int32) : Option (Int32) :=
  gd (ir a1 12) (if ((σ.1 (t + 4) a1.toNatClampNeg) &&& (a2 ^^^ (-1 : Int32))) = 0 then gd (ir a1 12) (if ((a2 >>> ((σ.1 (t + 3) a1.toNatClampNeg) &&& 31)) &&& (1 : Int32)) = 0 then gd ((1 : Int32) = 0 ∨ (1 : Int32) = 1) (some (1 : Int32)) else gd ((0 : Int32) = 0 ∨ (0 : Int32) = 1) (some (0 : Int32))) else gd ((0 : Int32) = 0 ∨ (0 : Int32) = 1) (some (0 : Int32)))
def fX6_hasClaim (σ : St) (t : Nat) (a1 : Int32) : Option (Int32) :=
  if a1 < 0 then gd ((0 : Int32) = 0 ∨ (0 : Int32) = 1) (some (0 : Int32)) else if (σ.1 t 4) ≤ a1 then gd ((0 : Int32) = 0 ∨ (0 : Int32) = 1) (some (0 : Int32)) else gd ((1 : Int32) = 0 ∨ (1 : Int32) = 1) (some (1 : Int32))
def fX6_hasGuest (σ : St) (t : Nat) (a1 : Int32) : Option (Int32) :=
  if a1 < 0 then gd ((0 : Int32) = 0 ∨ (0 : Int32) = 1) (some (0 : Int32)) else if (σ.1 t 6) ≤ a1 then gd ((0 : Int32) = 0 ∨ (0 : Int32) = 1) (some (0 : Int32)) else gd ((1 : Int32) = 0 ∨ (1 : Int32) = 1) (some (1 : Int32))
def fX6_hasStep (σ : St) (t : Nat) (a1 : Int32) : Option (Int32) :=
  if a1 < 0 then gd ((0 : Int32) = 0 ∨ (0 : Int32) = 1) (some (0 : Int32)) else if (σ.1 t 5) ≤ a1 then gd ((0 : Int32) = 0 ∨ (0 : Int32) = 1) (some (0 : Int32)) else gd ((1 : Int32) = 0 ∨ (1 : Int32) = 1) (some (1 : Int32))
def fX6_holedSteps_B9 (σ : St) (t : Nat) (kr9 : Int64 → Int32 → Int32 → Option (Int32)) (x2 : Int64) (x4 : Int32) (x5 : Int32) : Option (Int32) :=
  if (σ.1 t 5) ≤ x5 then some x4 else gd (¬ (2147483648 : Int64) = 0) (lt ((((1103515245 : Int64) * x2) + (12345 : Int64)) - (((1103515245 : Int64) * x2) + (12345 : Int64)) / (2147483648 : Int64) * (2147483648 : Int64)) (fun v1 => gd (¬ (65536 : Int64) = 0) (gd (¬ (100 : Int64) = 0) (if 0 ≤ (lg_cmp ((v1 / (65536 : Int64)) - (v1 / (65536 : Int64)) / (100 : Int64) * (100 : Int64)) ((σ.1 t 3).toInt64)) then lt (x5 + 1) (fun v2 => kr9 v1 x4 v2) else lt (x4 ||| ((1 : Int32) <<< (x5 &&& 31))) (fun v3 => lt (x5 + 1) (fun v4 => kr9 v1 v3 v4))))))
def fX6_holedSteps_l9 (σ : St) (t : Nat) : Nat → Int64 → Int32 → Int32 → Option (Int32)
  | 0 => fun _ _ _ => none
  | n + 1 => fX6_holedSteps_B9 σ t (fX6_holedSteps_l9 σ t n)
def fX6_holedSteps (σ : St) (t : Nat) (a1 : Int32) : Option (Int32) :=
  lt (a1.toInt64) (fun v5 => lt (0 : Int32) (fun v6 => lt (0 : Int32) (fun v7 => fX6_holedSteps_l9 σ t FU v5 v6 v7)))
def fX6_isTold (σ : St) (t : Nat) : Option (Int32) :=
  if (σ.1 t 0) ≤ 0 then gd ((0 : Int32) = 0 ∨ (0 : Int32) = 1) (some (0 : Int32)) else gd ((1 : Int32) = 0 ∨ (1 : Int32) = 1) (some (1 : Int32))
def fX6_teamKnows_B4 (σ : St) (t : Nat) (kr4 : Int32 → Int32 → Int32 → Option (Int32)) (x1 : Int32) (x2 : Int32) (x3 : Int32) : Option (Int32) :=
  if (σ.1 t 6) ≤ x3 then some x2 else if ((x1 >>> (x3 &&& 31)) &&& (1 : Int32)) = (1 : Int32) then gd (ir x3 5) (lt (x2 ||| (σ.1 (t + 6) x3.toNatClampNeg)) (fun v2 => lt (x3 + 1) (fun v3 => kr4 x1 v2 v3))) else lt (x3 + 1) (fun v1 => kr4 x1 x2 v1)
def fX6_teamKnows_l4 (σ : St) (t : Nat) : Nat → Int32 → Int32 → Int32 → Option (Int32)
  | 0 => fun _ _ _ => none
  | n + 1 => fX6_teamKnows_B4 σ t (fX6_teamKnows_l4 σ t n)
def fX6_teamKnows (σ : St) (t : Nat) (a1 : Int32) : Option (Int32) :=
  lt (0 : Int32) (fun v4 => lt (0 : Int32) (fun v5 => fX6_teamKnows_l4 σ t FU a1 v4 v5))
def fX6_worldsOfAtom_B4 (σ : St) (t : Nat) (kr4 : Int32 → Int32 → Int32 → Option (Int32)) (x1 : Int32) (x2 : Int32) (x3 : Int32) : Option (Int32) :=
  if ((1 : Int32) <<< ((σ.1 t 1) &&& 31)) ≤ x3 then some x2 else if ((x3 >>> (x1 &&& 31)) &&& (1 : Int32)) = (1 : Int32) then lt (x2 ||| ((1 : Int32) <<< (x3 &&& 31))) (fun v2 => lt (x3 + 1) (fun v3 => kr4 x1 v2 v3)) else lt (x3 + 1) (fun v1 => kr4 x1 x2 v1)
def fX6_worldsOfAtom_l4 (σ : St) (t : Nat) : Nat → Int32 → Int32 → Int32 → Option (Int32)
  | 0 => fun _ _ _ => none
  | n + 1 => fX6_worldsOfAtom_B4 σ t (fX6_worldsOfAtom_l4 σ t n)
def fX6_worldsOfAtom (σ : St) (t : Nat) (a1 : Int32) : Option (Int32) :=
  lt (0 : Int32) (fun v4 => lt (0 : Int32) (fun v5 => fX6_worldsOfAtom_l4 σ t FU a1 v4 v5))
def fX6_worthOf_B4 (σ : St) (t : Nat) (kr4 : Int32 → Int32 → Int32 → Option (Int32)) (x1 : Int32) (x2 : Int32) (x3 : Int32) : Option (Int32) :=
  if (σ.1 t 4) ≤ x3 then some x2 else if ((x1 >>> (x3 &&& 31)) &&& (1 : Int32)) = (1 : Int32) then gd (ir x3 12) (lt (x2 + (σ.1 (t + 1) x3.toNatClampNeg)) (fun v2 => lt (x3 + 1) (fun v3 => kr4 x1 v2 v3))) else lt (x3 + 1) (fun v1 => kr4 x1 x2 v1)
def fX6_worthOf_l4 (σ : St) (t : Nat) : Nat → Int32 → Int32 → Int32 → Option (Int32)
  | 0 => fun _ _ _ => none
  | n + 1 => fX6_worthOf_B4 σ t (fX6_worthOf_l4 σ t n)
def fX6_worthOf (σ : St) (t : Nat) (a1 : Int32) : Option (Int32) :=
  lt (0 : Int32) (fun v4 => lt (0 : Int32) (fun v5 => fX6_worthOf_l4 σ t FU a1 v4 v5))
def fX8_allClaims (σ : St) : Option (Int32) :=
  gd (ir (3 : Int32) 70) (some (((1 : Int32) <<< ((σ.1 63 (3 : Int32).toNatClampNeg) &&& 31)) - (1 : Int32)))
def fX8_allGuests (σ : St) : Option (Int32) :=
  gd (ir (5 : Int32) 70) (some (((1 : Int32) <<< ((σ.1 63 (5 : Int32).toNatClampNeg) &&& 31)) - (1 : Int32)))
def fX8_allSteps (σ : St) : Option (Int32) :=
  gd (ir (4 : Int32) 70) (some (((1 : Int32) <<< ((σ.1 63 (4 : Int32).toNatClampNeg) &&& 31)) - (1 : Int32)))
def fX8_bit (a0 : Int32) (a1 : Int32) : Option (Int32) :=
  some ((a0 >>> (a1 &&& 31)) &&& (1 : Int32))
def fX8_bits (a0 : Int32) : Option (Int32) :=
  lt (a0 - (((a0.toUInt32 >>> ((1 : Int32).toUInt32 &&& Int32.toUInt32 31)).toInt32) &&& (1431655765 : Int32))) (fun v1 => lt ((v1 &&& (858993459 : Int32)) + (((v1.toUInt32 >>> ((2 : Int32).toUInt32 &&& Int32.toUInt32 31)).toInt32) &&& (858993459 : Int32))) (fun v2 => some (((((v2 + ((v2.toUInt32 >>> ((4 : Int32).toUInt32 &&& Int32.toUInt32 31)).toInt32)) &&& (252645135 : Int32)) * (16843009 : Int32)).toUInt32 >>> ((24 : Int32).toUInt32 &&& Int32.toUInt32 31)).toInt32)))
def fX8_count_b130 (σ : St) (kr109 : Int32 → Int32 → Option (Int32)) (x3 : Int32) (y0 : Int32) (y1 : Int32) : Option (Int32) :=
  lt (y0 + y1) (fun v1 => lt (x3 + 1) (fun v2 => kr109 v1 v2))
def fX8_count_B109 (σ : St) (kr109 : Int32 → Int32 → Option (Int32)) (x2 : Int32) (x3 : Int32) : Option (Int32) :=
  if (4 : Int32) ≤ x3 then some x2 else gd (ir x3 4) (if (σ.1 78 x3.toNatClampNeg) = (-1 : Int32) then fX8_count_b130 σ kr109 x3 x2 (0 : Int32) else fX8_count_b130 σ kr109 x3 x2 (1 : Int32))
def fX8_count_l109 (σ : St) : Nat → Int32 → Int32 → Option (Int32)
  | 0 => fun _ _ => none
  | n + 1 => fX8_count_B109 σ (fX8_count_l109 σ n)
def fX8_count (σ : St) (a1 : Int32) : Option (Int32) :=
  lt (0 : Int32) (fun v3 => if a1 = 0 then gd (ir (0 : Int32) 70) (some (σ.1 63 (0 : Int32).toNatClampNeg)) else if a1 = 1 then gd (ir (1 : Int32) 70) (some (σ.1 63 (1 : Int32).toNatClampNeg)) else if a1 = 2 then gd (ir (2 : Int32) 70) (some (σ.1 63 (2 : Int32).toNatClampNeg)) else if a1 = 3 then gd (ir (3 : Int32) 70) (some (σ.1 63 (3 : Int32).toNatClampNeg)) else if a1 = 4 then gd (ir (4 : Int32) 70) (some (σ.1 63 (4 : Int32).toNatClampNeg)) else if a1 = 5 then gd (ir (5 : Int32) 70) (some (σ.1 63 (5 : Int32).toNatClampNeg)) else if a1 = 6 then gd (ir (6 : Int32) 70) (some (σ.1 63 (6 : Int32).toNatClampNeg)) else if a1 = 7 then some (σ.1 62 5) else if a1 = 8 then lt (0 : Int32) (fun v4 => fX8_count_l109 σ FU v3 v4) else some (-1 : Int32))
def fX8_cut (a0 : Int64) (a2 : Int32) : Option (Int64) :=
  lt ((64 : Int32) - ((8 : Int32) <<< (a2 &&& 31))) (fun v1 => some ((a0 <<< (v1.toInt64 &&& 63)) >>> (v1.toInt64 &&& 63)))
def fX8_divisor_B4 (kr4 : Int32 → Int32 → Option (Int32)) (x2 : Int32) (x3 : Int32) : Option (Int32) :=
  if x3 = 0 then some x2 else gd (¬ x3 = 0) (lt (x2 - x2 / x3 * x3) (fun v1 => lt x3 (fun v2 => lt v1 (fun v3 => kr4 v2 v3))))
def fX8_divisor_l4 : Nat → Int32 → Int32 → Option (Int32)
  | 0 => fun _ _ => none
  | n + 1 => fX8_divisor_B4 (fX8_divisor_l4 n)
def fX8_divisor (a0 : Int32) (a1 : Int32) : Option (Int32) :=
  lt a0 (fun v4 => lt a1 (fun v5 => fX8_divisor_l4 FU v4 v5))
def fX8_fault (σ : St) (a1 : Int32) : Option (Int32) :=
  if a1 = 0 then some (σ.1 62 12) else if a1 = (1 : Int32) then some (σ.1 62 13) else some (-1 : Int32)
def fX8_feed_B55 (kr55 : St → Int32 → Option (Int32 × St)) (σ : St) (x6 : Int32) : Option (Int32 × St) :=
  if (20 : Int32) ≤ x6 then lt (setI σ 62 5 ((σ.1 62 5) + (20 : Int32))) (fun σ1 => some ((σ1.1 62 5), σ1)) else gd (¬ (4 : Int32) = 0) (gd (ir (x6 / (4 : Int32)) 5) (gd (¬ (4 : Int32) = 0) (gd (ir ((σ.1 62 5) + x6) 1600) (lt (setI σ 66 ((σ.1 62 5) + x6).toNatClampNeg (((σ.1 67 (x6 / (4 : Int32)).toNatClampNeg) >>> (((24 : Int32) - ((8 : Int32) * (x6 - x6 / (4 : Int32) * (4 : Int32)))) &&& 31)).toInt8.toInt32).toInt8.toInt32) (fun σ2 => lt (x6 + 1) (fun v3 => kr55 σ2 v3))))))
def fX8_feed_l55 : Nat → St → Int32 → Option (Int32 × St)
  | 0 => fun _ _ => none
  | n + 1 => fX8_feed_B55 (fX8_feed_l55 n)
def fX8_feed (σ : St) (a1 : Int32) (a2 : Int32) (a3 : Int32) (a4 : Int32) (a5 : Int32) : Option (Int32 × St) :=
  if ((σ.1 62 5) + (20 : Int32)) ≤ (1600 : Int32) then gd (ir (0 : Int32) 5) (lt (setI σ 67 (0 : Int32).toNatClampNeg a1) (fun σ4 => gd (ir (1 : Int32) 5) (lt (setI σ4 67 (1 : Int32).toNatClampNeg a2) (fun σ5 => gd (ir (2 : Int32) 5) (lt (setI σ5 67 (2 : Int32).toNatClampNeg a3) (fun σ6 => gd (ir (3 : Int32) 5) (lt (setI σ6 67 (3 : Int32).toNatClampNeg a4) (fun σ7 => gd (ir (4 : Int32) 5) (lt (setI σ7 67 (4 : Int32).toNatClampNeg a5) (fun σ8 => lt (0 : Int32) (fun v9 => fX8_feed_l55 FU σ8 v9))))))))))) else some ((-1 : Int32), σ)
def fX8_freshAll (σ : St) : Option (Int32) :=
  gd (ir (0 : Int32) 70) (some (((1 : Int32) <<< (((1 : Int32) <<< ((σ.1 68 (0 : Int32).toNatClampNeg) &&& 31)) &&& 31)) - (1 : Int32)))
def fX8_good (σ : St) : Option (Int32) :=
  if (σ.1 62 12) = 0 then gd ((1 : Int32) = 0 ∨ (1 : Int32) = 1) (some (1 : Int32)) else gd ((0 : Int32) = 0 ∨ (0 : Int32) = 1) (some (0 : Int32))
def fX8_holesBy_b63 (σ : St) (kr8 : Int64 → Int32 → Int32 → Option (Int32)) (x3 : Int64) (x6 : Int32) (y0 : Int32) (y1 : Int32) : Option (Int32) :=
  lt (y0 ||| y1) (fun v1 => lt (x6 + 1) (fun v2 => kr8 x3 v1 v2))
def fX8_holesBy_B8 (σ : St) (kr8 : Int64 → Int32 → Int32 → Option (Int32)) (x3 : Int64) (x5 : Int32) (x6 : Int32) : Option (Int32) :=
  gd (ir (4 : Int32) 70) (if (σ.1 63 (4 : Int32).toNatClampNeg) ≤ x6 then some x5 else gd (¬ (2147483648 : Int64) = 0) (lt ((((1103515245 : Int64) * x3) + (12345 : Int64)) - (((1103515245 : Int64) * x3) + (12345 : Int64)) / (2147483648 : Int64) * (2147483648 : Int64)) (fun v3 => gd (¬ (65536 : Int64) = 0) (gd (¬ (100 : Int64) = 0) (gd (ir (2 : Int32) 70) (if 0 ≤ (lg_cmp ((v3 / (65536 : Int64)) - (v3 / (65536 : Int64)) / (100 : Int64) * (100 : Int64)) ((σ.1 63 (2 : Int32).toNatClampNeg).toInt64)) then fX8_holesBy_b63 σ kr8 v3 x6 x5 (0 : Int32) else fX8_holesBy_b63 σ kr8 v3 x6 x5 ((1 : Int32) <<< (x6 &&& 31))))))))
def fX8_holesBy_l8 (σ : St) : Nat → Int64 → Int32 → Int32 → Option (Int32)
  | 0 => fun _ _ _ => none
  | n + 1 => fX8_holesBy_B8 σ (fX8_holesBy_l8 σ n)
def fX8_holesBy (σ : St) (a1 : Int64) : Option (Int32) :=
  lt a1 (fun v4 => lt (0 : Int32) (fun v5 => lt (0 : Int32) (fun v6 => fX8_holesBy_l8 σ FU v4 v5 v6)))
def fX8_in (a0 : Int64) (a2 : Int64) (a4 : Int64) : Option (Int32) :=
  if (lg_cmp a0 a2) < 0 then gd ((0 : Int32) = 0 ∨ (0 : Int32) = 1) (some (0 : Int32)) else if 0 < (lg_cmp a0 a4) then gd ((0 : Int32) = 0 ∨ (0 : Int32) = 1) (some (0 : Int32)) else gd ((1 : Int32) = 0 ∨ (1 : Int32) = 1) (some (1 : Int32))
def fX8_isTable (σ : St) : Option (Int32) :=
  gd (ir (6 : Int32) 70) (if (σ.1 63 (6 : Int32).toNatClampNeg) ≤ 0 then gd ((0 : Int32) = 0 ∨ (0 : Int32) = 1) (some (0 : Int32)) else gd ((1 : Int32) = 0 ∨ (1 : Int32) = 1) (some (1 : Int32)))
def fX8_mine (a0 : Int32) : Option (Int32) :=
  if 0 ≤ a0 then some ((-a0) + (1 : Int32)) else some ((-a0) - (1 : Int32))
def fX8_numberAt (σ : St) (a1 : Int32) (a2 : Int32) : Option (Int64) :=
  gd (ir (((60 : Int32) * a1) + a2) 240) (some (σ.2 80 (((60 : Int32) * a1) + a2).toNatClampNeg))
def fX8_ofClaim (σ : St) (a1 : Int32) (a2 : Int32) : Option (Int32) :=
  gd (ir (((7 : Int32) + ((3 : Int32) * a1)) + a2) 70) (some (σ.1 63 (((7 : Int32) + ((3 : Int32) * a1)) + a2).toNatClampNeg))
def fX8_ofGuest (σ : St) (a1 : Int32) (a2 : Int32) : Option (Int32) :=
  gd (ir (((67 : Int32) + ((2 : Int32) * a1)) + a2) 70) (some (σ.1 63 (((67 : Int32) + ((2 : Int32) * a1)) + a2).toNatClampNeg))
def fX8_ofStep (σ : St) (a1 : Int32) (a2 : Int32) : Option (Int32) :=
  gd (ir (((43 : Int32) + ((2 : Int32) * a1)) + a2) 70) (some (σ.1 63 (((43 : Int32) + ((2 : Int32) * a1)) + a2).toNatClampNeg))
def fX8_see (σ : St) (a1 : Int32) : Option (Int32) :=
  if (σ.1 62 7) ≤ a1 then some (-1 : Int32) else gd (ir a1 1600) (some ((σ.1 66 a1.toNatClampNeg) &&& (255 : Int32)))
def fX8_worlds (σ : St) : Option (Int32) :=
  gd (ir (0 : Int32) 70) (some ((1 : Int32) <<< ((σ.1 63 (0 : Int32).toNatClampNeg) &&& 31)))
def fJ6_bitCount_0f7a4 (a0 : Int32) : Option (Int32) :=
  lt (a0 - (((a0.toUInt32 >>> ((1 : Int32).toUInt32 &&& Int32.toUInt32 31)).toInt32) &&& (1431655765 : Int32))) (fun v1 => lt ((v1 &&& (858993459 : Int32)) + (((v1.toUInt32 >>> ((2 : Int32).toUInt32 &&& Int32.toUInt32 31)).toInt32) &&& (858993459 : Int32))) (fun v2 => lt ((v2 + ((v2.toUInt32 >>> ((4 : Int32).toUInt32 &&& Int32.toUInt32 31)).toInt32)) &&& (252645135 : Int32)) (fun v3 => lt (v3 + ((v3.toUInt32 >>> ((8 : Int32).toUInt32 &&& Int32.toUInt32 31)).toInt32)) (fun v4 => lt (v4 + ((v4.toUInt32 >>> ((16 : Int32).toUInt32 &&& Int32.toUInt32 31)).toInt32)) (fun v5 => some (v5 &&& (63 : Int32)))))))
def fX7_alike (σ : St) (a1 : Int32) : Option (Int32) :=
  bp (fX6_hasClaim σ 3 a1) (fun r1 => if r1 = 0 then some (-2 : Int32) else gd (ir a1 12) (bp (fX6_claimsHoldingIn σ 3 (σ.1 (3 + 2) a1.toNatClampNeg)) (fun r2 => some (r2 &&& (((1 : Int32) <<< (a1 &&& 31)) ^^^ (-1 : Int32))))))
def fX7_claim (σ : St) (a1 : Int32) (a2 : Int32) : Option (Int32) :=
  bp (fX6_hasClaim σ 3 a1) (fun r1 => if r1 = 0 then some (-2 : Int32) else if a2 = 0 then gd (ir a1 12) (some (σ.1 (3 + 1) a1.toNatClampNeg)) else if a2 = 1 then some (((σ.1 3 7) >>> (a1 &&& 31)) &&& (1 : Int32)) else if a2 = 2 then gd (ir a1 12) (bp (fJ6_bitCount_0f7a4 (σ.1 (3 + 2) a1.toNatClampNeg)) (fun r2 => some r2)) else some (-2 : Int32))
def fX7_claims (σ : St) (a1 : Int32) (a2 : Int32) : Option (Int32 × St) :=
  bp (fX6_hasClaim σ 3 a1) (fun r1 => if r1 = 0 then some ((-2 : Int32), σ) else bp (fX7_isBit a2) (fun r2 => if r2 = 0 then some ((-2 : Int32), σ) else gd (ir a1 12) (bs (fX0_worldThatComes σ 3 a1 a2) (fun r3 σ4 => some ((((σ.1 (3 + 2) a1.toNatClampNeg) >>> (r3 &&& 31)) &&& (1 : Int32)), σ4)))))
def fX7_count (σ : St) (a1 : Int32) : Option (Int32) :=
  if a1 = 0 then some (σ.1 3 1) else if a1 = 1 then some (σ.1 3 2) else if a1 = 2 then some (σ.1 3 3) else if a1 = 3 then some (σ.1 3 4) else if a1 = 4 then some (σ.1 3 5) else if a1 = 5 then some (σ.1 3 6) else if a1 = 6 then some (σ.1 3 0) else if a1 = 7 then some (σ.1 1 1) else if a1 = 8 then bp (fX7_rowsThere σ) (fun r1 => some r1) else some (-1 : Int32)
def fX7_drawn (σ : St) (a1 : Int32) : Option (Int32) :=
  bp (fX6_isTold σ 3) (fun r1 => if r1 = 0 then some (-2 : Int32) else bp (fX7_isSeed a1) (fun r2 => if r2 = 0 then some (-2 : Int32) else bp (fX6_holedSteps σ 3 a1) (fun r3 => some r3)))
def fX7_drops (σ : St) : Option (Int32 × St) :=
  bp (fX6_isTold σ 3) (fun r1 => if r1 = 0 then some ((-2 : Int32), σ) else if (σ.1 3 5) = 0 then some ((-5 : Int32), σ) else bp (fX6_dropStep σ 3) (fun σ2 => gd ((1 : Int32) = 0 ∨ (1 : Int32) = 1) (lt (setI σ2 0 7 (1 : Int32)) (fun σ3 => some ((σ3.1 3 5), σ3)))))
def fX7_entails_b54 (σ : St) (y0 : Int32) : Option (Int32) :=
  bp (fX7_bit y0) (fun r1 => some r1)
def fX7_entails (σ : St) (a1 : Int32) (a2 : Int32) : Option (Int32) :=
  bp (fX6_hasClaim σ 3 a1) (fun r2 => if r2 = 0 then some (-2 : Int32) else bp (fX6_hasClaim σ 3 a2) (fun r3 => if r3 = 0 then some (-2 : Int32) else gd (ir a2 12) (gd (ir a1 12) (if ((σ.1 (3 + 2) a2.toNatClampNeg) &&& ((σ.1 (3 + 2) a1.toNatClampNeg) ^^^ (-1 : Int32))) = 0 then fX7_entails_b54 σ (1 : Int32) else fX7_entails_b54 σ (0 : Int32)))))
def fX7_feed (σ : St) (a1 : Int32) (a2 : Int32) (a3 : Int32) (a4 : Int32) (a5 : Int32) : Option (Int32 × St) :=
  if ((σ.1 1 1) + (20 : Int32)) ≤ (1600 : Int32) then bp (fX2_append σ a1) (fun σ1 => bp (fX2_append σ1 a2) (fun σ2 => bp (fX2_append σ2 a3) (fun σ3 => bp (fX2_append σ3 a4) (fun σ4 => bp (fX2_append σ4 a5) (fun σ5 => some ((σ5.1 1 1), σ5)))))) else some ((-1 : Int32), σ)
def fX7_guest (σ : St) (a1 : Int32) (a2 : Int32) : Option (Int32) :=
  bp (fX6_hasGuest σ 3 a1) (fun r1 => if r1 = 0 then some (-2 : Int32) else if a2 = 0 then gd (ir a1 5) (some (σ.1 (3 + 5) a1.toNatClampNeg)) else if a2 = 1 then gd (ir a1 5) (some (σ.1 (3 + 6) a1.toNatClampNeg)) else if a2 = 2 then bp (fX6_canDo σ 3 a1) (fun r2 => some r2) else some (-2 : Int32))
def fX7_holds (σ : St) (a1 : Int32) : Option (Int32) :=
  bp (fX6_hasClaim σ 3 a1) (fun r1 => if r1 = 0 then some (-2 : Int32) else gd (ir a1 12) (some (σ.1 (3 + 2) a1.toNatClampNeg)))
def fX7_lowestBit (a0 : Int32) : Option (Int32) :=
  if a0 = 0 then some (-1 : Int32) else bp (fJ6_bitCount_0f7a4 ((a0 &&& (-a0)) - (1 : Int32))) (fun r1 => some r1)
def fX7_outcome (σ : St) (a1 : Int32) (a2 : Int32) : Option (Int32 × St) :=
  bp (fX6_hasClaim σ 3 a1) (fun r1 => if r1 = 0 then some ((-2 : Int32), σ) else bp (fX7_isBit a2) (fun r2 => if r2 = 0 then some ((-2 : Int32), σ) else bs (fX0_worldThatComes σ 3 a1 a2) (fun r3 σ4 => some (r3, σ4))))
def fX7_partOfFraction_b14 (x2 : Int32) : Option (Int32) :=
  if x2 = 0 then some (0 : Int32) else some (1 : Int32)
def fX7_partOfFraction (a0 : Int32) (a1 : Int32) (a2 : Int32) : Option (Int32) :=
  bp (fX7_greatestDivisor a0 a1) (fun r1 => lt r1 (fun v2 => if a1 ≤ 0 then fX7_partOfFraction_b14 a2 else if 0 < v2 then if a2 = 0 then gd (¬ v2 = 0) (some (a0 / v2)) else gd (¬ v2 = 0) (some (a1 / v2)) else fX7_partOfFraction_b14 a2))
def fX7_paste (σ : St) (a1 : Int32) (a2 : Int32) (a3 : Int32) (a4 : Int32) (a5 : Int32) : Option (Int32 × St) :=
  bp (fX7_isSlot a1) (fun r1 => if r1 = 0 then some ((-2 : Int32), σ) else bp (fX7_isSlot a3) (fun r2 => if r2 = 0 then some ((-2 : Int32), σ) else gd (ir a1 4) (lt (rowp a1.toNatClampNeg) (fun k3 => gd (ir a3 4) (lt (rowp a3.toNatClampNeg) (fun k4 => if (σ.1 k3 0) = 0 then some ((-6 : Int32), σ) else if (σ.1 k4 0) = 0 then some ((-6 : Int32), σ) else if (σ.1 k3 1) = (σ.1 k4 1) then if a2 < 0 then some ((-7 : Int32), σ) else if a4 < 0 then some ((-7 : Int32), σ) else if a5 < 0 then some ((-7 : Int32), σ) else if ((σ.1 k3 2) - a2) < a5 then some ((-7 : Int32), σ) else if a5 ≤ ((σ.1 k4 2) - a4) then gd (cpokD a2 a4 a5 60 60) (lt (cpyJ σ (k3 + 1) (k4 + 1) a2.toNatClampNeg a4.toNatClampNeg a5.toNatClampNeg) (fun σ5 => some ((0 : Int32), σ5))) else some ((-7 : Int32), σ) else some ((-8 : Int32), σ)))))))
def fX7_refusalOfSlot (σ : St) (a1 : Int32) : Option (Int32) :=
  bp (fX6_isTold σ 3) (fun r1 => if r1 = 0 then some (-2 : Int32) else bp (fX7_isSlot a1) (fun r2 => if r2 = 0 then some (-2 : Int32) else gd (ir a1 4) (lt (rowp a1.toNatClampNeg) (fun k3 => if (σ.1 k3 0) = 0 then some (-6 : Int32) else some (0 : Int32)))))
def fX7_row (σ : St) (a1 : Int32) (a2 : Int32) (a3 : Int32) : Option (Int32 × St) :=
  bp (fX7_isSlot a1) (fun r1 => if r1 = 0 then some ((-2 : Int32), σ) else if a2 < 0 then some ((-2 : Int32), σ) else if (3 : Int32) < a2 then some ((-2 : Int32), σ) else if a3 ≤ (60 : Int32) then if 0 ≤ a3 then gd (ir a1 4) (lt (rowp a1.toNatClampNeg) (fun k2 => bp (fX4_begin σ k2 a2 a3) (fun σ3 => some ((0 : Int32), σ3)))) else some ((-3 : Int32), σ) else some ((-2 : Int32), σ))
def fX7_salt (σ : St) (a1 : Int32) (a2 : Int32) : Option (Int32 × St) :=
  bp (fX6_hasClaim σ 3 a1) (fun r1 => if r1 = 0 then some ((-2 : Int32), σ) else bp (fX7_isBit a2) (fun r2 => if r2 = 0 then some ((-2 : Int32), σ) else lt (((σ.1 3 7) >>> (a1 &&& 31)) &&& (1 : Int32)) (fun v3 => bp (fX7_withBit (σ.1 3 7) a1 a2) (fun r4 => lt (setI σ 3 7 r4) (fun σ5 => gd ((1 : Int32) = 0 ∨ (1 : Int32) = 1) (lt (setI σ5 0 7 (1 : Int32)) (fun σ6 => some (v3, σ6))))))))
def fX7_sizeOrNone (a0 : Int32) : Option (Int32) :=
  if a0 = (-1 : Int32) then some (-1 : Int32) else bp (fJ6_bitCount_0f7a4 a0) (fun r1 => some r1)
def fX7_teach (σ : St) (a1 : Int32) (a2 : Int32) (a3 : Int32) : Option (Int32 × St) :=
  bp (fX6_hasGuest σ 3 a1) (fun r1 => if r1 = 0 then some ((-2 : Int32), σ) else bp (fX6_hasStep σ 3 a2) (fun r2 => if r2 = 0 then some ((-2 : Int32), σ) else bp (fX7_isBit a3) (fun r3 => if r3 = 0 then some ((-2 : Int32), σ) else gd (ir a1 5) (lt (((σ.1 (3 + 6) a1.toNatClampNeg) >>> (a2 &&& 31)) &&& (1 : Int32)) (fun v4 => gd (ir a1 5) (bp (fX7_withBit (σ.1 (3 + 6) a1.toNatClampNeg) a2 a3) (fun r5 => gd (ir a1 5) (lt (setI σ (3 + 6) a1.toNatClampNeg r5) (fun σ6 => some (v4, σ6))))))))))
def fX7_unlike_B17 (σ : St) (kr17 : Int32 → Int32 → Option (Int32)) (x1 : Int32) (x2 : Int32) : Option (Int32) :=
  if (σ.1 3 4) ≤ x2 then some x1 else gd (ir x2 12) (bp (fX6_claimsHoldingIn σ 3 (σ.1 (3 + 2) x2.toNatClampNeg)) (fun r1 => lt (r1 &&& (((1 : Int32) <<< (x2 &&& 31)) - (1 : Int32))) (fun v2 => if v2 = 0 then lt (x1 + 1) (fun v4 => lt (x2 + 1) (fun v5 => kr17 v4 v5)) else lt (x2 + 1) (fun v3 => kr17 x1 v3))))
def fX7_unlike_l17 (σ : St) : Nat → Int32 → Int32 → Option (Int32)
  | 0 => fun _ _ => none
  | n + 1 => fX7_unlike_B17 σ (fX7_unlike_l17 σ n)
def fX7_unlike (σ : St) : Option (Int32) :=
  bp (fX6_isTold σ 3) (fun r6 => if r6 = 0 then some (-2 : Int32) else lt (0 : Int32) (fun v7 => lt (0 : Int32) (fun v8 => fX7_unlike_l17 σ FU v7 v8)))
def fX7_write (σ : St) (a1 : Int32) (a2 : Int32) (a3 : Int64) : Option (Int32 × St) :=
  bp (fX7_isSlot a1) (fun r1 => if r1 = 0 then some ((-2 : Int32), σ) else gd (ir a1 4) (lt (rowp a1.toNatClampNeg) (fun k2 => if (σ.1 k2 0) = 0 then some ((-6 : Int32), σ) else if a2 < 0 then some ((-7 : Int32), σ) else gd (ir a1 4) (lt (rowp a1.toNatClampNeg) (fun k3 => if a2 < (σ.1 k3 2) then gd (ir a1 4) (lt (rowp a1.toNatClampNeg) (fun k4 => gd (ir a1 4) (lt (rowp a1.toNatClampNeg) (fun k5 => bp (fX4_cut σ k5 a3) (fun r6 => gd (ir a2 60) (lt (setL σ (k4 + 1) a2.toNatClampNeg r6) (fun σ7 => some ((0 : Int32), σ7)))))))) else some ((-7 : Int32), σ))))))
def fX1_hourOfAll_B5 (σ : St) (t : Nat) (kr5 : Int32 → Int32 → Int32 → Option (Int32)) (x2 : Int32) (x3 : Int32) (x4 : Int32) : Option (Int32) :=
  if (σ.1 t 4) ≤ x4 then some x3 else if ((x2 >>> (x4 &&& 31)) &&& (1 : Int32)) = (1 : Int32) then gd (ir x4 12) (if (σ.1 56 x4.toNatClampNeg) = (-1 : Int32) then some (-1 : Int32) else gd (ir x4 12) (lt (if x3 < (σ.1 56 x4.toNatClampNeg) then (σ.1 56 x4.toNatClampNeg) else x3) (fun v2 => lt (x4 + 1) (fun v3 => kr5 x2 v2 v3)))) else lt (x4 + 1) (fun v1 => kr5 x2 x3 v1)
def fX1_hourOfAll_l5 (σ : St) (t : Nat) : Nat → Int32 → Int32 → Int32 → Option (Int32)
  | 0 => fun _ _ _ => none
  | n + 1 => fX1_hourOfAll_B5 σ t (fX1_hourOfAll_l5 σ t n)
def fX1_hourOfAll (σ : St) (t : Nat) (a2 : Int32) : Option (Int32) :=
  lt (0 : Int32) (fun v4 => lt (0 : Int32) (fun v5 => fX1_hourOfAll_l5 σ t FU a2 v4 v5))
def fX2_advance_B76 (kr76 : St → Int32 → Option (St)) (σ : St) (x1 : Int32) : Option (St) :=
  if (σ.1 1 1) ≤ x1 then lt (setI σ 1 6 x1) (fun σ1 => some σ1) else bp (fX2_kindAt σ x1) (fun r2 => if r2 = (σ.1 1 4) then if (σ.1 1 4) = (2 : Int32) then gd (ir x1 1600) (lt (setI σ 1 7 (if ((((σ.1 1 7) * (10 : Int32)) + (σ.1 2 x1.toNatClampNeg)) - (48 : Int32)) < (100000 : Int32) then ((((σ.1 1 7) * (10 : Int32)) + (σ.1 2 x1.toNatClampNeg)) - (48 : Int32)) else (100000 : Int32))) (fun σ6 => lt (x1 + 1) (fun v7 => kr76 σ6 v7))) else lt (setI σ 1 7 (0 : Int32)) (fun σ4 => lt (x1 + 1) (fun v5 => kr76 σ4 v5)) else lt (setI σ 1 6 x1) (fun σ3 => some σ3))
def fX2_advance_l76 : Nat → St → Int32 → Option (St)
  | 0 => fun _ _ => none
  | n + 1 => fX2_advance_B76 (fX2_advance_l76 n)
def fX2_advance_b41 (σ : St) (x1 : Int32) : Option (St) :=
  lt (setI σ 1 5 x1) (fun σ8 => bp (fX2_kindAt σ8 x1) (fun r9 => lt (setI σ8 1 4 r9) (fun σ10 => lt (setI σ10 1 7 (0 : Int32)) (fun σ11 => if (σ11.1 1 4) = (1 : Int32) then fX2_advance_l76 FU σ11 x1 else if (σ11.1 1 4) = (2 : Int32) then fX2_advance_l76 FU σ11 x1 else if (σ11.1 1 4) = 0 then lt (setI σ11 1 6 x1) (fun σ12 => some σ12) else lt (x1 + 1) (fun v13 => lt (setI σ11 1 6 v13) (fun σ14 => some σ14))))))
def fX2_advance_B5 (kr5 : St → Int32 → Option (St)) (σ : St) (x1 : Int32) : Option (St) :=
  if (σ.1 1 1) ≤ x1 then fX2_advance_b41 σ x1 else gd (ir x1 1600) (if (σ.1 2 x1.toNatClampNeg) = (32 : Int32) then lt (x1 + 1) (fun v15 => kr5 σ v15) else gd (ir x1 1600) (if (σ.1 2 x1.toNatClampNeg) = (10 : Int32) then lt (x1 + 1) (fun v16 => kr5 σ v16) else fX2_advance_b41 σ x1))
def fX2_advance_l5 : Nat → St → Int32 → Option (St)
  | 0 => fun _ _ => none
  | n + 1 => fX2_advance_B5 (fX2_advance_l5 n)
def fX2_advance (σ : St) : Option (St) :=
  lt (σ.1 1 6) (fun v17 => fX2_advance_l5 FU σ v17)
def fX3_read_B41 (t : Nat) (w : Nat) (kr41 : St → Int32 → Option (St)) (σ : St) (x3 : Int32) : Option (St) :=
  if (σ.1 w 2) ≤ x3 then some σ else if (σ.1 53 1) = 0 then gd (ir x3 60) (lt ((σ.2 (w + 1) x3.toNatClampNeg).toInt32) (fun v1 => bp (fX3_reasonAgainst σ t v1) (fun r2 => lt (setI σ 53 1 r2) (fun σ3 => if (σ3.1 53 1) = 0 then gd (ir v1 12) (gd (ir v1 12) (bp (fX3_usedForAll σ3 t (σ3.1 (t + 4) v1.toNatClampNeg)) (fun r5 => gd (ir (σ3.1 (t + 3) v1.toNatClampNeg) 12) (lt (setI σ3 54 (σ3.1 (t + 3) v1.toNatClampNeg).toNatClampNeg (((1 : Int32) <<< (v1 &&& 31)) ||| r5)) (fun σ6 => gd (ir v1 12) (lt (setI σ6 53 2 ((σ6.1 53 2) ||| ((1 : Int32) <<< ((σ6.1 (t + 3) v1.toNatClampNeg) &&& 31)))) (fun σ7 => lt (setI σ7 53 0 ((σ7.1 53 0) + (1 : Int32))) (fun σ8 => lt (x3 + 1) (fun v9 => kr41 σ8 v9))))))))) else lt (x3 + 1) (fun v4 => kr41 σ3 v4))))) else some σ
def fX3_read_l41 (t : Nat) (w : Nat) : Nat → St → Int32 → Option (St)
  | 0 => fun _ _ => none
  | n + 1 => fX3_read_B41 t w (fX3_read_l41 t w n)
def fX3_read_B20 (t : Nat) (w : Nat) (kr20 : St → Int32 → Option (St)) (σ : St) (x3 : Int32) : Option (St) :=
  if (12 : Int32) ≤ x3 then lt (0 : Int32) (fun v10 => fX3_read_l41 t w FU σ v10) else gd (ir x3 12) (lt (setI σ 54 x3.toNatClampNeg (0 : Int32)) (fun σ11 => lt (x3 + 1) (fun v12 => kr20 σ11 v12)))
def fX3_read_l20 (t : Nat) (w : Nat) : Nat → St → Int32 → Option (St)
  | 0 => fun _ _ => none
  | n + 1 => fX3_read_B20 t w (fX3_read_l20 t w n)
def fX3_read (σ : St) (t : Nat) (w : Nat) : Option (St) :=
  lt (setI σ 53 0 (0 : Int32)) (fun σ13 => lt (setI σ13 53 1 (0 : Int32)) (fun σ14 => lt (setI σ14 53 2 (σ14.1 t 7)) (fun σ15 => lt (0 : Int32) (fun v16 => fX3_read_l20 t w FU σ15 v16))))
def fX3_worthEaten_b101 (σ : St) (t : Nat) (w : Nat) (x4 : Int32) : Option (Int32) :=
  bp (fX6_worthOf σ t (x4 &&& ((σ.1 t 7) ^^^ (-1 : Int32)))) (fun r1 => some r1)
def fX3_worthEaten_b60 (σ : St) (t : Nat) (w : Nat) (kr23 : Int32 → Int32 → Int32 → Int32 → Option (Int32)) (x3 : Int32) (x4 : Int32) (x5 : Int32) (x6 : Int32) (x7 : Int32) (y0 : Int32) : Option (Int32) :=
  lt y0 (fun v2 => if v2 = 0 then fX3_worthEaten_b101 σ t w x4 else bp (fX6_goes σ t x7 x4) (fun r3 => if r3 = 0 then fX3_worthEaten_b101 σ t w x4 else gd (ir x7 12) (lt (x4 ||| ((1 : Int32) <<< ((σ.1 (t + 3) x7.toNatClampNeg) &&& 31))) (fun v4 => lt (x6 + 1) (fun v5 => kr23 x3 v4 x5 v5)))))
def fX3_worthEaten_B23 (σ : St) (t : Nat) (w : Nat) (kr23 : Int32 → Int32 → Int32 → Int32 → Option (Int32)) (x3 : Int32) (x4 : Int32) (x5 : Int32) (x6 : Int32) : Option (Int32) :=
  if x5 ≤ x6 then fX3_worthEaten_b101 σ t w x4 else gd (ir x6 60) (lt ((σ.2 (w + 1) x6.toNatClampNeg).toInt32) (fun v6 => gd (ir x3 5) (if (((σ.1 (t + 6) x3.toNatClampNeg) >>> (v6 &&& 31)) &&& (1 : Int32)) = (1 : Int32) then fX3_worthEaten_b60 σ t w kr23 x3 x4 x5 x6 v6 (1 : Int32) else fX3_worthEaten_b60 σ t w kr23 x3 x4 x5 x6 v6 (0 : Int32))))
def fX3_worthEaten_l23 (σ : St) (t : Nat) (w : Nat) : Nat → Int32 → Int32 → Int32 → Int32 → Option (Int32)
  | 0 => fun _ _ _ _ => none
  | n + 1 => fX3_worthEaten_B23 σ t w (fX3_worthEaten_l23 σ t w n)
def fX3_worthEaten (σ : St) (t : Nat) (w : Nat) (a3 : Int32) : Option (Int32) :=
  lt (σ.1 t 7) (fun v7 => bp (fX6_canDo σ t a3) (fun r8 => lt (if r8 < (σ.1 w 2) then r8 else (σ.1 w 2)) (fun v9 => lt (0 : Int32) (fun v10 => fX3_worthEaten_l23 σ t w FU a3 v7 v9 v10))))
def fX5_subsetsOf (a0 : Int32) : Option (Int32) :=
  bp (fJ6_bitCount_0f7a4 a0) (fun r1 => some ((1 : Int32) <<< (r1 &&& 31)))
def fX6_copyFrom (σ : St) (t : Nat) (t2 : Nat) : Option (St) :=
  lt (setI σ t 0 (σ.1 t2 0)) (fun σ1 => lt (setI σ1 t 1 (σ1.1 t2 1)) (fun σ2 => lt (setI σ2 t 2 (σ2.1 t2 2)) (fun σ3 => lt (setI σ3 t 3 (σ3.1 t2 3)) (fun σ4 => lt (setI σ4 t 4 (σ4.1 t2 4)) (fun σ5 => lt (setI σ5 t 5 (σ5.1 t2 5)) (fun σ6 => lt (setI σ6 t 6 (σ6.1 t2 6)) (fun σ7 => lt (setI σ7 t 7 (σ7.1 t2 7)) (fun σ8 => gd (cpokD (0 : Int32) (0 : Int32) (12 : Int32) 12 12) (lt (cpyI σ8 (t2 + 1) (t + 1) (0 : Int32).toNatClampNeg (0 : Int32).toNatClampNeg (12 : Int32).toNatClampNeg) (fun σ9 => gd (cpokD (0 : Int32) (0 : Int32) (12 : Int32) 12 12) (lt (cpyI σ9 (t2 + 2) (t + 2) (0 : Int32).toNatClampNeg (0 : Int32).toNatClampNeg (12 : Int32).toNatClampNeg) (fun σ10 => gd (cpokD (0 : Int32) (0 : Int32) (12 : Int32) 12 12) (lt (cpyI σ10 (t2 + 3) (t + 3) (0 : Int32).toNatClampNeg (0 : Int32).toNatClampNeg (12 : Int32).toNatClampNeg) (fun σ11 => gd (cpokD (0 : Int32) (0 : Int32) (12 : Int32) 12 12) (lt (cpyI σ11 (t2 + 4) (t + 4) (0 : Int32).toNatClampNeg (0 : Int32).toNatClampNeg (12 : Int32).toNatClampNeg) (fun σ12 => gd (cpokD (0 : Int32) (0 : Int32) (5 : Int32) 5 5) (lt (cpyI σ12 (t2 + 5) (t + 5) (0 : Int32).toNatClampNeg (0 : Int32).toNatClampNeg (5 : Int32).toNatClampNeg) (fun σ13 => gd (cpokD (0 : Int32) (0 : Int32) (5 : Int32) 5 5) (lt (cpyI σ13 (t2 + 6) (t + 6) (0 : Int32).toNatClampNeg (0 : Int32).toNatClampNeg (5 : Int32).toNatClampNeg) (fun σ14 => some σ14))))))))))))))))))))
def fX6_firstGoing_B2 (σ : St) (t : Nat) (kr2 : Int32 → Int32 → Int32 → Option (Int32)) (x1 : Int32) (x2 : Int32) (x3 : Int32) : Option (Int32) :=
  if (σ.1 t 5) ≤ x3 then some (-1 : Int32) else if ((x1 >>> (x3 &&& 31)) &&& (1 : Int32)) = (1 : Int32) then bp (fX6_goes σ t x3 x2) (fun r2 => if r2 = 0 then lt (x3 + 1) (fun v3 => kr2 x1 x2 v3) else some x3) else lt (x3 + 1) (fun v1 => kr2 x1 x2 v1)
def fX6_firstGoing_l2 (σ : St) (t : Nat) : Nat → Int32 → Int32 → Int32 → Option (Int32)
  | 0 => fun _ _ _ => none
  | n + 1 => fX6_firstGoing_B2 σ t (fX6_firstGoing_l2 σ t n)
def fX6_firstGoing (σ : St) (t : Nat) (a1 : Int32) (a2 : Int32) : Option (Int32) :=
  lt (0 : Int32) (fun v4 => fX6_firstGoing_l2 σ t FU a1 a2 v4)
def fX6_isClaimSet (σ : St) (t : Nat) (a1 : Int32) : Option (Int32) :=
  bp (fX6_isTold σ t) (fun r1 => if r1 = 0 then gd ((0 : Int32) = 0 ∨ (0 : Int32) = 1) (some (0 : Int32)) else if a1 < 0 then gd ((0 : Int32) = 0 ∨ (0 : Int32) = 1) (some (0 : Int32)) else if ((1 : Int32) <<< ((σ.1 t 4) &&& 31)) ≤ a1 then gd ((0 : Int32) = 0 ∨ (0 : Int32) = 1) (some (0 : Int32)) else gd ((1 : Int32) = 0 ∨ (1 : Int32) = 1) (some (1 : Int32)))
def fX6_isGuestSet (σ : St) (t : Nat) (a1 : Int32) : Option (Int32) :=
  bp (fX6_isTold σ t) (fun r1 => if r1 = 0 then gd ((0 : Int32) = 0 ∨ (0 : Int32) = 1) (some (0 : Int32)) else if a1 < 0 then gd ((0 : Int32) = 0 ∨ (0 : Int32) = 1) (some (0 : Int32)) else if ((1 : Int32) <<< ((σ.1 t 6) &&& 31)) ≤ a1 then gd ((0 : Int32) = 0 ∨ (0 : Int32) = 1) (some (0 : Int32)) else gd ((1 : Int32) = 0 ∨ (1 : Int32) = 1) (some (1 : Int32)))
def fX6_spread_B26 (σ : St) (t : Nat) (kr8 : Int32 → Int32 → Int32 → Int32 → Option (Int32)) (kr26 : Int32 → Int32 → Int32 → Int32 → Int32 → Option (Int32)) (x1 : Int32) (x3 : Int32) (x5 : Int32) (x6 : Int32) (x7 : Int32) : Option (Int32) :=
  if (σ.1 t 5) ≤ x7 then if x3 = x6 then lt (0 : Int32) (fun v1 => lt (x5 + 1) (fun v2 => kr8 x1 x3 v1 v2)) else lt (1 : Int32) (fun v3 => lt (x5 + 1) (fun v4 => kr8 x1 x3 v3 v4)) else if ((x1 >>> (x7 &&& 31)) &&& (1 : Int32)) = (1 : Int32) then bp (fX6_goes σ t x7 x3) (fun r6 => if r6 = 0 then lt (x7 + 1) (fun v7 => kr26 x1 x3 x5 x6 v7) else gd (ir x7 12) (lt (x3 ||| ((1 : Int32) <<< ((σ.1 (t + 3) x7.toNatClampNeg) &&& 31))) (fun v8 => lt (x7 + 1) (fun v9 => kr26 x1 v8 x5 x6 v9)))) else lt (x7 + 1) (fun v5 => kr26 x1 x3 x5 x6 v5)
def fX6_spread_l26 (σ : St) (t : Nat) (kr8 : Int32 → Int32 → Int32 → Int32 → Option (Int32)) : Nat → Int32 → Int32 → Int32 → Int32 → Int32 → Option (Int32)
  | 0 => fun _ _ _ _ _ => none
  | n + 1 => fX6_spread_B26 σ t kr8 (fX6_spread_l26 σ t kr8 n)
def fX6_spread_B8 (σ : St) (t : Nat) (kr8 : Int32 → Int32 → Int32 → Int32 → Option (Int32)) (x1 : Int32) (x3 : Int32) (x4 : Int32) (x5 : Int32) : Option (Int32) :=
  if (12 : Int32) < x5 then some x3 else if x4 = 0 then some x3 else lt x3 (fun v10 => lt (0 : Int32) (fun v11 => fX6_spread_l26 σ t kr8 FU x1 x3 x5 v10 v11))
def fX6_spread_l8 (σ : St) (t : Nat) : Nat → Int32 → Int32 → Int32 → Int32 → Option (Int32)
  | 0 => fun _ _ _ _ => none
  | n + 1 => fX6_spread_B8 σ t (fX6_spread_l8 σ t n)
def fX6_spread (σ : St) (t : Nat) (a1 : Int32) (a2 : Int32) : Option (Int32) :=
  lt a2 (fun v12 => lt (1 : Int32) (fun v13 => lt (0 : Int32) (fun v14 => fX6_spread_l8 σ t FU a1 v12 v13 v14)))
def fX6_teamCanDo_B4 (σ : St) (t : Nat) (kr4 : Int32 → Int32 → Int32 → Option (Int32)) (x1 : Int32) (x2 : Int32) (x3 : Int32) : Option (Int32) :=
  if (σ.1 t 6) ≤ x3 then some x2 else if ((x1 >>> (x3 &&& 31)) &&& (1 : Int32)) = (1 : Int32) then bp (fX6_canDo σ t x3) (fun r2 => lt (x2 + r2) (fun v3 => lt (x3 + 1) (fun v4 => kr4 x1 v3 v4))) else lt (x3 + 1) (fun v1 => kr4 x1 x2 v1)
def fX6_teamCanDo_l4 (σ : St) (t : Nat) : Nat → Int32 → Int32 → Int32 → Option (Int32)
  | 0 => fun _ _ _ => none
  | n + 1 => fX6_teamCanDo_B4 σ t (fX6_teamCanDo_l4 σ t n)
def fX6_teamCanDo (σ : St) (t : Nat) (a1 : Int32) : Option (Int32) :=
  lt (0 : Int32) (fun v5 => lt (0 : Int32) (fun v6 => fX6_teamCanDo_l4 σ t FU a1 v5 v6))
def fX6_worldsOf_B7 (σ : St) (t : Nat) (kr7 : Int32 → Int32 → Int32 → Option (Int32)) (x1 : Int32) (x2 : Int32) (x3 : Int32) : Option (Int32) :=
  if (σ.1 t 4) ≤ x3 then some x2 else if ((x1 >>> (x3 &&& 31)) &&& (1 : Int32)) = (1 : Int32) then gd (ir x3 12) (lt (x2 &&& (σ.1 (t + 2) x3.toNatClampNeg)) (fun v2 => lt (x3 + 1) (fun v3 => kr7 x1 v2 v3))) else lt (x3 + 1) (fun v1 => kr7 x1 x2 v1)
def fX6_worldsOf_l7 (σ : St) (t : Nat) : Nat → Int32 → Int32 → Int32 → Option (Int32)
  | 0 => fun _ _ _ => none
  | n + 1 => fX6_worldsOf_B7 σ t (fX6_worldsOf_l7 σ t n)
def fX6_worldsOf (σ : St) (t : Nat) (a1 : Int32) : Option (Int32) :=
  bp (fX6_allWorlds σ t) (fun r4 => lt r4 (fun v5 => lt (0 : Int32) (fun v6 => fX6_worldsOf_l7 σ t FU a1 v5 v6)))
def fX8_advance_b226 (σ : St) (y1 : Int32) : Option (St) :=
  lt (setI σ 62 10 y1) (fun σ1 => lt (setI σ1 62 8 ((σ1.1 62 8) + (1 : Int32))) (fun σ2 => some σ2))
def fX8_advance_B144 (kr144 : St → Option (St)) (σ : St) : Option (St) :=
  bp (fX8_see σ (σ.1 62 8)) (fun r3 => bp (fX8_in (r3.toInt64) (48 : Int64) (57 : Int64)) (fun r4 => if r4 = 0 then lt (setI σ 62 10 (2 : Int32)) (fun σ5 => some σ5) else bp (fX8_see σ (σ.1 62 8)) (fun r6 => lt (setI σ 62 11 (if ((((10 : Int32) * (σ.1 62 11)) + r6) - (48 : Int32)) < (99999 : Int32) then ((((10 : Int32) * (σ.1 62 11)) + r6) - (48 : Int32)) else (99999 : Int32))) (fun σ7 => lt (setI σ7 62 8 ((σ7.1 62 8) + (1 : Int32))) (fun σ8 => kr144 σ8)))))
def fX8_advance_l144 : Nat → St → Option (St)
  | 0 => fun _ => none
  | n + 1 => fX8_advance_B144 (fX8_advance_l144 n)
def fX8_advance_B83 (kr83 : St → Option (St)) (σ : St) : Option (St) :=
  bp (fX8_see σ (σ.1 62 8)) (fun r9 => bp (fX8_in (r9.toInt64) (97 : Int64) (122 : Int64)) (fun r10 => if r10 = 0 then lt (setI σ 62 10 (1 : Int32)) (fun σ11 => some σ11) else lt (setI σ 62 8 ((σ.1 62 8) + (1 : Int32))) (fun σ12 => kr83 σ12)))
def fX8_advance_l83 : Nat → St → Option (St)
  | 0 => fun _ => none
  | n + 1 => fX8_advance_B83 (fX8_advance_l83 n)
def fX8_advance_b26 (kr0 : St → Option (St)) (σ : St) : Option (St) :=
  lt (setI σ 62 8 ((σ.1 62 8) + (1 : Int32))) (fun σ13 => kr0 σ13)
def fX8_advance_B0 (kr0 : St → Option (St)) (σ : St) : Option (St) :=
  bp (fX8_see σ (σ.1 62 8)) (fun r14 => if r14 = (32 : Int32) then fX8_advance_b26 kr0 σ else bp (fX8_see σ (σ.1 62 8)) (fun r15 => if r15 = (10 : Int32) then fX8_advance_b26 kr0 σ else lt (setI σ 62 9 (σ.1 62 8)) (fun σ16 => bp (fX8_see σ16 (σ16.1 62 8)) (fun r17 => lt r17 (fun v18 => if v18 = (-1 : Int32) then lt (setI σ16 62 10 (0 : Int32)) (fun σ22 => some σ22) else bp (fX8_in (v18.toInt64) (97 : Int64) (122 : Int64)) (fun r19 => if r19 = 0 then bp (fX8_in (v18.toInt64) (48 : Int64) (57 : Int64)) (fun r20 => if r20 = 0 then if v18 = (59 : Int32) then fX8_advance_b226 σ16 (3 : Int32) else fX8_advance_b226 σ16 (4 : Int32) else lt (setI σ16 62 11 (0 : Int32)) (fun σ21 => fX8_advance_l144 FU σ21)) else fX8_advance_l83 FU σ16))))))
def fX8_advance_l0 : Nat → St → Option (St)
  | 0 => fun _ => none
  | n + 1 => fX8_advance_B0 (fX8_advance_l0 n)
def fX8_advance (σ : St) : Option (St) :=
  fX8_advance_l0 FU σ
def fX8_allWorlds (σ : St) : Option (Int32) :=
  bp (fX8_worlds σ) (fun r1 => some (((1 : Int32) <<< (r1 &&& 31)) - (1 : Int32)))
def fX8_areClaims (σ : St) (a1 : Int32) : Option (Int32) :=
  bp (fX8_isTable σ) (fun r1 => if r1 = 0 then gd ((0 : Int32) = 0 ∨ (0 : Int32) = 1) (some (0 : Int32)) else bp (fX8_allClaims σ) (fun r2 => bp (fX8_in (a1.toInt64) (0 : Int64) (r2.toInt64)) (fun r3 => if r3 = 0 then gd ((0 : Int32) = 0 ∨ (0 : Int32) = 1) (some (0 : Int32)) else gd ((1 : Int32) = 0 ∨ (1 : Int32) = 1) (some (1 : Int32)))))
def fX8_areGuests (σ : St) (a1 : Int32) : Option (Int32) :=
  bp (fX8_isTable σ) (fun r1 => if r1 = 0 then gd ((0 : Int32) = 0 ∨ (0 : Int32) = 1) (some (0 : Int32)) else bp (fX8_allGuests σ) (fun r2 => bp (fX8_in (a1.toInt64) (0 : Int64) (r2.toInt64)) (fun r3 => if r3 = 0 then gd ((0 : Int32) = 0 ∨ (0 : Int32) = 1) (some (0 : Int32)) else gd ((1 : Int32) = 0 ∨ (1 : Int32) = 1) (some (1 : Int32)))))
def fX8_atomWorlds_B4 (σ : St) (kr4 : Int32 → Int32 → Int32 → Option (Int32)) (x1 : Int32) (x2 : Int32) (x3 : Int32) : Option (Int32) :=
  gd (ir (0 : Int32) 70) (if ((1 : Int32) <<< ((σ.1 68 (0 : Int32).toNatClampNeg) &&& 31)) ≤ x3 then some x2 else bp (fX8_bit x3 x1) (fun r1 => lt (x2 ||| (r1 <<< (x3 &&& 31))) (fun v2 => lt (x3 + 1) (fun v3 => kr4 x1 v2 v3))))
def fX8_atomWorlds_l4 (σ : St) : Nat → Int32 → Int32 → Int32 → Option (Int32)
  | 0 => fun _ _ _ => none
  | n + 1 => fX8_atomWorlds_B4 σ (fX8_atomWorlds_l4 σ n)
def fX8_atomWorlds (σ : St) (a1 : Int32) : Option (Int32) :=
  lt (0 : Int32) (fun v4 => lt (0 : Int32) (fun v5 => fX8_atomWorlds_l4 σ FU a1 v4 v5))
def fX8_back_B29 (kr29 : St → Int32 → Int32 → Option (Int32 × St)) (σ : St) (x1 : Int32) (x2 : Int32) : Option (Int32 × St) :=
  if (77 : Int32) ≤ x2 then some ((0 : Int32), σ) else gd (ir (((77 : Int32) * x1) + x2) 210) (gd (ir x2 70) (lt (setI σ 63 x2.toNatClampNeg (σ.1 64 (((77 : Int32) * x1) + x2).toNatClampNeg)) (fun σ1 => lt (x2 + 1) (fun v2 => kr29 σ1 x1 v2))))
def fX8_back_l29 : Nat → St → Int32 → Int32 → Option (Int32 × St)
  | 0 => fun _ _ _ => none
  | n + 1 => fX8_back_B29 (fX8_back_l29 n)
def fX8_back (σ : St) (a1 : Int32) : Option (Int32 × St) :=
  bp (fX8_in (a1.toInt64) (0 : Int64) (2 : Int64)) (fun r3 => if r3 = 0 then some ((-2 : Int32), σ) else gd (ir a1 3) (if (σ.1 65 a1.toNatClampNeg) = 0 then some ((-6 : Int32), σ) else lt (0 : Int32) (fun v4 => fX8_back_l29 FU σ a1 v4)))
def fX8_canDo (σ : St) (a1 : Int32) : Option (Int32) :=
  gd (ir (1 : Int32) 70) (bp (fX8_ofGuest σ a1 (0 : Int32)) (fun r1 => gd (¬ r1 = 0) (some ((σ.1 63 (1 : Int32).toNatClampNeg) / r1))))
def fX8_cooks_b179 (σ : St) (x1 : Int32) (x4 : Int32) (y1 : Int32) (y2 : Int32) : Option (Int32 × St) :=
  gd (ir y1 12) (lt (setI σ 73 y1.toNatClampNeg y2) (fun σ1 => gd (ir x4 12) (gd (ir x4 12) (lt (setI σ1 74 x4.toNatClampNeg ((σ1.1 74 x4.toNatClampNeg) ||| ((1 : Int32) <<< (x1 &&& 31)))) (fun σ2 => gd ((1 : Int32) = 0 ∨ (1 : Int32) = 1) (some ((1 : Int32), σ2)))))))
def fX8_cooks_B25 (kr25 : St → Int32 → Int32 → Int32 → Int32 → Option (Int32 × St)) (σ : St) (x1 : Int32) (x2 : Int32) (x3 : Int32) (x4 : Int32) : Option (Int32 × St) :=
  gd (ir (3 : Int32) 70) (if (σ.1 63 (3 : Int32).toNatClampNeg) ≤ x4 then bp (fX8_ofGuest σ x1 (0 : Int32)) (fun r3 => lt (x3 + r3) (fun v4 => gd (ir (1 : Int32) 70) (if v4 ≤ (σ.1 63 (1 : Int32).toNatClampNeg) then gd (ir x1 5) (lt (setI σ 75 x1.toNatClampNeg v4) (fun σ5 => gd (ir x1 5) (bp (fX8_ofGuest σ5 x1 (0 : Int32)) (fun r6 => gd (ir x1 5) (lt (setI σ5 76 x1.toNatClampNeg ((σ5.1 76 x1.toNatClampNeg) + r6)) (fun σ7 => lt (setI σ7 62 28 (if (σ7.1 62 28) < v4 then v4 else (σ7.1 62 28))) (fun σ8 => bp (fX8_ofStep σ8 x2 (0 : Int32)) (fun r9 => lt r9 (fun v10 => gd (ir v10 12) (if (σ8.1 73 v10.toNatClampNeg) = (-1 : Int32) then fX8_cooks_b179 σ8 x1 v10 v10 v4 else gd (ir v10 12) (fX8_cooks_b179 σ8 x1 v10 v10 (if v4 < (σ8.1 73 v10.toNatClampNeg) then v4 else (σ8.1 73 v10.toNatClampNeg))))))))))))) else gd ((0 : Int32) = 0 ∨ (0 : Int32) = 1) (some ((0 : Int32), σ))))) else bp (fX8_ofStep σ x2 (1 : Int32)) (fun r11 => bp (fX8_bit r11 x4) (fun r12 => if r12 = 0 then lt (x4 + 1) (fun v15 => kr25 σ x1 x2 x3 v15) else gd (ir x4 12) (if (σ.1 73 x4.toNatClampNeg) = (-1 : Int32) then gd ((0 : Int32) = 0 ∨ (0 : Int32) = 1) (some ((0 : Int32), σ)) else gd (ir x4 12) (lt (if x3 < (σ.1 73 x4.toNatClampNeg) then (σ.1 73 x4.toNatClampNeg) else x3) (fun v13 => lt (x4 + 1) (fun v14 => kr25 σ x1 x2 v13 v14)))))))
def fX8_cooks_l25 : Nat → St → Int32 → Int32 → Int32 → Int32 → Option (Int32 × St)
  | 0 => fun _ _ _ _ _ => none
  | n + 1 => fX8_cooks_B25 (fX8_cooks_l25 n)
def fX8_cooks (σ : St) (a1 : Int32) (a2 : Int32) : Option (Int32 × St) :=
  bp (fX8_ofGuest σ a1 (1 : Int32)) (fun r16 => bp (fX8_bit r16 a2) (fun r17 => if r17 = 0 then gd ((0 : Int32) = 0 ∨ (0 : Int32) = 1) (some ((0 : Int32), σ)) else gd (ir a1 5) (lt (σ.1 75 a1.toNatClampNeg) (fun v18 => lt (0 : Int32) (fun v19 => fX8_cooks_l25 FU σ a1 a2 v18 v19)))))
def fX8_drops_B34 (kr34 : St → Int32 → Option (Int32 × St)) (σ : St) (x1 : Int32) : Option (Int32 × St) :=
  gd (ir (5 : Int32) 70) (if (σ.1 63 (5 : Int32).toNatClampNeg) ≤ x1 then gd (ir (4 : Int32) 70) (some ((σ.1 63 (4 : Int32).toNatClampNeg), σ)) else gd (ir (((67 : Int32) + ((2 : Int32) * x1)) + (1 : Int32)) 70) (bp (fX8_allSteps σ) (fun r1 => gd (ir (((67 : Int32) + ((2 : Int32) * x1)) + (1 : Int32)) 70) (lt (setI σ 63 (((67 : Int32) + ((2 : Int32) * x1)) + (1 : Int32)).toNatClampNeg ((σ.1 63 (((67 : Int32) + ((2 : Int32) * x1)) + (1 : Int32)).toNatClampNeg) &&& r1)) (fun σ2 => lt (x1 + 1) (fun v3 => kr34 σ2 v3))))))
def fX8_drops_l34 : Nat → St → Int32 → Option (Int32 × St)
  | 0 => fun _ _ => none
  | n + 1 => fX8_drops_B34 (fX8_drops_l34 n)
def fX8_drops (σ : St) : Option (Int32 × St) :=
  bp (fX8_isTable σ) (fun r4 => if r4 = 0 then some ((-2 : Int32), σ) else gd (ir (4 : Int32) 70) (if (σ.1 63 (4 : Int32).toNatClampNeg) = 0 then some ((-5 : Int32), σ) else gd (ir (4 : Int32) 70) (gd (ir (4 : Int32) 70) (lt (setI σ 63 (4 : Int32).toNatClampNeg ((σ.1 63 (4 : Int32).toNatClampNeg) - (1 : Int32))) (fun σ5 => lt (0 : Int32) (fun v6 => fX8_drops_l34 FU σ5 v6))))))
def fX8_eatenBy_B4 (σ : St) (kr4 : Int32 → Int32 → Int32 → Option (Int32)) (x1 : Int32) (x2 : Int32) (x3 : Int32) : Option (Int32) :=
  gd (ir x1 4) (if (σ.1 78 x1.toNatClampNeg) ≤ x3 then some x2 else bp (fX8_numberAt σ x1 x3) (fun r1 => lt (x2 ||| ((1 : Int32) <<< ((r1.toInt32) &&& 31))) (fun v2 => lt (x3 + 1) (fun v3 => kr4 x1 v2 v3))))
def fX8_eatenBy_l4 (σ : St) : Nat → Int32 → Int32 → Int32 → Option (Int32)
  | 0 => fun _ _ _ => none
  | n + 1 => fX8_eatenBy_B4 σ (fX8_eatenBy_l4 σ n)
def fX8_eatenBy (σ : St) (a1 : Int32) : Option (Int32) :=
  lt (0 : Int32) (fun v4 => lt (0 : Int32) (fun v5 => fX8_eatenBy_l4 σ FU a1 v4 v5))
def fX8_end (σ : St) (a1 : Int32) : Option (Int32 × St) :=
  bp (fX8_in (a1.toInt64) (0 : Int64) ((σ.1 62 5).toInt64)) (fun r1 => if r1 = 0 then some ((-1 : Int32), σ) else lt (setI σ 62 5 a1) (fun σ2 => some (a1, σ2)))
def fX8_errs (σ : St) (a1 : Int32) : Option (St) :=
  bp (fX8_good σ) (fun r1 => if r1 = 0 then some σ else lt (setI σ 62 12 a1) (fun σ2 => lt (setI σ2 62 13 (σ2.1 62 9)) (fun σ3 => some σ3)))
def fX8_fillDoubt_b175 (kr62 : St → Int32 → Int32 → Option (St)) (kr85 : St → Int32 → Int32 → Int32 → Int32 → Option (St)) (σ : St) (x2 : Int32) (x4 : Int32) (x5 : Int32) (x6 : Int32) (y1 : Int32) : Option (St) :=
  gd (ir y1 32) (gd ((0 : Int32) = 0 ∨ (0 : Int32) = 1) (lt (setI σ 72 y1.toNatClampNeg (0 : Int32)) (fun σ1 => lt (x6 + 1) (fun v2 => kr85 σ1 x2 x4 x5 v2))))
def fX8_fillDoubt_b153 (kr62 : St → Int32 → Int32 → Option (St)) (kr85 : St → Int32 → Int32 → Int32 → Int32 → Option (St)) (σ : St) (x2 : Int32) (x4 : Int32) (x5 : Int32) (x6 : Int32) (y1 : Int32) : Option (St) :=
  gd (ir y1 32) (gd ((1 : Int32) = 0 ∨ (1 : Int32) = 1) (lt (setI σ 72 y1.toNatClampNeg (1 : Int32)) (fun σ3 => lt (x6 + 1) (fun v4 => kr85 σ3 x2 x4 x5 v4))))
def fX8_fillDoubt_B85 (kr62 : St → Int32 → Int32 → Option (St)) (kr85 : St → Int32 → Int32 → Int32 → Int32 → Option (St)) (σ : St) (x2 : Int32) (x4 : Int32) (x5 : Int32) (x6 : Int32) : Option (St) :=
  if ((1 : Int32) <<< (x4 &&& 31)) ≤ x6 then lt (x4 + (-1)) (fun v5 => kr62 σ x2 v5) else gd (ir (((2 : Int32) <<< (x4 &&& 31)) + x6) 32) (lt (σ.1 72 (((2 : Int32) <<< (x4 &&& 31)) + x6).toNatClampNeg) (fun v6 => gd (ir (((2 : Int32) <<< (x4 &&& 31)) + (x6 ||| ((1 : Int32) <<< (x4 &&& 31)))) 32) (lt (σ.1 72 (((2 : Int32) <<< (x4 &&& 31)) + (x6 ||| ((1 : Int32) <<< (x4 &&& 31)))).toNatClampNeg) (fun v7 => if x5 = 0 then if v6 = 0 then fX8_fillDoubt_b175 kr62 kr85 σ x2 x4 x5 x6 (((1 : Int32) <<< (x4 &&& 31)) + x6) else if v7 = 0 then fX8_fillDoubt_b175 kr62 kr85 σ x2 x4 x5 x6 (((1 : Int32) <<< (x4 &&& 31)) + x6) else gd (ir (((1 : Int32) <<< (x4 &&& 31)) + x6) 32) (gd ((1 : Int32) = 0 ∨ (1 : Int32) = 1) (lt (setI σ 72 (((1 : Int32) <<< (x4 &&& 31)) + x6).toNatClampNeg (1 : Int32)) (fun σ8 => lt (x6 + 1) (fun v9 => kr85 σ8 x2 x4 x5 v9)))) else if v6 = 0 then if v7 = 0 then gd (ir (((1 : Int32) <<< (x4 &&& 31)) + x6) 32) (gd ((0 : Int32) = 0 ∨ (0 : Int32) = 1) (lt (setI σ 72 (((1 : Int32) <<< (x4 &&& 31)) + x6).toNatClampNeg (0 : Int32)) (fun σ10 => lt (x6 + 1) (fun v11 => kr85 σ10 x2 x4 x5 v11)))) else fX8_fillDoubt_b153 kr62 kr85 σ x2 x4 x5 x6 (((1 : Int32) <<< (x4 &&& 31)) + x6) else fX8_fillDoubt_b153 kr62 kr85 σ x2 x4 x5 x6 (((1 : Int32) <<< (x4 &&& 31)) + x6)))))
def fX8_fillDoubt_l85 (kr62 : St → Int32 → Int32 → Option (St)) : Nat → St → Int32 → Int32 → Int32 → Int32 → Option (St)
  | 0 => fun _ _ _ _ _ => none
  | n + 1 => fX8_fillDoubt_B85 kr62 (fX8_fillDoubt_l85 kr62 n)
def fX8_fillDoubt_b80 (kr62 : St → Int32 → Int32 → Option (St)) (σ : St) (x2 : Int32) (x4 : Int32) (y0 : Int32) : Option (St) :=
  lt y0 (fun v12 => lt (0 : Int32) (fun v13 => fX8_fillDoubt_l85 kr62 FU σ x2 x4 v12 v13))
def fX8_fillDoubt_B62 (kr62 : St → Int32 → Int32 → Option (St)) (σ : St) (x2 : Int32) (x4 : Int32) : Option (St) :=
  if x4 < 0 then some σ else gd (¬ (2 : Int32) = 0) (if (x4 - x4 / (2 : Int32) * (2 : Int32)) = x2 then fX8_fillDoubt_b80 kr62 σ x2 x4 (1 : Int32) else fX8_fillDoubt_b80 kr62 σ x2 x4 (0 : Int32))
def fX8_fillDoubt_l62 : Nat → St → Int32 → Int32 → Option (St)
  | 0 => fun _ _ _ => none
  | n + 1 => fX8_fillDoubt_B62 (fX8_fillDoubt_l62 n)
def fX8_fillDoubt_B10 (kr10 : St → Int32 → Int32 → Int32 → Int32 → Option (St)) (σ : St) (x1 : Int32) (x2 : Int32) (x3 : Int32) (x4 : Int32) : Option (St) :=
  bp (fX8_worlds σ) (fun r14 => if r14 ≤ x4 then lt (x3 - (1 : Int32)) (fun v15 => fX8_fillDoubt_l62 FU σ x2 v15) else bp (fX8_worlds σ) (fun r16 => bp (fX8_ofClaim σ x1 (2 : Int32)) (fun r17 => bp (fX8_bit r17 x4) (fun r18 => if r18 = (1 : Int32) then gd (ir (r16 + x4) 32) (gd ((1 : Int32) = 0 ∨ (1 : Int32) = 1) (lt (setI σ 72 (r16 + x4).toNatClampNeg (1 : Int32)) (fun σ21 => lt (x4 + 1) (fun v22 => kr10 σ21 x1 x2 x3 v22)))) else gd (ir (r16 + x4) 32) (gd ((0 : Int32) = 0 ∨ (0 : Int32) = 1) (lt (setI σ 72 (r16 + x4).toNatClampNeg (0 : Int32)) (fun σ19 => lt (x4 + 1) (fun v20 => kr10 σ19 x1 x2 x3 v20))))))))
def fX8_fillDoubt_l10 : Nat → St → Int32 → Int32 → Int32 → Int32 → Option (St)
  | 0 => fun _ _ _ _ _ => none
  | n + 1 => fX8_fillDoubt_B10 (fX8_fillDoubt_l10 n)
def fX8_fillDoubt (σ : St) (a1 : Int32) (a2 : Int32) : Option (St) :=
  gd (ir (0 : Int32) 70) (lt (σ.1 63 (0 : Int32).toNatClampNeg) (fun v23 => lt (0 : Int32) (fun v24 => fX8_fillDoubt_l10 FU σ a1 a2 v23 v24)))
def fX8_goes (σ : St) (a1 : Int32) (a2 : Int32) : Option (Int32) :=
  bp (fX8_ofStep σ a1 (1 : Int32)) (fun r1 => if (r1 &&& (a2 ^^^ (-1 : Int32))) = 0 then bp (fX8_ofStep σ a1 (0 : Int32)) (fun r2 => bp (fX8_bit a2 r2) (fun r3 => if r3 = 0 then gd ((1 : Int32) = 0 ∨ (1 : Int32) = 1) (some (1 : Int32)) else gd ((0 : Int32) = 0 ∨ (0 : Int32) = 1) (some (0 : Int32)))) else gd ((0 : Int32) = 0 ∨ (0 : Int32) = 1) (some (0 : Int32)))
def fX8_image_B17 (kr17 : St → Int32 → Int32 → Option (Int32 × St)) (σ : St) (x1 : Int32) (x2 : Int32) : Option (Int32 × St) :=
  if (77 : Int32) ≤ x2 then gd (ir x1 3) (gd ((1 : Int32) = 0 ∨ (1 : Int32) = 1) (lt (setI σ 65 x1.toNatClampNeg (1 : Int32)) (fun σ1 => some ((0 : Int32), σ1)))) else gd (ir x2 70) (gd (ir (((77 : Int32) * x1) + x2) 210) (lt (setI σ 64 (((77 : Int32) * x1) + x2).toNatClampNeg (σ.1 63 x2.toNatClampNeg)) (fun σ2 => lt (x2 + 1) (fun v3 => kr17 σ2 x1 v3))))
def fX8_image_l17 : Nat → St → Int32 → Int32 → Option (Int32 × St)
  | 0 => fun _ _ _ => none
  | n + 1 => fX8_image_B17 (fX8_image_l17 n)
def fX8_image (σ : St) (a1 : Int32) : Option (Int32 × St) :=
  bp (fX8_in (a1.toInt64) (0 : Int64) (2 : Int64)) (fun r4 => if r4 = 0 then some ((-2 : Int32), σ) else lt (0 : Int32) (fun v5 => fX8_image_l17 FU σ a1 v5))
def fX8_isClaim (σ : St) (a1 : Int64) : Option (Int32) :=
  gd (ir (3 : Int32) 70) (bp (fX8_in a1 (0 : Int64) (((σ.1 63 (3 : Int32).toNatClampNeg) - (1 : Int32)).toInt64)) (fun r1 => gd (r1 = 0 ∨ r1 = 1) (some r1)))
def fX8_isGuest (σ : St) (a1 : Int64) : Option (Int32) :=
  gd (ir (5 : Int32) 70) (bp (fX8_in a1 (0 : Int64) (((σ.1 63 (5 : Int32).toNatClampNeg) - (1 : Int32)).toInt64)) (fun r1 => gd (r1 = 0 ∨ r1 = 1) (some r1)))
def fX8_isNextIn (σ : St) (a1 : Int32) : Option (Int32) :=
  bp (fX8_good σ) (fun r1 => if r1 = 0 then gd ((0 : Int32) = 0 ∨ (0 : Int32) = 1) (some (0 : Int32)) else if (σ.1 62 10) = (2 : Int32) then if a1 ≤ (σ.1 62 11) then gd ((0 : Int32) = 0 ∨ (0 : Int32) = 1) (some (0 : Int32)) else gd ((1 : Int32) = 0 ∨ (1 : Int32) = 1) (some (1 : Int32)) else gd ((0 : Int32) = 0 ∨ (0 : Int32) = 1) (some (0 : Int32)))
def fX8_isSeed (a0 : Int32) : Option (Int32) :=
  bp (fX8_in (a0.toInt64) (0 : Int64) (2000000000 : Int64)) (fun r1 => gd (r1 = 0 ∨ r1 = 1) (some r1))
def fX8_isSlot (a0 : Int32) : Option (Int32) :=
  bp (fX8_in (a0.toInt64) (0 : Int64) (3 : Int64)) (fun r1 => gd (r1 = 0 ∨ r1 = 1) (some r1))
def fX8_isStep (σ : St) (a1 : Int64) : Option (Int32) :=
  gd (ir (4 : Int32) 70) (bp (fX8_in a1 (0 : Int64) (((σ.1 63 (4 : Int32).toNatClampNeg) - (1 : Int32)).toInt64)) (fun r1 => gd (r1 = 0 ∨ r1 = 1) (some r1)))
def fX8_joined (σ : St) (a1 : Int32) (a2 : Int32) (a3 : Int32) : Option (Int32) :=
  if a1 = 0 then some (a2 &&& a3) else if a1 = (1 : Int32) then some (a2 ||| a3) else bp (fX8_freshAll σ) (fun r1 => some (((a2 ^^^ (-1 : Int32)) &&& r1) ||| a3))
def fX8_lowest_B8 (kr8 : Int32 → Int32 → Option (Int32)) (x0 : Int32) (x1 : Int32) : Option (Int32) :=
  bp (fX8_bit x0 x1) (fun r1 => if r1 = 0 then lt (x1 + 1) (fun v2 => kr8 x0 v2) else some x1)
def fX8_lowest_l8 : Nat → Int32 → Int32 → Option (Int32)
  | 0 => fun _ _ => none
  | n + 1 => fX8_lowest_B8 (fX8_lowest_l8 n)
def fX8_lowest (a0 : Int32) : Option (Int32) :=
  if a0 = 0 then some (-1 : Int32) else lt (0 : Int32) (fun v3 => fX8_lowest_l8 FU a0 v3)
def fX8_part_b9 (x0 : Int32) (x1 : Int32) (y0 : Int32) : Option (Int32) :=
  bp (fX8_divisor x0 x1) (fun r1 => gd (¬ r1 = 0) (some (y0 / r1)))
def fX8_part (a0 : Int32) (a1 : Int32) (a2 : Int32) : Option (Int32) :=
  if a2 = 0 then fX8_part_b9 a0 a1 a0 else fX8_part_b9 a0 a1 a1
def fX8_saltNow_B4 (σ : St) (kr4 : Int32 → Int32 → Option (Int32)) (x1 : Int32) (x2 : Int32) : Option (Int32) :=
  gd (ir (3 : Int32) 70) (if (σ.1 63 (3 : Int32).toNatClampNeg) ≤ x2 then some x1 else bp (fX8_ofClaim σ x2 (1 : Int32)) (fun r1 => lt (x1 ||| (r1 <<< (x2 &&& 31))) (fun v2 => lt (x2 + 1) (fun v3 => kr4 v2 v3))))
def fX8_saltNow_l4 (σ : St) : Nat → Int32 → Int32 → Option (Int32)
  | 0 => fun _ _ => none
  | n + 1 => fX8_saltNow_B4 σ (fX8_saltNow_l4 σ n)
def fX8_saltNow (σ : St) : Option (Int32) :=
  lt (0 : Int32) (fun v4 => lt (0 : Int32) (fun v5 => fX8_saltNow_l4 σ FU v4 v5))
def fX8_unlike_b77 (σ : St) (kr14 : Int32 → Int32 → Option (Int32)) (x2 : Int32) (y0 : Int32) (y1 : Int32) : Option (Int32) :=
  lt (y0 + y1) (fun v1 => lt (x2 + 1) (fun v2 => kr14 v1 v2))
def fX8_unlike_b55 (σ : St) (kr14 : Int32 → Int32 → Option (Int32)) (kr29 : Int32 → Int32 → Int32 → Int32 → Option (Int32)) (x1 : Int32) (x2 : Int32) (x4 : Int32) : Option (Int32) :=
  lt (1 : Int32) (fun v3 => lt (x4 + 1) (fun v4 => kr29 x1 x2 v3 v4))
def fX8_unlike_B29 (σ : St) (kr14 : Int32 → Int32 → Option (Int32)) (kr29 : Int32 → Int32 → Int32 → Int32 → Option (Int32)) (x1 : Int32) (x2 : Int32) (x3 : Int32) (x4 : Int32) : Option (Int32) :=
  if x2 ≤ x4 then if x3 = 0 then fX8_unlike_b77 σ kr14 x2 x1 (1 : Int32) else fX8_unlike_b77 σ kr14 x2 x1 (0 : Int32) else if x3 = 0 then bp (fX8_ofClaim σ x4 (2 : Int32)) (fun r5 => bp (fX8_ofClaim σ x2 (2 : Int32)) (fun r6 => if r5 = r6 then fX8_unlike_b55 σ kr14 kr29 x1 x2 x4 else lt (0 : Int32) (fun v7 => lt (x4 + 1) (fun v8 => kr29 x1 x2 v7 v8)))) else fX8_unlike_b55 σ kr14 kr29 x1 x2 x4
def fX8_unlike_l29 (σ : St) (kr14 : Int32 → Int32 → Option (Int32)) : Nat → Int32 → Int32 → Int32 → Int32 → Option (Int32)
  | 0 => fun _ _ _ _ => none
  | n + 1 => fX8_unlike_B29 σ kr14 (fX8_unlike_l29 σ kr14 n)
def fX8_unlike_B14 (σ : St) (kr14 : Int32 → Int32 → Option (Int32)) (x1 : Int32) (x2 : Int32) : Option (Int32) :=
  gd (ir (3 : Int32) 70) (if (σ.1 63 (3 : Int32).toNatClampNeg) ≤ x2 then some x1 else lt (0 : Int32) (fun v9 => lt (0 : Int32) (fun v10 => fX8_unlike_l29 σ kr14 FU x1 x2 v9 v10)))
def fX8_unlike_l14 (σ : St) : Nat → Int32 → Int32 → Option (Int32)
  | 0 => fun _ _ => none
  | n + 1 => fX8_unlike_B14 σ (fX8_unlike_l14 σ n)
def fX8_unlike (σ : St) : Option (Int32) :=
  bp (fX8_isTable σ) (fun r11 => if r11 = 0 then some (-2 : Int32) else lt (0 : Int32) (fun v12 => lt (0 : Int32) (fun v13 => fX8_unlike_l14 σ FU v12 v13)))
def fX8_worthsOf_b34 (σ : St) (kr4 : Int32 → Int32 → Int32 → Option (Int32)) (x1 : Int32) (x3 : Int32) (y0 : Int32) (y1 : Int32) : Option (Int32) :=
  lt (y0 + y1) (fun v1 => lt (x3 + 1) (fun v2 => kr4 x1 v1 v2))
def fX8_worthsOf_B4 (σ : St) (kr4 : Int32 → Int32 → Int32 → Option (Int32)) (x1 : Int32) (x2 : Int32) (x3 : Int32) : Option (Int32) :=
  gd (ir (3 : Int32) 70) (if (σ.1 63 (3 : Int32).toNatClampNeg) ≤ x3 then some x2 else bp (fX8_bit x1 x3) (fun r3 => if r3 = (1 : Int32) then bp (fX8_ofClaim σ x3 (0 : Int32)) (fun r4 => fX8_worthsOf_b34 σ kr4 x1 x3 x2 r4) else fX8_worthsOf_b34 σ kr4 x1 x3 x2 (0 : Int32)))
def fX8_worthsOf_l4 (σ : St) : Nat → Int32 → Int32 → Int32 → Option (Int32)
  | 0 => fun _ _ _ => none
  | n + 1 => fX8_worthsOf_B4 σ (fX8_worthsOf_l4 σ n)
def fX8_worthsOf (σ : St) (a1 : Int32) : Option (Int32) :=
  lt (0 : Int32) (fun v5 => lt (0 : Int32) (fun v6 => fX8_worthsOf_l4 σ FU a1 v5 v6))
def fX7_adds (σ : St) (a1 : Int32) (a2 : Int32) : Option (Int32 × St) :=
  bp (fJ6_bitCount_0f7a4 a2) (fun r1 => lt r1 (fun v2 => bp (fX6_hasClaim σ 3 a1) (fun r3 => if r3 = 0 then some ((-2 : Int32), σ) else bp (fX6_isClaimSet σ 3 a2) (fun r4 => if r4 = 0 then some ((-2 : Int32), σ) else if v2 < (1 : Int32) then some ((-2 : Int32), σ) else if v2 ≤ (3 : Int32) then if (σ.1 3 5) < (12 : Int32) then bp (fX6_addStep σ 3 a1 a2) (fun σ5 => gd ((1 : Int32) = 0 ∨ (1 : Int32) = 1) (lt (setI σ5 0 7 (1 : Int32)) (fun σ6 => some (((σ6.1 3 5) - (1 : Int32)), σ6)))) else some ((-3 : Int32), σ) else some ((-2 : Int32), σ)))))
def fX7_back (σ : St) (a1 : Int32) : Option (Int32 × St) :=
  if a1 < 0 then some ((-2 : Int32), σ) else if a1 < (3 : Int32) then gd (ir a1 3) (if (σ.1 39 a1.toNatClampNeg) = 0 then some ((-6 : Int32), σ) else gd (ir a1 3) (lt (imgp a1.toNatClampNeg) (fun k1 => bp (fX6_copyFrom σ 3 k1) (fun σ2 => gd ((1 : Int32) = 0 ∨ (1 : Int32) = 1) (lt (setI σ2 0 7 (1 : Int32)) (fun σ3 => some ((0 : Int32), σ3))))))) else some ((-2 : Int32), σ)
def fX7_counter (σ : St) (a1 : Int32) : Option (Int32) :=
  bp (fX6_hasClaim σ 3 a1) (fun r1 => if r1 = 0 then some (-2 : Int32) else bp (fX6_worldsOf σ 3 (σ.1 3 7)) (fun r2 => gd (ir a1 12) (bp (fX7_lowestBit (r2 &&& ((σ.1 (3 + 2) a1.toNatClampNeg) ^^^ (-1 : Int32)))) (fun r3 => some r3))))
def fX7_image (σ : St) (a1 : Int32) : Option (Int32 × St) :=
  if a1 < 0 then some ((-2 : Int32), σ) else if a1 < (3 : Int32) then gd (ir a1 3) (lt (imgp a1.toNatClampNeg) (fun k1 => bp (fX6_copyFrom σ k1 3) (fun σ2 => gd (ir a1 3) (gd ((1 : Int32) = 0 ∨ (1 : Int32) = 1) (lt (setI σ2 39 a1.toNatClampNeg (1 : Int32)) (fun σ3 => some ((0 : Int32), σ3))))))) else some ((-2 : Int32), σ)
def fX7_likely (σ : St) (a1 : Int32) (a2 : Int32) : Option (Int32) :=
  bp (fX6_hasClaim σ 3 a1) (fun r1 => if r1 = 0 then some (-2 : Int32) else bp (fX7_isBit a2) (fun r2 => if r2 = 0 then some (-2 : Int32) else bp (fX6_worldsOf σ 3 (σ.1 3 7)) (fun r3 => lt r3 (fun v4 => gd (ir a1 12) (bp (fJ6_bitCount_0f7a4 (v4 &&& (σ.1 (3 + 2) a1.toNatClampNeg))) (fun r5 => lt r5 (fun v6 => bp (fJ6_bitCount_0f7a4 v4) (fun r7 => bp (fX7_partOfFraction v6 r7 a2) (fun r8 => some r8)))))))))
def fX7_refusalOfDishes (σ : St) (a1 : Int32) : Option (Int32) :=
  bp (fX7_refusalOfSlot σ a1) (fun r1 => lt r1 (fun v2 => if v2 = 0 then gd (ir a1 4) (lt (rowp a1.toNatClampNeg) (fun k3 => bp (fX4_areAllBelow σ k3 (σ.1 3 4)) (fun r4 => if r4 = 0 then some (-2 : Int32) else gd (ir a1 4) (lt (rowp a1.toNatClampNeg) (fun k5 => bp (fX4_asSet σ k5) (fun r6 => if (r6 &&& (σ.1 3 7)) = 0 then some (0 : Int32) else some (-2 : Int32))))))) else some v2))
def fX7_refusalOfPairs (σ : St) (a1 : Int32) : Option (Int32) :=
  bp (fX7_refusalOfSlot σ a1) (fun r1 => lt r1 (fun v2 => if v2 = 0 then gd (ir a1 4) (lt (rowp a1.toNatClampNeg) (fun k3 => bp (fX4_arePairsBelow σ k3 (σ.1 3 6) (σ.1 3 5)) (fun r4 => if r4 = 0 then some (-2 : Int32) else some (0 : Int32)))) else some v2))
def fX7_refusalOfSteps (σ : St) (a1 : Int32) : Option (Int32) :=
  bp (fX7_refusalOfSlot σ a1) (fun r1 => lt r1 (fun v2 => if v2 = 0 then gd (ir a1 4) (lt (rowp a1.toNatClampNeg) (fun k3 => bp (fX4_areAllBelow σ k3 (σ.1 3 5)) (fun r4 => if r4 = 0 then some (-2 : Int32) else some (0 : Int32)))) else some v2))
def fX7_salted (σ : St) : Option (Int32) :=
  bp (fX6_isTold σ 3) (fun r1 => if r1 = 0 then some (-2 : Int32) else bp (fX6_worldsOf σ 3 (σ.1 3 7)) (fun r2 => some r2))
def fX7_same_b160 (σ : St) (y0 : Int32) : Option (Int32 × St) :=
  bp (fX7_bit y0) (fun r1 => some (r1, σ))
def fX7_same (σ : St) (a1 : Int32) (a2 : Int32) (a3 : Int32) : Option (Int32 × St) :=
  bp (fX6_hasClaim σ 3 a3) (fun r2 => if r2 = 0 then some ((-2 : Int32), σ) else bp (fX7_isSlot a1) (fun r3 => if r3 = 0 then some ((-2 : Int32), σ) else bp (fX7_isSlot a2) (fun r4 => if r4 = 0 then some ((-2 : Int32), σ) else gd (ir a1 4) (lt (rowp a1.toNatClampNeg) (fun k5 => if (σ.1 k5 0) = 0 then some ((-6 : Int32), σ) else gd (ir a2 4) (lt (rowp a2.toNatClampNeg) (fun k6 => if (σ.1 k6 0) = 0 then some ((-6 : Int32), σ) else gd (ir a1 4) (lt (rowp a1.toNatClampNeg) (fun k7 => bp (fX4_areAllBelow σ k7 (σ.1 3 5)) (fun r8 => if r8 = 0 then some ((-2 : Int32), σ) else gd (ir a2 4) (lt (rowp a2.toNatClampNeg) (fun k9 => bp (fX4_areAllBelow σ k9 (σ.1 3 5)) (fun r10 => if r10 = 0 then some ((-2 : Int32), σ) else gd (ir a1 4) (lt (rowp a1.toNatClampNeg) (fun k11 => bp (fX3_read σ 3 k11) (fun σ12 => gd (ir a3 12) (lt (σ12.1 54 a3.toNatClampNeg) (fun v13 => gd (ir a2 4) (lt (rowp a2.toNatClampNeg) (fun k14 => bp (fX3_read σ12 3 k14) (fun σ15 => gd (ir a3 12) (if v13 = (σ15.1 54 a3.toNatClampNeg) then fX7_same_b160 σ15 (1 : Int32) else fX7_same_b160 σ15 (0 : Int32)))))))))))))))))))))))
def fX7_strength (σ : St) (a1 : Int32) : Option (Int32) :=
  bp (fX6_isGuestSet σ 3 a1) (fun r1 => if r1 = 0 then some (-2 : Int32) else bp (fX6_teamCanDo σ 3 a1) (fun r2 => some r2))
def fX1_cookPair (σ : St) (t : Nat) (a2 : Int32) (a3 : Int32) : Option (Int32 × St) :=
  gd (ir a3 12) (bp (fX1_hourOfAll σ t (σ.1 (t + 4) a3.toNatClampNeg)) (fun r1 => lt r1 (fun v2 => if v2 = (-1 : Int32) then gd ((0 : Int32) = 0 ∨ (0 : Int32) = 1) (some ((0 : Int32), σ)) else gd (ir a2 5) (if (((σ.1 (t + 6) a2.toNatClampNeg) >>> (a3 &&& 31)) &&& (1 : Int32)) = 0 then gd ((0 : Int32) = 0 ∨ (0 : Int32) = 1) (some ((0 : Int32), σ)) else gd (ir a2 5) (gd (ir a2 5) (lt ((if v2 < (σ.1 58 a2.toNatClampNeg) then (σ.1 58 a2.toNatClampNeg) else v2) + (σ.1 (t + 5) a2.toNatClampNeg)) (fun v3 => if v3 ≤ (σ.1 t 2) then gd (ir a3 12) (bp (fX1_give σ (σ.1 (t + 3) a3.toNatClampNeg) a2 v3) (fun σ4 => gd (ir a2 5) (lt (setI σ4 58 a2.toNatClampNeg v3) (fun σ5 => gd (ir a2 5) (gd (ir a2 5) (gd (ir a2 5) (lt (setI σ5 59 a2.toNatClampNeg ((σ5.1 59 a2.toNatClampNeg) + (σ5.1 (t + 5) a2.toNatClampNeg))) (fun σ6 => lt (setI σ6 55 1 (if (σ6.1 55 1) < v3 then v3 else (σ6.1 55 1))) (fun σ7 => lt (setI σ7 55 0 ((σ7.1 55 0) + (1 : Int32))) (fun σ8 => gd ((1 : Int32) = 0 ∨ (1 : Int32) = 1) (some ((1 : Int32), σ8)))))))))))) else gd ((0 : Int32) = 0 ∨ (0 : Int32) = 1) (some ((0 : Int32), σ)))))))))
def fX2_readNumber_b31 (σ : St) : Option (Int32 × St) :=
  bs (fX2_fail σ (2 : Int32)) (fun r1 σ2 => some ((-1 : Int32), σ2))
def fX2_readNumber (σ : St) (a1 : Int32) (a2 : Int32) : Option (Int32 × St) :=
  if (σ.1 1 4) = (2 : Int32) then lt (σ.1 1 7) (fun v3 => if v3 < a1 then fX2_readNumber_b31 σ else if v3 ≤ a2 then bp (fX2_advance σ) (fun σ4 => some (v3, σ4)) else fX2_readNumber_b31 σ) else bs (fX2_fail σ (1 : Int32)) (fun r5 σ6 => some ((-1 : Int32), σ6))
def fX2_readSign (σ : St) : Option (Int32 × St) :=
  if (σ.1 1 4) = (3 : Int32) then bp (fX2_advance σ) (fun σ1 => gd ((1 : Int32) = 0 ∨ (1 : Int32) = 1) (some ((1 : Int32), σ1))) else bs (fX2_fail σ (1 : Int32)) (fun r2 σ3 => gd (r2 = 0 ∨ r2 = 1) (some (r2, σ3)))
def fX5_countLeast_b45 (σ : St) (h : Nat) (kr8 : Int32 → Int32 → Int32 → Int32 → Int32 → Option (Int32)) (x1 : Int32) (x2 : Int32) (x3 : Int32) (x4 : Int32) (x5 : Int32) : Option (Int32) :=
  bp (fX5_subsetBehind x4 x1) (fun r1 => lt r1 (fun v2 => lt (x5 + 1) (fun v3 => kr8 x1 x2 x3 v2 v3)))
def fX5_countLeast_B8 (σ : St) (h : Nat) (kr8 : Int32 → Int32 → Int32 → Int32 → Int32 → Option (Int32)) (x1 : Int32) (x2 : Int32) (x3 : Int32) (x4 : Int32) (x5 : Int32) : Option (Int32) :=
  bp (fX5_subsetsOf x1) (fun r4 => if r4 ≤ x5 then some x3 else gd (ir x4 4096) (if (((σ.1 (h + 1) x4.toNatClampNeg) >>> (x2 &&& 31)) &&& (1 : Int32)) = (1 : Int32) then bp (fX5_isLeast σ h x4 x2) (fun r5 => if r5 = 0 then fX5_countLeast_b45 σ h kr8 x1 x2 x3 x4 x5 else lt (x3 + 1) (fun v6 => fX5_countLeast_b45 σ h kr8 x1 x2 v6 x4 x5)) else fX5_countLeast_b45 σ h kr8 x1 x2 x3 x4 x5))
def fX5_countLeast_l8 (σ : St) (h : Nat) : Nat → Int32 → Int32 → Int32 → Int32 → Int32 → Option (Int32)
  | 0 => fun _ _ _ _ _ => none
  | n + 1 => fX5_countLeast_B8 σ h (fX5_countLeast_l8 σ h n)
def fX5_countLeast (σ : St) (h : Nat) (a1 : Int32) (a2 : Int32) : Option (Int32) :=
  lt (0 : Int32) (fun v7 => lt (0 : Int32) (fun v8 => lt (0 : Int32) (fun v9 => fX5_countLeast_l8 σ h FU a1 a2 v7 v8 v9)))
def fX5_fillWithProofs_B13 (h : Nat) (t : Nat) (kr13 : St → Int32 → Int32 → Int32 → Option (St)) (σ : St) (x2 : Int32) (x4 : Int32) (x5 : Int32) : Option (St) :=
  bp (fX5_subsetsOf x2) (fun r1 => if r1 ≤ x5 then some σ else bp (fX5_subsetBehind x4 x2) (fun r2 => lt r2 (fun v3 => bp (fX5_withoutLowest v3) (fun r4 => gd (ir r4 4096) (lt (σ.1 (h + 1) r4.toNatClampNeg) (fun v5 => bp (fX7_lowestBit v3) (fun r6 => bp (fX6_goes σ t r6 v5) (fun r7 => if r7 = 0 then gd (ir v3 4096) (lt (setI σ (h + 1) v3.toNatClampNeg v5) (fun σ8 => lt (x5 + 1) (fun v9 => kr13 σ8 x2 v3 v9))) else bp (fX6_spread σ t v3 v5) (fun r10 => gd (ir v3 4096) (lt (setI σ (h + 1) v3.toNatClampNeg r10) (fun σ11 => lt (x5 + 1) (fun v12 => kr13 σ11 x2 v3 v12))))))))))))
def fX5_fillWithProofs_l13 (h : Nat) (t : Nat) : Nat → St → Int32 → Int32 → Int32 → Option (St)
  | 0 => fun _ _ _ _ => none
  | n + 1 => fX5_fillWithProofs_B13 h t (fX5_fillWithProofs_l13 h t n)
def fX5_fillWithProofs (σ : St) (h : Nat) (t : Nat) (a2 : Int32) (a3 : Int32) : Option (St) :=
  gd (ir (0 : Int32) 4096) (lt (setI σ (h + 1) (0 : Int32).toNatClampNeg a3) (fun σ13 => lt (0 : Int32) (fun v14 => lt (1 : Int32) (fun v15 => fX5_fillWithProofs_l13 h t FU σ13 a2 v14 v15))))
def fX5_fillWithRuledOut_B11 (h : Nat) (t : Nat) (kr11 : St → Int32 → Int32 → Option (St)) (σ : St) (x2 : Int32) (x3 : Int32) : Option (St) :=
  bp (fX5_subsetsOf (σ.1 t 7)) (fun r1 => if r1 ≤ x3 then some σ else bp (fX5_subsetBehind x2 (σ.1 t 7)) (fun r2 => lt r2 (fun v3 => bp (fX5_withoutLowest v3) (fun r4 => gd (ir r4 4096) (bp (fX6_allWorlds σ t) (fun r5 => bp (fX7_lowestBit v3) (fun r6 => gd (ir r6 12) (gd (ir v3 4096) (lt (setI σ (h + 1) v3.toNatClampNeg ((σ.1 (h + 1) r4.toNatClampNeg) ||| (r5 &&& ((σ.1 (t + 2) r6.toNatClampNeg) ^^^ (-1 : Int32))))) (fun σ7 => lt (x3 + 1) (fun v8 => kr11 σ7 v3 v8)))))))))))
def fX5_fillWithRuledOut_l11 (h : Nat) (t : Nat) : Nat → St → Int32 → Int32 → Option (St)
  | 0 => fun _ _ _ => none
  | n + 1 => fX5_fillWithRuledOut_B11 h t (fX5_fillWithRuledOut_l11 h t n)
def fX5_fillWithRuledOut (σ : St) (h : Nat) (t : Nat) : Option (St) :=
  gd (ir (0 : Int32) 4096) (lt (setI σ (h + 1) (0 : Int32).toNatClampNeg (0 : Int32)) (fun σ9 => lt (0 : Int32) (fun v10 => lt (1 : Int32) (fun v11 => fX5_fillWithRuledOut_l11 h t FU σ9 v10 v11))))
def fX5_fillWithSaltProofs_B19 (h : Nat) (t : Nat) (kr19 : St → Int32 → Int32 → Option (St)) (σ : St) (x2 : Int32) (x3 : Int32) : Option (St) :=
  bp (fX5_subsetsOf (σ.1 t 7)) (fun r1 => if r1 ≤ x3 then some σ else bp (fX5_subsetBehind x2 (σ.1 t 7)) (fun r2 => lt r2 (fun v3 => bp (fX6_allSteps σ t) (fun r4 => bp (fX5_withoutLowest v3) (fun r5 => gd (ir r5 4096) (bp (fX6_spread σ t r4 ((σ.1 (h + 1) r5.toNatClampNeg) ||| v3)) (fun r6 => gd (ir v3 4096) (lt (setI σ (h + 1) v3.toNatClampNeg r6) (fun σ7 => lt (x3 + 1) (fun v8 => kr19 σ7 v3 v8))))))))))
def fX5_fillWithSaltProofs_l19 (h : Nat) (t : Nat) : Nat → St → Int32 → Int32 → Option (St)
  | 0 => fun _ _ _ => none
  | n + 1 => fX5_fillWithSaltProofs_B19 h t (fX5_fillWithSaltProofs_l19 h t n)
def fX5_fillWithSaltProofs (σ : St) (h : Nat) (t : Nat) : Option (St) :=
  bp (fX6_allSteps σ t) (fun r9 => bp (fX6_spread σ t r9 (0 : Int32)) (fun r10 => gd (ir (0 : Int32) 4096) (lt (setI σ (h + 1) (0 : Int32).toNatClampNeg r10) (fun σ11 => lt (0 : Int32) (fun v12 => lt (1 : Int32) (fun v13 => fX5_fillWithSaltProofs_l19 h t FU σ11 v12 v13))))))
def fX5_leastSet_b73 (σ : St) (h : Nat) (kr23 : Int32 → Int32 → Int32 → Int32 → Int32 → Option (Int32)) (x1 : Int32) (x2 : Int32) (x3 : Int32) (x4 : Int32) (x5 : Int32) : Option (Int32) :=
  bp (fX5_subsetBehind x4 x1) (fun r1 => lt r1 (fun v2 => lt (x5 + 1) (fun v3 => kr23 x1 x2 x3 v2 v3)))
def fX5_leastSet_b51 (σ : St) (h : Nat) (kr23 : Int32 → Int32 → Int32 → Int32 → Int32 → Option (Int32)) (x1 : Int32) (x2 : Int32) (x3 : Int32) (x4 : Int32) (x5 : Int32) (y0 : Int32) : Option (Int32) :=
  lt y0 (fun v4 => if v4 = 0 then fX5_leastSet_b73 σ h kr23 x1 x2 x3 x4 x5 else bp (fJ6_bitCount_0f7a4 x4) (fun r5 => bp (fJ6_bitCount_0f7a4 x3) (fun r6 => if r6 ≤ r5 then fX5_leastSet_b73 σ h kr23 x1 x2 x3 x4 x5 else lt x4 (fun v7 => fX5_leastSet_b73 σ h kr23 x1 x2 v7 x4 x5))))
def fX5_leastSet_B23 (σ : St) (h : Nat) (kr23 : Int32 → Int32 → Int32 → Int32 → Int32 → Option (Int32)) (x1 : Int32) (x2 : Int32) (x3 : Int32) (x4 : Int32) (x5 : Int32) : Option (Int32) :=
  bp (fX5_subsetsOf x1) (fun r8 => if r8 ≤ x5 then some x3 else gd (ir x4 4096) (if (x2 &&& ((σ.1 (h + 1) x4.toNatClampNeg) ^^^ (-1 : Int32))) = 0 then fX5_leastSet_b51 σ h kr23 x1 x2 x3 x4 x5 (1 : Int32) else fX5_leastSet_b51 σ h kr23 x1 x2 x3 x4 x5 (0 : Int32)))
def fX5_leastSet_l23 (σ : St) (h : Nat) : Nat → Int32 → Int32 → Int32 → Int32 → Int32 → Option (Int32)
  | 0 => fun _ _ _ _ _ => none
  | n + 1 => fX5_leastSet_B23 σ h (fX5_leastSet_l23 σ h n)
def fX5_leastSet (σ : St) (h : Nat) (a1 : Int32) (a2 : Int32) : Option (Int32) :=
  gd (ir a1 4096) (if (a2 &&& ((σ.1 (h + 1) a1.toNatClampNeg) ^^^ (-1 : Int32))) = 0 then lt a1 (fun v9 => lt (0 : Int32) (fun v10 => lt (0 : Int32) (fun v11 => fX5_leastSet_l23 σ h FU a1 a2 v9 v10 v11))) else some (-1 : Int32))
def fX5_menuSet_b114 (σ : St) (h : Nat) (t : Nat) (kr12 : Int32 → Int32 → Int32 → Int32 → Int32 → Int32 → Option (Int32)) (x2 : Int32) (x3 : Int32) (x4 : Int32) (x5 : Int32) (x6 : Int32) (x7 : Int32) : Option (Int32) :=
  bp (fX5_subsetBehind x6 x2) (fun r1 => lt r1 (fun v2 => lt (x7 + 1) (fun v3 => kr12 x2 x3 x4 x5 v2 v3)))
def fX5_menuSet_b106 (σ : St) (h : Nat) (t : Nat) (kr12 : Int32 → Int32 → Int32 → Int32 → Int32 → Int32 → Option (Int32)) (x2 : Int32) (x3 : Int32) (x6 : Int32) (x7 : Int32) (x10 : Int32) : Option (Int32) :=
  lt x6 (fun v4 => lt x10 (fun v5 => fX5_menuSet_b114 σ h t kr12 x2 x3 v4 v5 x6 x7))
def fX5_menuSet_b92 (σ : St) (h : Nat) (t : Nat) (kr12 : Int32 → Int32 → Int32 → Int32 → Int32 → Int32 → Option (Int32)) (x2 : Int32) (x3 : Int32) (x4 : Int32) (x5 : Int32) (x6 : Int32) (x7 : Int32) (x10 : Int32) (y0 : Int32) : Option (Int32) :=
  lt y0 (fun v6 => if x5 < x10 then fX5_menuSet_b106 σ h t kr12 x2 x3 x6 x7 x10 else if v6 = 0 then fX5_menuSet_b114 σ h t kr12 x2 x3 x4 x5 x6 x7 else fX5_menuSet_b106 σ h t kr12 x2 x3 x6 x7 x10)
def fX5_menuSet_b91 (σ : St) (h : Nat) (t : Nat) (kr12 : Int32 → Int32 → Int32 → Int32 → Int32 → Int32 → Option (Int32)) (x2 : Int32) (x3 : Int32) (x4 : Int32) (x5 : Int32) (x6 : Int32) (x7 : Int32) (x10 : Int32) : Option (Int32) :=
  fX5_menuSet_b92 σ h t kr12 x2 x3 x4 x5 x6 x7 x10 (0 : Int32)
def fX5_menuSet_B12 (σ : St) (h : Nat) (t : Nat) (kr12 : Int32 → Int32 → Int32 → Int32 → Int32 → Int32 → Option (Int32)) (x2 : Int32) (x3 : Int32) (x4 : Int32) (x5 : Int32) (x6 : Int32) (x7 : Int32) : Option (Int32) :=
  bp (fX5_subsetsOf x2) (fun r7 => if r7 ≤ x7 then some x4 else gd (ir x6 4096) (gd (ir (0 : Int32) 4096) (lt ((σ.1 (h + 1) x6.toNatClampNeg) &&& ((σ.1 (h + 1) (0 : Int32).toNatClampNeg) ^^^ (-1 : Int32))) (fun v8 => bp (fJ6_bitCount_0f7a4 x6) (fun r9 => lt r9 (fun v10 => if x3 < v10 then fX5_menuSet_b114 σ h t kr12 x2 x3 x4 x5 x6 x7 else bp (fJ6_bitCount_0f7a4 v8) (fun r11 => if v10 = r11 then bp (fX6_worthOf σ t v8) (fun r12 => lt r12 (fun v13 => if v13 = x5 then bp (fJ6_bitCount_0f7a4 x4) (fun r14 => if r14 ≤ v10 then fX5_menuSet_b91 σ h t kr12 x2 x3 x4 x5 x6 x7 v13 else fX5_menuSet_b92 σ h t kr12 x2 x3 x4 x5 x6 x7 v13 (1 : Int32)) else fX5_menuSet_b91 σ h t kr12 x2 x3 x4 x5 x6 x7 v13)) else fX5_menuSet_b114 σ h t kr12 x2 x3 x4 x5 x6 x7)))))))
def fX5_menuSet_l12 (σ : St) (h : Nat) (t : Nat) : Nat → Int32 → Int32 → Int32 → Int32 → Int32 → Int32 → Option (Int32)
  | 0 => fun _ _ _ _ _ _ => none
  | n + 1 => fX5_menuSet_B12 σ h t (fX5_menuSet_l12 σ h t n)
def fX5_menuSet (σ : St) (h : Nat) (t : Nat) (a2 : Int32) (a3 : Int32) : Option (Int32) :=
  lt (0 : Int32) (fun v15 => lt (0 : Int32) (fun v16 => lt (0 : Int32) (fun v17 => lt (0 : Int32) (fun v18 => fX5_menuSet_l12 σ h t FU a2 a3 v15 v16 v17 v18))))
def fX6_falseWorlds (σ : St) (t : Nat) (a1 : Int32) : Option (Int32) :=
  gd (ir a1 12) (bp (fX6_worldsOf σ t (σ.1 (t + 4) a1.toNatClampNeg)) (fun r1 => gd (ir a1 12) (gd (ir (σ.1 (t + 3) a1.toNatClampNeg) 12) (some (r1 &&& ((σ.1 (t + 2) (σ.1 (t + 3) a1.toNatClampNeg).toNatClampNeg) ^^^ (-1 : Int32)))))))
def fX6_following_B13 (σ : St) (t : Nat) (kr13 : Int32 → Int32 → Int32 → Option (Int32)) (x1 : Int32) (x2 : Int32) (x3 : Int32) : Option (Int32) :=
  if (σ.1 t 4) ≤ x3 then some x2 else gd (ir x3 12) (if (x1 &&& ((σ.1 (t + 2) x3.toNatClampNeg) ^^^ (-1 : Int32))) = 0 then lt (x2 ||| ((1 : Int32) <<< (x3 &&& 31))) (fun v2 => lt (x3 + 1) (fun v3 => kr13 x1 v2 v3)) else lt (x3 + 1) (fun v1 => kr13 x1 x2 v1))
def fX6_following_l13 (σ : St) (t : Nat) : Nat → Int32 → Int32 → Int32 → Option (Int32)
  | 0 => fun _ _ _ => none
  | n + 1 => fX6_following_B13 σ t (fX6_following_l13 σ t n)
def fX6_following (σ : St) (t : Nat) : Option (Int32) :=
  bp (fX6_worldsOf σ t (σ.1 t 7)) (fun r4 => lt r4 (fun v5 => lt (0 : Int32) (fun v6 => lt (0 : Int32) (fun v7 => fX6_following_l13 σ t FU v5 v6 v7))))
def fX6_followsFrom (σ : St) (t : Nat) (a1 : Int32) (a2 : Int32) : Option (Int32) :=
  bp (fX6_worldsOf σ t a1) (fun r1 => gd (ir a2 12) (if (r1 &&& ((σ.1 (t + 2) a2.toNatClampNeg) ^^^ (-1 : Int32))) = 0 then gd ((1 : Int32) = 0 ∨ (1 : Int32) = 1) (some (1 : Int32)) else gd ((0 : Int32) = 0 ∨ (0 : Int32) = 1) (some (0 : Int32))))
def fX6_leftAtWorst (σ : St) (t : Nat) (a1 : Int32) : Option (Int32) :=
  bp (fX6_worldsOf σ t (σ.1 t 7)) (fun r1 => lt r1 (fun v2 => gd (ir a1 12) (bp (fJ6_bitCount_0f7a4 (v2 &&& (σ.1 (t + 2) a1.toNatClampNeg))) (fun r3 => lt r3 (fun v4 => bp (fJ6_bitCount_0f7a4 v2) (fun r5 => some (if v4 < (r5 - v4) then (r5 - v4) else v4)))))))
def fX8_adds (σ : St) (a1 : Int32) (a2 : Int32) : Option (Int32 × St) :=
  bp (fX8_isClaim σ (a1.toInt64)) (fun r1 => if r1 = 0 then some ((-2 : Int32), σ) else bp (fX8_areClaims σ a2) (fun r2 => if r2 = 0 then some ((-2 : Int32), σ) else bp (fX8_bits a2) (fun r3 => bp (fX8_in (r3.toInt64) (1 : Int64) (3 : Int64)) (fun r4 => if r4 = 0 then some ((-2 : Int32), σ) else gd (ir (4 : Int32) 70) (if (σ.1 63 (4 : Int32).toNatClampNeg) = (12 : Int32) then some ((-3 : Int32), σ) else gd (ir (4 : Int32) 70) (gd (ir (((43 : Int32) + ((2 : Int32) * (σ.1 63 (4 : Int32).toNatClampNeg))) + (0 : Int32)) 70) (lt (setI σ 63 (((43 : Int32) + ((2 : Int32) * (σ.1 63 (4 : Int32).toNatClampNeg))) + (0 : Int32)).toNatClampNeg a1) (fun σ5 => gd (ir (4 : Int32) 70) (gd (ir (((43 : Int32) + ((2 : Int32) * (σ5.1 63 (4 : Int32).toNatClampNeg))) + (1 : Int32)) 70) (lt (setI σ5 63 (((43 : Int32) + ((2 : Int32) * (σ5.1 63 (4 : Int32).toNatClampNeg))) + (1 : Int32)).toNatClampNeg a2) (fun σ6 => gd (ir (4 : Int32) 70) (gd (ir (4 : Int32) 70) (lt (setI σ6 63 (4 : Int32).toNatClampNeg ((σ6.1 63 (4 : Int32).toNatClampNeg) + (1 : Int32))) (fun σ7 => gd (ir (4 : Int32) 70) (some (((σ7.1 63 (4 : Int32).toNatClampNeg) - (1 : Int32)), σ7))))))))))))))))
def fX8_alike_b54 (σ : St) (kr16 : Int32 → Int32 → Int32 → Option (Int32)) (x1 : Int32) (x3 : Int32) (y0 : Int32) (y1 : Int32) : Option (Int32) :=
  lt (y0 ||| y1) (fun v1 => lt (x3 + 1) (fun v2 => kr16 x1 v1 v2))
def fX8_alike_b53 (σ : St) (kr16 : Int32 → Int32 → Int32 → Option (Int32)) (x1 : Int32) (x3 : Int32) (y0 : Int32) : Option (Int32) :=
  fX8_alike_b54 σ kr16 x1 x3 y0 (0 : Int32)
def fX8_alike_B16 (σ : St) (kr16 : Int32 → Int32 → Int32 → Option (Int32)) (x1 : Int32) (x2 : Int32) (x3 : Int32) : Option (Int32) :=
  gd (ir (3 : Int32) 70) (if (σ.1 63 (3 : Int32).toNatClampNeg) ≤ x3 then some x2 else if x3 = x1 then fX8_alike_b53 σ kr16 x1 x3 x2 else bp (fX8_ofClaim σ x3 (2 : Int32)) (fun r3 => bp (fX8_ofClaim σ x1 (2 : Int32)) (fun r4 => if r3 = r4 then fX8_alike_b54 σ kr16 x1 x3 x2 ((1 : Int32) <<< (x3 &&& 31)) else fX8_alike_b53 σ kr16 x1 x3 x2)))
def fX8_alike_l16 (σ : St) : Nat → Int32 → Int32 → Int32 → Option (Int32)
  | 0 => fun _ _ _ => none
  | n + 1 => fX8_alike_B16 σ (fX8_alike_l16 σ n)
def fX8_alike (σ : St) (a1 : Int32) : Option (Int32) :=
  bp (fX8_isClaim σ (a1.toInt64)) (fun r5 => if r5 = 0 then some (-2 : Int32) else lt (0 : Int32) (fun v6 => lt (0 : Int32) (fun v7 => fX8_alike_l16 σ FU a1 v6 v7)))
def fX8_asksEaten_B36 (σ : St) (kr36 : Int32 → Int32 → Option (Int32)) (x1 : Int32) (x3 : Int32) : Option (Int32) :=
  gd (ir x1 4) (if (σ.1 78 x1.toNatClampNeg) ≤ x3 then some (0 : Int32) else bp (fX8_numberAt σ x1 x3) (fun r1 => bp (fX8_isClaim σ r1) (fun r2 => if r2 = 0 then some (-2 : Int32) else bp (fX8_numberAt σ x1 x3) (fun r3 => bp (fX8_ofClaim σ (r3.toInt32) (1 : Int32)) (fun r4 => if r4 = (1 : Int32) then some (-2 : Int32) else lt (x3 + 1) (fun v5 => kr36 x1 v5))))))
def fX8_asksEaten_l36 (σ : St) : Nat → Int32 → Int32 → Option (Int32)
  | 0 => fun _ _ => none
  | n + 1 => fX8_asksEaten_B36 σ (fX8_asksEaten_l36 σ n)
def fX8_asksEaten (σ : St) (a1 : Int32) (a2 : Int32) : Option (Int32) :=
  bp (fX8_isSlot a1) (fun r6 => if r6 = 0 then some (-2 : Int32) else bp (fX8_isTable σ) (fun r7 => if r7 = 0 then some (-2 : Int32) else if a2 = 0 then some (-2 : Int32) else gd (ir a1 4) (if (σ.1 78 a1.toNatClampNeg) = (-1 : Int32) then some (-6 : Int32) else lt (0 : Int32) (fun v8 => fX8_asksEaten_l36 σ FU a1 v8))))
def fX8_asksKitchen_B50 (σ : St) (kr50 : Int32 → Int32 → Option (Int32)) (x1 : Int32) (x3 : Int32) : Option (Int32) :=
  gd (ir x1 4) (if (σ.1 78 x1.toNatClampNeg) ≤ x3 then some (0 : Int32) else bp (fX8_numberAt σ x1 x3) (fun r1 => bp (fX8_isGuest σ r1) (fun r2 => if r2 = 0 then some (-2 : Int32) else bp (fX8_numberAt σ x1 (x3 + (1 : Int32))) (fun r3 => bp (fX8_isStep σ r3) (fun r4 => if r4 = 0 then some (-2 : Int32) else lt (x3 + 2) (fun v5 => kr50 x1 v5))))))
def fX8_asksKitchen_l50 (σ : St) : Nat → Int32 → Int32 → Option (Int32)
  | 0 => fun _ _ => none
  | n + 1 => fX8_asksKitchen_B50 σ (fX8_asksKitchen_l50 σ n)
def fX8_asksKitchen (σ : St) (a1 : Int32) (a2 : Int32) : Option (Int32) :=
  bp (fX8_isSlot a1) (fun r6 => if r6 = 0 then some (-2 : Int32) else bp (fX8_isTable σ) (fun r7 => if r7 = 0 then some (-2 : Int32) else if a2 = 0 then some (-2 : Int32) else gd (ir a1 4) (if (σ.1 78 a1.toNatClampNeg) = (-1 : Int32) then some (-6 : Int32) else gd (ir a1 4) (gd (¬ (2 : Int32) = 0) (if ((σ.1 78 a1.toNatClampNeg) - (σ.1 78 a1.toNatClampNeg) / (2 : Int32) * (2 : Int32)) = 0 then lt (0 : Int32) (fun v8 => fX8_asksKitchen_l50 σ FU a1 v8) else some (-2 : Int32))))))
def fX8_asksRow_B36 (σ : St) (kr36 : Int32 → Int32 → Option (Int32)) (x1 : Int32) (x3 : Int32) : Option (Int32) :=
  gd (ir x1 4) (if (σ.1 78 x1.toNatClampNeg) ≤ x3 then some (0 : Int32) else bp (fX8_numberAt σ x1 x3) (fun r1 => bp (fX8_isStep σ r1) (fun r2 => if r2 = 0 then some (-2 : Int32) else lt (x3 + 1) (fun v3 => kr36 x1 v3))))
def fX8_asksRow_l36 (σ : St) : Nat → Int32 → Int32 → Option (Int32)
  | 0 => fun _ _ => none
  | n + 1 => fX8_asksRow_B36 σ (fX8_asksRow_l36 σ n)
def fX8_asksRow (σ : St) (a1 : Int32) (a2 : Int32) : Option (Int32) :=
  bp (fX8_isSlot a1) (fun r4 => if r4 = 0 then some (-2 : Int32) else bp (fX8_isTable σ) (fun r5 => if r5 = 0 then some (-2 : Int32) else if a2 = 0 then some (-2 : Int32) else gd (ir a1 4) (if (σ.1 78 a1.toNatClampNeg) = (-1 : Int32) then some (-6 : Int32) else lt (0 : Int32) (fun v6 => fX8_asksRow_l36 σ FU a1 v6))))
def fX8_claim (σ : St) (a1 : Int32) (a2 : Int32) : Option (Int32) :=
  bp (fX8_isClaim σ (a1.toInt64)) (fun r1 => if r1 = 0 then some (-2 : Int32) else bp (fX8_in (a2.toInt64) (0 : Int64) (2 : Int64)) (fun r2 => if r2 = 0 then some (-2 : Int32) else if (2 : Int32) ≤ a2 then bp (fX8_ofClaim σ a1 (2 : Int32)) (fun r3 => bp (fX8_bits r3) (fun r4 => some r4)) else bp (fX8_ofClaim σ a1 a2) (fun r5 => some r5)))
def fX8_claims (σ : St) (a1 : Int32) (a2 : Int32) : Option (Int32 × St) :=
  bp (fX8_isClaim σ (a1.toInt64)) (fun r1 => if r1 = 0 then some ((-2 : Int32), σ) else bp (fX8_in (a2.toInt64) (0 : Int64) (1 : Int64)) (fun r2 => if r2 = 0 then some ((-2 : Int32), σ) else bp (fX8_fillDoubt σ a1 a2) (fun σ3 => gd (ir (1 : Int32) 32) (if (σ3.1 72 (1 : Int32).toNatClampNeg) = 0 then some ((0 : Int32), σ3) else some ((1 : Int32), σ3)))))
def fX8_drawn (σ : St) (a1 : Int32) : Option (Int32) :=
  bp (fX8_isTable σ) (fun r1 => if r1 = 0 then some (-2 : Int32) else bp (fX8_isSeed a1) (fun r2 => if r2 = 0 then some (-2 : Int32) else bp (fX8_holesBy σ (a1.toInt64)) (fun r3 => some r3)))
def fX8_entails (σ : St) (a1 : Int32) (a2 : Int32) : Option (Int32) :=
  bp (fX8_isClaim σ (a1.toInt64)) (fun r1 => if r1 = 0 then some (-2 : Int32) else bp (fX8_isClaim σ (a2.toInt64)) (fun r2 => if r2 = 0 then some (-2 : Int32) else bp (fX8_ofClaim σ a2 (2 : Int32)) (fun r3 => bp (fX8_ofClaim σ a1 (2 : Int32)) (fun r4 => if (r3 &&& (r4 ^^^ (-1 : Int32))) = 0 then some (1 : Int32) else some (0 : Int32)))))
def fX8_fillDuel_B19 (kr5 : St → Int32 → Option (St)) (kr19 : St → Int32 → Int32 → Option (St)) (σ : St) (x1 : Int32) (x2 : Int32) : Option (St) :=
  gd (ir (4 : Int32) 70) (if (σ.1 63 (4 : Int32).toNatClampNeg) ≤ x2 then lt (x1 + (-1)) (fun v1 => kr5 σ v1) else bp (fX8_goes σ x2 x1) (fun r2 => if r2 = 0 then lt (x2 + 1) (fun v3 => kr19 σ x1 v3) else gd (ir x1 4096) (bp (fX8_ofStep σ x2 (0 : Int32)) (fun r4 => gd (ir (x1 ||| ((1 : Int32) <<< (r4 &&& 31))) 4096) (bp (fX8_mine (σ.1 77 (x1 ||| ((1 : Int32) <<< (r4 &&& 31))).toNatClampNeg)) (fun r5 => gd (ir x1 4096) (lt (setI σ 77 x1.toNatClampNeg (if (σ.1 77 x1.toNatClampNeg) < r5 then r5 else (σ.1 77 x1.toNatClampNeg))) (fun σ6 => lt (x2 + 1) (fun v7 => kr19 σ6 x1 v7)))))))))
def fX8_fillDuel_l19 (kr5 : St → Int32 → Option (St)) : Nat → St → Int32 → Int32 → Option (St)
  | 0 => fun _ _ _ => none
  | n + 1 => fX8_fillDuel_B19 kr5 (fX8_fillDuel_l19 kr5 n)
def fX8_fillDuel_B5 (kr5 : St → Int32 → Option (St)) (σ : St) (x1 : Int32) : Option (St) :=
  if x1 < 0 then some σ else gd (ir x1 4096) (lt (setI σ 77 x1.toNatClampNeg (-100 : Int32)) (fun σ8 => lt (0 : Int32) (fun v9 => fX8_fillDuel_l19 kr5 FU σ8 x1 v9)))
def fX8_fillDuel_l5 : Nat → St → Int32 → Option (St)
  | 0 => fun _ _ => none
  | n + 1 => fX8_fillDuel_B5 (fX8_fillDuel_l5 n)
def fX8_fillDuel (σ : St) : Option (St) :=
  bp (fX8_allClaims σ) (fun r10 => lt r10 (fun v11 => fX8_fillDuel_l5 FU σ v11))
def fX8_goKitchen_B81 (kr81 : St → Int32 → Option (St)) (σ : St) (x1 : Int32) : Option (St) :=
  gd (ir x1 4) (if (σ.1 78 x1.toNatClampNeg) ≤ ((2 : Int32) * (σ.1 62 27)) then some σ else bp (fX8_numberAt σ x1 ((2 : Int32) * (σ.1 62 27))) (fun r1 => bp (fX8_numberAt σ x1 (((2 : Int32) * (σ.1 62 27)) + (1 : Int32))) (fun r2 => bs (fX8_cooks σ (r1.toInt32) (r2.toInt32)) (fun r3 σ4 => if r3 = 0 then some σ4 else lt (setI σ4 62 27 ((σ4.1 62 27) + (1 : Int32))) (fun σ5 => kr81 σ5 x1)))))
def fX8_goKitchen_l81 : Nat → St → Int32 → Option (St)
  | 0 => fun _ _ => none
  | n + 1 => fX8_goKitchen_B81 (fX8_goKitchen_l81 n)
def fX8_goKitchen_B46 (kr46 : St → Int32 → Int32 → Option (St)) (σ : St) (x1 : Int32) (x2 : Int32) : Option (St) :=
  if (5 : Int32) ≤ x2 then lt (setI σ 62 28 (0 : Int32)) (fun σ6 => lt (setI σ6 62 27 (0 : Int32)) (fun σ7 => fX8_goKitchen_l81 FU σ7 x1)) else gd (ir x2 5) (lt (setI σ 75 x2.toNatClampNeg (0 : Int32)) (fun σ8 => gd (ir x2 5) (lt (setI σ8 76 x2.toNatClampNeg (0 : Int32)) (fun σ9 => lt (x2 + 1) (fun v10 => kr46 σ9 x1 v10)))))
def fX8_goKitchen_l46 : Nat → St → Int32 → Int32 → Option (St)
  | 0 => fun _ _ _ => none
  | n + 1 => fX8_goKitchen_B46 (fX8_goKitchen_l46 n)
def fX8_goKitchen_b30 (kr2 : St → Int32 → Int32 → Option (St)) (σ : St) (x1 : Int32) (x2 : Int32) (y1 : Int32) (y2 : Int32) : Option (St) :=
  gd (ir y1 12) (lt (setI σ 73 y1.toNatClampNeg y2) (fun σ11 => gd (ir x2 12) (lt (setI σ11 74 x2.toNatClampNeg (0 : Int32)) (fun σ12 => lt (x2 + 1) (fun v13 => kr2 σ12 x1 v13)))))
def fX8_goKitchen_B2 (kr2 : St → Int32 → Int32 → Option (St)) (σ : St) (x1 : Int32) (x2 : Int32) : Option (St) :=
  if (12 : Int32) ≤ x2 then lt (0 : Int32) (fun v14 => fX8_goKitchen_l46 FU σ x1 v14) else bp (fX8_saltNow σ) (fun r15 => bp (fX8_bit r15 x2) (fun r16 => if r16 = (1 : Int32) then fX8_goKitchen_b30 kr2 σ x1 x2 x2 (0 : Int32) else fX8_goKitchen_b30 kr2 σ x1 x2 x2 (-1 : Int32)))
def fX8_goKitchen_l2 : Nat → St → Int32 → Int32 → Option (St)
  | 0 => fun _ _ _ => none
  | n + 1 => fX8_goKitchen_B2 (fX8_goKitchen_l2 n)
def fX8_goKitchen (σ : St) (a1 : Int32) : Option (St) :=
  lt (0 : Int32) (fun v17 => fX8_goKitchen_l2 FU σ a1 v17)
def fX8_guest (σ : St) (a1 : Int32) (a2 : Int32) : Option (Int32) :=
  bp (fX8_isGuest σ (a1.toInt64)) (fun r1 => if r1 = 0 then some (-2 : Int32) else bp (fX8_in (a2.toInt64) (0 : Int64) (2 : Int64)) (fun r2 => if r2 = 0 then some (-2 : Int32) else if (2 : Int32) ≤ a2 then bp (fX8_canDo σ a1) (fun r3 => some r3) else bp (fX8_ofGuest σ a1 a2) (fun r4 => some r4)))
def fX8_holds (σ : St) (a1 : Int32) : Option (Int32) :=
  bp (fX8_isClaim σ (a1.toInt64)) (fun r1 => if r1 = 0 then some (-2 : Int32) else bp (fX8_ofClaim σ a1 (2 : Int32)) (fun r2 => some r2))
def fX8_number_b47 (σ : St) : Option (Int32 × St) :=
  bp (fX8_good σ) (fun r1 => if r1 = 0 then some ((0 : Int32), σ) else lt (σ.1 62 11) (fun v2 => bp (fX8_advance σ) (fun σ3 => some (v2, σ3))))
def fX8_number_b20 (σ : St) (x1 : Int32) (x2 : Int32) : Option (Int32 × St) :=
  bp (fX8_good σ) (fun r4 => if r4 = 0 then fX8_number_b47 σ else bp (fX8_in ((σ.1 62 11).toInt64) (x1.toInt64) (x2.toInt64)) (fun r5 => if r5 = 0 then bp (fX8_errs σ (2 : Int32)) (fun σ6 => fX8_number_b47 σ6) else fX8_number_b47 σ))
def fX8_number (σ : St) (a1 : Int32) (a2 : Int32) : Option (Int32 × St) :=
  bp (fX8_good σ) (fun r7 => if r7 = 0 then fX8_number_b20 σ a1 a2 else if (σ.1 62 10) = (2 : Int32) then fX8_number_b20 σ a1 a2 else bp (fX8_errs σ (1 : Int32)) (fun σ8 => fX8_number_b20 σ8 a1 a2))
def fX8_outcome_b113 (kr33 : St → Int32 → Int32 → Int32 → Option (Int32 × St)) (σ : St) (x2 : Int32) (x4 : Int32) (y0 : Int32) (y1 : Int32) : Option (Int32 × St) :=
  lt (y0 ||| y1) (fun v1 => lt (x4 + 1) (fun v2 => kr33 σ x2 v1 v2))
def fX8_outcome_b112 (kr33 : St → Int32 → Int32 → Int32 → Option (Int32 × St)) (σ : St) (x2 : Int32) (x4 : Int32) (y0 : Int32) : Option (Int32 × St) :=
  fX8_outcome_b113 kr33 σ x2 x4 y0 (0 : Int32)
def fX8_outcome_b57 (kr33 : St → Int32 → Int32 → Int32 → Option (Int32 × St)) (σ : St) (x2 : Int32) (x3 : Int32) (x4 : Int32) (y0 : Int32) : Option (Int32 × St) :=
  lt y0 (fun v3 => gd (ir (((2 : Int32) <<< (x4 &&& 31)) + x3) 32) (lt (σ.1 72 (((2 : Int32) <<< (x4 &&& 31)) + x3).toNatClampNeg) (fun v4 => gd (ir (((2 : Int32) <<< (x4 &&& 31)) + (x3 ||| ((1 : Int32) <<< (x4 &&& 31)))) 32) (lt (σ.1 72 (((2 : Int32) <<< (x4 &&& 31)) + (x3 ||| ((1 : Int32) <<< (x4 &&& 31)))).toNatClampNeg) (fun v5 => if v4 = v5 then fX8_outcome_b112 kr33 σ x2 x4 x3 else if v5 = v3 then fX8_outcome_b113 kr33 σ x2 x4 x3 ((1 : Int32) <<< (x4 &&& 31)) else fX8_outcome_b112 kr33 σ x2 x4 x3)))))
def fX8_outcome_B33 (kr33 : St → Int32 → Int32 → Int32 → Option (Int32 × St)) (σ : St) (x2 : Int32) (x3 : Int32) (x4 : Int32) : Option (Int32 × St) :=
  gd (ir (0 : Int32) 70) (if (σ.1 63 (0 : Int32).toNatClampNeg) ≤ x4 then some (x3, σ) else gd (¬ (2 : Int32) = 0) (if (x4 - x4 / (2 : Int32) * (2 : Int32)) = x2 then fX8_outcome_b57 kr33 σ x2 x3 x4 (1 : Int32) else fX8_outcome_b57 kr33 σ x2 x3 x4 (0 : Int32)))
def fX8_outcome_l33 : Nat → St → Int32 → Int32 → Int32 → Option (Int32 × St)
  | 0 => fun _ _ _ _ => none
  | n + 1 => fX8_outcome_B33 (fX8_outcome_l33 n)
def fX8_outcome (σ : St) (a1 : Int32) (a2 : Int32) : Option (Int32 × St) :=
  bp (fX8_isClaim σ (a1.toInt64)) (fun r6 => if r6 = 0 then some ((-2 : Int32), σ) else bp (fX8_in (a2.toInt64) (0 : Int64) (1 : Int64)) (fun r7 => if r7 = 0 then some ((-2 : Int32), σ) else bp (fX8_fillDoubt σ a1 a2) (fun σ8 => lt (0 : Int32) (fun v9 => lt (0 : Int32) (fun v10 => fX8_outcome_l33 FU σ8 a2 v9 v10)))))
def fX8_paste_B150 (kr150 : St → Int32 → Int32 → Int32 → Int32 → Option (Int32 × St)) (σ : St) (x3 : Int32) (x4 : Int32) (x5 : Int32) (x6 : Int32) : Option (Int32 × St) :=
  if x5 ≤ x6 then some ((0 : Int32), σ) else gd (ir x6 60) (gd (ir ((((60 : Int32) * x3) + x4) + x6) 240) (lt (setL σ 80 ((((60 : Int32) * x3) + x4) + x6).toNatClampNeg (σ.2 81 x6.toNatClampNeg)) (fun σ1 => lt (x6 + 1) (fun v2 => kr150 σ1 x3 x4 x5 v2))))
def fX8_paste_l150 : Nat → St → Int32 → Int32 → Int32 → Int32 → Option (Int32 × St)
  | 0 => fun _ _ _ _ _ => none
  | n + 1 => fX8_paste_B150 (fX8_paste_l150 n)
def fX8_paste_B113 (kr113 : St → Int32 → Int32 → Int32 → Int32 → Int32 → Int32 → Option (Int32 × St)) (σ : St) (x1 : Int32) (x2 : Int32) (x3 : Int32) (x4 : Int32) (x5 : Int32) (x6 : Int32) : Option (Int32 × St) :=
  if x5 ≤ x6 then lt (0 : Int32) (fun v3 => fX8_paste_l150 FU σ x3 x4 x5 v3) else gd (ir ((((60 : Int32) * x1) + x2) + x6) 240) (gd (ir x6 60) (lt (setL σ 81 x6.toNatClampNeg (σ.2 80 ((((60 : Int32) * x1) + x2) + x6).toNatClampNeg)) (fun σ4 => lt (x6 + 1) (fun v5 => kr113 σ4 x1 x2 x3 x4 x5 v5))))
def fX8_paste_l113 : Nat → St → Int32 → Int32 → Int32 → Int32 → Int32 → Int32 → Option (Int32 × St)
  | 0 => fun _ _ _ _ _ _ _ => none
  | n + 1 => fX8_paste_B113 (fX8_paste_l113 n)
def fX8_paste (σ : St) (a1 : Int32) (a2 : Int32) (a3 : Int32) (a4 : Int32) (a5 : Int32) : Option (Int32 × St) :=
  bp (fX8_isSlot a1) (fun r6 => if r6 = 0 then some ((-2 : Int32), σ) else bp (fX8_isSlot a3) (fun r7 => if r7 = 0 then some ((-2 : Int32), σ) else gd (ir a1 4) (if (σ.1 78 a1.toNatClampNeg) = (-1 : Int32) then some ((-6 : Int32), σ) else gd (ir a3 4) (if (σ.1 78 a3.toNatClampNeg) = (-1 : Int32) then some ((-6 : Int32), σ) else gd (ir a1 4) (gd (ir a3 4) (if (σ.1 79 a1.toNatClampNeg) = (σ.1 79 a3.toNatClampNeg) then if a2 < 0 then some ((-7 : Int32), σ) else if a4 < 0 then some ((-7 : Int32), σ) else if a5 < 0 then some ((-7 : Int32), σ) else gd (ir a1 4) (if 0 < (lg_cmp ((a2.toInt64) + (a5.toInt64)) ((σ.1 78 a1.toNatClampNeg).toInt64)) then some ((-7 : Int32), σ) else gd (ir a3 4) (if (lg_cmp ((a4.toInt64) + (a5.toInt64)) ((σ.1 78 a3.toNatClampNeg).toInt64)) ≤ 0 then lt (0 : Int32) (fun v8 => fX8_paste_l113 FU σ a1 a2 a3 a4 a5 v8) else some ((-7 : Int32), σ))) else some ((-8 : Int32), σ)))))))
def fX8_provedBy_B16 (σ : St) (kr5 : Int32 → Int32 → Int32 → Option (Int32)) (kr16 : Int32 → Int32 → Int32 → Int32 → Option (Int32)) (x2 : Int32) (x3 : Int32) (x4 : Int32) (x5 : Int32) : Option (Int32) :=
  gd (ir (4 : Int32) 70) (if (σ.1 63 (4 : Int32).toNatClampNeg) ≤ x5 then kr5 x2 x3 x4 else bp (fX8_bit x2 x5) (fun r1 => if r1 = 0 then lt (x5 + 1) (fun v2 => kr16 x2 x3 x4 v2) else bp (fX8_goes σ x5 x3) (fun r3 => if r3 = 0 then lt (x5 + 1) (fun v8 => kr16 x2 x3 x4 v8) else bp (fX8_ofStep σ x5 (0 : Int32)) (fun r4 => lt (x3 ||| ((1 : Int32) <<< (r4 &&& 31))) (fun v5 => lt (1 : Int32) (fun v6 => lt (x5 + 1) (fun v7 => kr16 x2 v5 v6 v7)))))))
def fX8_provedBy_l16 (σ : St) (kr5 : Int32 → Int32 → Int32 → Option (Int32)) : Nat → Int32 → Int32 → Int32 → Int32 → Option (Int32)
  | 0 => fun _ _ _ _ => none
  | n + 1 => fX8_provedBy_B16 σ kr5 (fX8_provedBy_l16 σ kr5 n)
def fX8_provedBy_B5 (σ : St) (kr5 : Int32 → Int32 → Int32 → Option (Int32)) (x2 : Int32) (x3 : Int32) (x4 : Int32) : Option (Int32) :=
  if x4 = 0 then some x3 else lt (0 : Int32) (fun v9 => lt (0 : Int32) (fun v10 => fX8_provedBy_l16 σ kr5 FU x2 x3 v9 v10))
def fX8_provedBy_l5 (σ : St) : Nat → Int32 → Int32 → Int32 → Option (Int32)
  | 0 => fun _ _ _ => none
  | n + 1 => fX8_provedBy_B5 σ (fX8_provedBy_l5 σ n)
def fX8_provedBy (σ : St) (a1 : Int32) (a2 : Int32) : Option (Int32) :=
  lt a1 (fun v11 => lt (1 : Int32) (fun v12 => fX8_provedBy_l5 σ FU a2 v11 v12))
def fX8_readRow_B13 (kr13 : St → Int32 → Option (St)) (σ : St) (x1 : Int32) : Option (St) :=
  gd (ir x1 4) (if (σ.1 78 x1.toNatClampNeg) ≤ (σ.1 62 19) then some σ else bp (fX8_numberAt σ x1 (σ.1 62 19)) (fun r1 => bp (fX8_goes σ (r1.toInt32) (σ.1 62 20)) (fun r2 => if r2 = 0 then some σ else bp (fX8_numberAt σ x1 (σ.1 62 19)) (fun r3 => bp (fX8_ofStep σ (r3.toInt32) (0 : Int32)) (fun r4 => lt (setI σ 62 20 ((σ.1 62 20) ||| ((1 : Int32) <<< (r4 &&& 31)))) (fun σ5 => lt (setI σ5 62 19 ((σ5.1 62 19) + (1 : Int32))) (fun σ6 => kr13 σ6 x1)))))))
def fX8_readRow_l13 : Nat → St → Int32 → Option (St)
  | 0 => fun _ _ => none
  | n + 1 => fX8_readRow_B13 (fX8_readRow_l13 n)
def fX8_readRow (σ : St) (a1 : Int32) : Option (St) :=
  bp (fX8_saltNow σ) (fun r7 => lt (setI σ 62 20 r7) (fun σ8 => lt (setI σ8 62 19 (0 : Int32)) (fun σ9 => fX8_readRow_l13 FU σ9 a1)))
def fX8_row_B52 (kr52 : St → Int32 → Int32 → Option (Int32 × St)) (σ : St) (x1 : Int32) (x4 : Int32) : Option (Int32 × St) :=
  if (60 : Int32) ≤ x4 then some ((0 : Int32), σ) else gd (ir (((60 : Int32) * x1) + x4) 240) (lt (setL σ 80 (((60 : Int32) * x1) + x4).toNatClampNeg (0 : Int64)) (fun σ1 => lt (x4 + 1) (fun v2 => kr52 σ1 x1 v2)))
def fX8_row_l52 : Nat → St → Int32 → Int32 → Option (Int32 × St)
  | 0 => fun _ _ _ => none
  | n + 1 => fX8_row_B52 (fX8_row_l52 n)
def fX8_row (σ : St) (a1 : Int32) (a2 : Int32) (a3 : Int32) : Option (Int32 × St) :=
  bp (fX8_isSlot a1) (fun r3 => if r3 = 0 then some ((-2 : Int32), σ) else bp (fX8_in (a2.toInt64) (0 : Int64) (3 : Int64)) (fun r4 => if r4 = 0 then some ((-2 : Int32), σ) else if a3 ≤ (60 : Int32) then if 0 ≤ a3 then gd (ir a1 4) (lt (setI σ 78 a1.toNatClampNeg a3) (fun σ5 => gd (ir a1 4) (lt (setI σ5 79 a1.toNatClampNeg a2) (fun σ6 => lt (0 : Int32) (fun v7 => fX8_row_l52 FU σ6 a1 v7))))) else some ((-3 : Int32), σ) else some ((-2 : Int32), σ)))
def fX8_salt (σ : St) (a1 : Int32) (a2 : Int32) : Option (Int32 × St) :=
  bp (fX8_isClaim σ (a1.toInt64)) (fun r1 => if r1 = 0 then some ((-2 : Int32), σ) else bp (fX8_in (a2.toInt64) (0 : Int64) (1 : Int64)) (fun r2 => if r2 = 0 then some ((-2 : Int32), σ) else bp (fX8_ofClaim σ a1 (1 : Int32)) (fun r3 => lt r3 (fun v4 => gd (ir (((7 : Int32) + ((3 : Int32) * a1)) + (1 : Int32)) 70) (lt (setI σ 63 (((7 : Int32) + ((3 : Int32) * a1)) + (1 : Int32)).toNatClampNeg a2) (fun σ5 => some (v4, σ5)))))))
def fX8_saltedBy_b40 (σ : St) (kr7 : Int32 → Int32 → Int32 → Option (Int32)) (x1 : Int32) (x3 : Int32) (y0 : Int32) (y1 : Int32) : Option (Int32) :=
  lt (y0 &&& y1) (fun v1 => lt (x3 + 1) (fun v2 => kr7 x1 v1 v2))
def fX8_saltedBy_B7 (σ : St) (kr7 : Int32 → Int32 → Int32 → Option (Int32)) (x1 : Int32) (x2 : Int32) (x3 : Int32) : Option (Int32) :=
  gd (ir (3 : Int32) 70) (if (σ.1 63 (3 : Int32).toNatClampNeg) ≤ x3 then some x2 else bp (fX8_bit x1 x3) (fun r3 => if r3 = (1 : Int32) then bp (fX8_ofClaim σ x3 (2 : Int32)) (fun r5 => fX8_saltedBy_b40 σ kr7 x1 x3 x2 r5) else bp (fX8_allWorlds σ) (fun r4 => fX8_saltedBy_b40 σ kr7 x1 x3 x2 r4)))
def fX8_saltedBy_l7 (σ : St) : Nat → Int32 → Int32 → Int32 → Option (Int32)
  | 0 => fun _ _ _ => none
  | n + 1 => fX8_saltedBy_B7 σ (fX8_saltedBy_l7 σ n)
def fX8_saltedBy (σ : St) (a1 : Int32) : Option (Int32) :=
  bp (fX8_allWorlds σ) (fun r6 => lt r6 (fun v7 => lt (0 : Int32) (fun v8 => fX8_saltedBy_l7 σ FU a1 v7 v8)))
def fX8_strengthOf_b33 (σ : St) (kr4 : Int32 → Int32 → Int32 → Option (Int32)) (x1 : Int32) (x3 : Int32) (y0 : Int32) (y1 : Int32) : Option (Int32) :=
  lt (y0 + y1) (fun v1 => lt (x3 + 1) (fun v2 => kr4 x1 v1 v2))
def fX8_strengthOf_B4 (σ : St) (kr4 : Int32 → Int32 → Int32 → Option (Int32)) (x1 : Int32) (x2 : Int32) (x3 : Int32) : Option (Int32) :=
  gd (ir (5 : Int32) 70) (if (σ.1 63 (5 : Int32).toNatClampNeg) ≤ x3 then some x2 else bp (fX8_bit x1 x3) (fun r3 => if r3 = (1 : Int32) then bp (fX8_canDo σ x3) (fun r4 => fX8_strengthOf_b33 σ kr4 x1 x3 x2 r4) else fX8_strengthOf_b33 σ kr4 x1 x3 x2 (0 : Int32)))
def fX8_strengthOf_l4 (σ : St) : Nat → Int32 → Int32 → Int32 → Option (Int32)
  | 0 => fun _ _ _ => none
  | n + 1 => fX8_strengthOf_B4 σ (fX8_strengthOf_l4 σ n)
def fX8_strengthOf (σ : St) (a1 : Int32) : Option (Int32) :=
  lt (0 : Int32) (fun v5 => lt (0 : Int32) (fun v6 => fX8_strengthOf_l4 σ FU a1 v5 v6))
def fX8_teach (σ : St) (a1 : Int32) (a2 : Int32) (a3 : Int32) : Option (Int32 × St) :=
  bp (fX8_isGuest σ (a1.toInt64)) (fun r1 => if r1 = 0 then some ((-2 : Int32), σ) else bp (fX8_isStep σ (a2.toInt64)) (fun r2 => if r2 = 0 then some ((-2 : Int32), σ) else bp (fX8_in (a3.toInt64) (0 : Int64) (1 : Int64)) (fun r3 => if r3 = 0 then some ((-2 : Int32), σ) else lt (((67 : Int32) + ((2 : Int32) * a1)) + (1 : Int32)) (fun v4 => gd (ir v4 70) (bp (fX8_bit (σ.1 63 v4.toNatClampNeg) a2) (fun r5 => lt r5 (fun v6 => gd (ir v4 70) (gd (ir v4 70) (lt (setI σ 63 v4.toNatClampNeg (((σ.1 63 v4.toNatClampNeg) &&& (((1 : Int32) <<< (a2 &&& 31)) ^^^ (-1 : Int32))) ||| (a3 <<< (a2 &&& 31)))) (fun σ7 => some (v6, σ7)))))))))))
def fX8_write (σ : St) (a1 : Int32) (a2 : Int32) (a3 : Int64) : Option (Int32 × St) :=
  bp (fX8_isSlot a1) (fun r1 => if r1 = 0 then some ((-2 : Int32), σ) else gd (ir a1 4) (if (σ.1 78 a1.toNatClampNeg) = (-1 : Int32) then some ((-6 : Int32), σ) else gd (ir a1 4) (bp (fX8_in (a2.toInt64) (0 : Int64) (((σ.1 78 a1.toNatClampNeg) - (1 : Int32)).toInt64)) (fun r2 => if r2 = 0 then some ((-7 : Int32), σ) else gd (ir a1 4) (bp (fX8_cut a3 (σ.1 79 a1.toNatClampNeg)) (fun r3 => gd (ir (((60 : Int32) * a1) + a2) 240) (lt (setL σ 80 (((60 : Int32) * a1) + a2).toNatClampNeg r3) (fun σ4 => some ((0 : Int32), σ4)))))))))
def fX7_ask_B35 (σ : St) (kr35 : Int32 → Int32 → Int32 → Option (Int32)) (x1 : Int32) (x2 : Int32) (x3 : Int32) : Option (Int32) :=
  if (σ.1 3 4) ≤ x3 then some x1 else bp (fX6_leftAtWorst σ 3 x3) (fun r1 => lt r1 (fun v2 => if x2 ≤ v2 then lt (x3 + 1) (fun v3 => kr35 x1 x2 v3) else lt x3 (fun v4 => lt v2 (fun v5 => lt (x3 + 1) (fun v6 => kr35 v4 v5 v6)))))
def fX7_ask_l35 (σ : St) : Nat → Int32 → Int32 → Int32 → Option (Int32)
  | 0 => fun _ _ _ => none
  | n + 1 => fX7_ask_B35 σ (fX7_ask_l35 σ n)
def fX7_ask (σ : St) : Option (Int32) :=
  bp (fX6_isTold σ 3) (fun r7 => if r7 = 0 then some (-2 : Int32) else lt (-1 : Int32) (fun v8 => bp (fX6_worldsOf σ 3 (σ.1 3 7)) (fun r9 => bp (fJ6_bitCount_0f7a4 r9) (fun r10 => lt r10 (fun v11 => lt (0 : Int32) (fun v12 => fX7_ask_l35 σ FU v8 v11 v12))))))
def fX7_coreSet (σ : St) : Option (Int32 × St) :=
  bp (fX5_fillWithRuledOut σ 51 3) (fun σ1 => bp (fX6_allWorlds σ1 3) (fun r2 => bp (fX5_leastSet σ1 51 (σ1.1 3 7) r2) (fun r3 => some (r3, σ1))))
def fX7_eats_b21 (σ : St) (x1 : Int32) (x2 : Int32) (y0 : Int32) : Option (Int32) :=
  lt y0 (fun v1 => if v1 = 0 then gd (ir x1 4) (lt (rowp x1.toNatClampNeg) (fun k2 => bp (fX3_worthEaten σ 3 k2 x2) (fun r3 => some r3))) else if v1 = (-6 : Int32) then some (-600 : Int32) else some (-100 : Int32))
def fX7_eats (σ : St) (a1 : Int32) (a2 : Int32) : Option (Int32) :=
  bp (fX6_hasGuest σ 3 a2) (fun r4 => if r4 = 0 then fX7_eats_b21 σ a1 a2 (-2 : Int32) else bp (fX7_refusalOfSteps σ a1) (fun r5 => fX7_eats_b21 σ a1 a2 r5))
def fX7_falsity (σ : St) (a1 : Int32) : Option (Int32) :=
  bp (fX6_hasStep σ 3 a1) (fun r1 => if r1 = 0 then some (-2 : Int32) else bp (fX6_falseWorlds σ 3 a1) (fun r2 => bp (fX7_lowestBit r2) (fun r3 => some r3)))
def fX7_follows (σ : St) (a1 : Int32) : Option (Int32) :=
  bp (fX6_hasClaim σ 3 a1) (fun r1 => if r1 = 0 then some (-2 : Int32) else bp (fX6_followsFrom σ 3 (σ.1 3 7) a1) (fun r2 => bp (fX7_bit r2) (fun r3 => some r3)))
def fX7_freshProofs (σ : St) : Option (St) :=
  if (σ.1 0 7) = 0 then some σ else bp (fX6_allSteps σ 3) (fun r1 => bp (fX5_fillWithProofs σ 49 3 r1 (σ.1 3 7)) (fun σ2 => gd ((0 : Int32) = 0 ∨ (0 : Int32) = 1) (lt (setI σ2 0 7 (0 : Int32)) (fun σ3 => some σ3))))
def fX7_idle_b48 (σ : St) (kr17 : Int32 → Int32 → Option (Int32)) (x1 : Int32) (x2 : Int32) (y0 : Int32) : Option (Int32) :=
  lt y0 (fun v1 => if v1 = 0 then lt (x2 + 1) (fun v2 => kr17 x1 v2) else bp (fX6_followsFrom σ 3 ((σ.1 3 7) &&& (((1 : Int32) <<< (x2 &&& 31)) ^^^ (-1 : Int32))) x2) (fun r3 => if r3 = 0 then lt (x2 + 1) (fun v4 => kr17 x1 v4) else lt (x1 ||| ((1 : Int32) <<< (x2 &&& 31))) (fun v5 => lt (x2 + 1) (fun v6 => kr17 v5 v6))))
def fX7_idle_B17 (σ : St) (kr17 : Int32 → Int32 → Option (Int32)) (x1 : Int32) (x2 : Int32) : Option (Int32) :=
  if (σ.1 3 4) ≤ x2 then some x1 else if (((σ.1 3 7) >>> (x2 &&& 31)) &&& (1 : Int32)) = (1 : Int32) then fX7_idle_b48 σ kr17 x1 x2 (1 : Int32) else fX7_idle_b48 σ kr17 x1 x2 (0 : Int32)
def fX7_idle_l17 (σ : St) : Nat → Int32 → Int32 → Option (Int32)
  | 0 => fun _ _ => none
  | n + 1 => fX7_idle_B17 σ (fX7_idle_l17 σ n)
def fX7_idle (σ : St) : Option (Int32) :=
  bp (fX6_isTold σ 3) (fun r7 => if r7 = 0 then some (-2 : Int32) else lt (0 : Int32) (fun v8 => lt (0 : Int32) (fun v9 => fX7_idle_l17 σ FU v8 v9)))
def fX7_leastSaltFor (σ : St) (a1 : Int32) : Option (Int32 × St) :=
  bp (fX5_fillWithSaltProofs σ 51 3) (fun σ1 => bp (fX5_leastSet σ1 51 (σ1.1 3 7) a1) (fun r2 => some (r2, σ1)))
def fX7_reached (σ : St) (a1 : Int32) : Option (Int32 × St) :=
  bp (fX7_refusalOfSteps σ a1) (fun r1 => lt r1 (fun v2 => if v2 = 0 then gd (ir a1 4) (lt (rowp a1.toNatClampNeg) (fun k3 => bp (fX3_read σ 3 k3) (fun σ4 => some ((σ4.1 53 2), σ4)))) else some (v2, σ)))
def fX7_reads (σ : St) (a1 : Int32) : Option (Int32 × St) :=
  bp (fX7_refusalOfSteps σ a1) (fun r1 => lt r1 (fun v2 => if v2 = 0 then gd (ir a1 4) (lt (rowp a1.toNatClampNeg) (fun k3 => bp (fX3_read σ 3 k3) (fun σ4 => some ((σ4.1 53 0), σ4)))) else some (v2, σ)))
def fX7_step_b76 (σ : St) (y0 : Int32) : Option (Int32) :=
  bp (fX7_bit y0) (fun r1 => some r1)
def fX7_step (σ : St) (a1 : Int32) (a2 : Int32) : Option (Int32) :=
  bp (fX6_hasStep σ 3 a1) (fun r2 => if r2 = 0 then some (-2 : Int32) else if a2 = 0 then gd (ir a1 12) (some (σ.1 (3 + 3) a1.toNatClampNeg)) else if a2 = 1 then gd (ir a1 12) (some (σ.1 (3 + 4) a1.toNatClampNeg)) else if a2 = 2 then bp (fX6_falseWorlds σ 3 a1) (fun r3 => if r3 = 0 then fX7_step_b76 σ (1 : Int32) else fX7_step_b76 σ (0 : Int32)) else some (-2 : Int32))
def fX7_used_b21 (σ : St) (x1 : Int32) (x2 : Int32) (y0 : Int32) : Option (Int32 × St) :=
  lt y0 (fun v1 => if v1 = 0 then gd (ir x1 4) (lt (rowp x1.toNatClampNeg) (fun k2 => bp (fX3_read σ 3 k2) (fun σ3 => gd (ir x2 12) (some ((σ3.1 54 x2.toNatClampNeg), σ3))))) else some (v1, σ))
def fX7_used (σ : St) (a1 : Int32) (a2 : Int32) : Option (Int32 × St) :=
  bp (fX6_hasClaim σ 3 a2) (fun r4 => if r4 = 0 then fX7_used_b21 σ a1 a2 (-2 : Int32) else bp (fX7_refusalOfSteps σ a1) (fun r5 => fX7_used_b21 σ a1 a2 r5))
def fX7_why (σ : St) (a1 : Int32) : Option (Int32 × St) :=
  bp (fX7_refusalOfSteps σ a1) (fun r1 => lt r1 (fun v2 => if v2 = 0 then gd (ir a1 4) (lt (rowp a1.toNatClampNeg) (fun k3 => bp (fX3_read σ 3 k3) (fun σ4 => some ((σ4.1 53 1), σ4)))) else some (v2, σ)))
def fX7_worthWithLemma (σ : St) (a1 : Int32) (a2 : Int32) : Option (Int32 × St) :=
  lt ((σ.1 3 7) ||| ((1 : Int32) <<< (a2 &&& 31))) (fun v1 => gd (ir a1 5) (lt (σ.1 (3 + 6) a1.toNatClampNeg) (fun v2 => bp (fX5_fillWithProofs σ 51 3 v2 v1) (fun σ3 => bp (fX6_canDo σ3 3 a1) (fun r4 => bp (fX5_menuSet σ3 51 3 v2 r4) (fun r5 => lt r5 (fun v6 => gd (ir v6 4096) (bp (fX6_worthOf σ3 3 ((σ3.1 (51 + 1) v6.toNatClampNeg) &&& (v1 ^^^ (-1 : Int32)))) (fun r7 => some (r7, σ3))))))))))
def fX1_cook_B10 (t : Nat) (w : Nat) (kr10 : St → Int32 → Int32 → Option (St)) (σ : St) (x3 : Int32) (x4 : Int32) : Option (St) :=
  if (σ.1 w 2) ≤ (x4 + (1 : Int32)) then some σ else if x3 = 0 then some σ else gd (ir x4 60) (gd (ir (x4 + (1 : Int32)) 60) (bs (fX1_cookPair σ t ((σ.2 (w + 1) x4.toNatClampNeg).toInt32) ((σ.2 (w + 1) (x4 + (1 : Int32)).toNatClampNeg).toInt32)) (fun r1 σ2 => lt r1 (fun v3 => lt (x4 + 2) (fun v4 => kr10 σ2 v3 v4)))))
def fX1_cook_l10 (t : Nat) (w : Nat) : Nat → St → Int32 → Int32 → Option (St)
  | 0 => fun _ _ _ => none
  | n + 1 => fX1_cook_B10 t w (fX1_cook_l10 t w n)
def fX1_cook (σ : St) (t : Nat) (w : Nat) : Option (St) :=
  bp (fX1_open σ t) (fun σ5 => lt (1 : Int32) (fun v6 => lt (0 : Int32) (fun v7 => fX1_cook_l10 t w FU σ5 v6 v7)))
def fX2_readSalt_b36 (t : Nat) (σ : St) : Option (Int32 × St) :=
  bs (fX2_readNumber σ (0 : Int32) ((σ.1 t 4) - (1 : Int32))) (fun r1 σ2 => lt r1 (fun v3 => if v3 = (-1 : Int32) then gd ((0 : Int32) = 0 ∨ (0 : Int32) = 1) (some ((0 : Int32), σ2)) else lt (setI σ2 t 7 ((σ2.1 t 7) ||| ((1 : Int32) <<< (v3 &&& 31)))) (fun σ4 => gd ((1 : Int32) = 0 ∨ (1 : Int32) = 1) (some ((1 : Int32), σ4)))))
def fX2_readSalt (σ : St) (t : Nat) : Option (Int32 × St) :=
  bp (fX2_advance σ) (fun σ5 => bp (fX2_isNumberOf σ5 (σ5.1 t 4)) (fun r6 => if r6 = 0 then fX2_readSalt_b36 t σ5 else if (((σ5.1 t 7) >>> ((σ5.1 1 7) &&& 31)) &&& (1 : Int32)) = (1 : Int32) then bs (fX2_fail σ5 (2 : Int32)) (fun r7 σ8 => gd (r7 = 0 ∨ r7 = 1) (some (r7, σ8))) else fX2_readSalt_b36 t σ5))
def fX2_readSet_b57 (kr5 : St → Int32 → Int32 → Int32 → Int32 → Option (Int32 × St)) (σ : St) (x1 : Int32) (x2 : Int32) (x3 : Int32) (x4 : Int32) : Option (Int32 × St) :=
  bs (fX2_readNumber σ (0 : Int32) (x1 - (1 : Int32))) (fun r1 σ2 => lt r1 (fun v3 => if v3 = (-1 : Int32) then some ((-1 : Int32), σ2) else lt (x3 ||| ((1 : Int32) <<< (v3 &&& 31))) (fun v4 => lt (x4 + 1) (fun v5 => kr5 σ2 x1 x2 v4 v5))))
def fX2_readSet_b26 (kr5 : St → Int32 → Int32 → Int32 → Int32 → Option (Int32 × St)) (σ : St) (x1 : Int32) (x2 : Int32) (x3 : Int32) (x4 : Int32) : Option (Int32 × St) :=
  bp (fX2_isNumberOf σ x1) (fun r6 => if r6 = 0 then fX2_readSet_b57 kr5 σ x1 x2 x3 x4 else bp (fJ6_bitCount_0f7a4 (x3 ||| ((1 : Int32) <<< ((σ.1 1 7) &&& 31)))) (fun r7 => if r7 ≤ x2 then fX2_readSet_b57 kr5 σ x1 x2 x3 x4 else bs (fX2_fail σ (3 : Int32)) (fun r8 σ9 => some ((-1 : Int32), σ9))))
def fX2_readSet_B5 (kr5 : St → Int32 → Int32 → Int32 → Int32 → Option (Int32 × St)) (σ : St) (x1 : Int32) (x2 : Int32) (x3 : Int32) (x4 : Int32) : Option (Int32 × St) :=
  if (1600 : Int32) ≤ x4 then some (x3, σ) else if x4 = 0 then fX2_readSet_b26 kr5 σ x1 x2 x3 x4 else if (σ.1 1 4) = (2 : Int32) then fX2_readSet_b26 kr5 σ x1 x2 x3 x4 else some (x3, σ)
def fX2_readSet_l5 : Nat → St → Int32 → Int32 → Int32 → Int32 → Option (Int32 × St)
  | 0 => fun _ _ _ _ _ => none
  | n + 1 => fX2_readSet_B5 (fX2_readSet_l5 n)
def fX2_readSet (σ : St) (a1 : Int32) (a2 : Int32) : Option (Int32 × St) :=
  lt (0 : Int32) (fun v10 => lt (0 : Int32) (fun v11 => fX2_readSet_l5 FU σ a1 a2 v10 v11))
def fX8_borrowed_B37 (σ : St) (kr37 : Int32 → Int32 → Int32 → Option (Int32)) (x1 : Int32) (x4 : Int32) (x5 : Int32) : Option (Int32) :=
  gd (ir x1 4) (if (σ.1 78 x1.toNatClampNeg) ≤ x5 then some (-1 : Int32) else bp (fX8_numberAt σ x1 x5) (fun r1 => bp (fX8_bit x4 (r1.toInt32)) (fun r2 => if r2 = 0 then bp (fX8_numberAt σ x1 x5) (fun r4 => some (r4.toInt32)) else lt (x5 + 1) (fun v3 => kr37 x1 x4 v3))))
def fX8_borrowed_l37 (σ : St) : Nat → Int32 → Int32 → Int32 → Option (Int32)
  | 0 => fun _ _ _ => none
  | n + 1 => fX8_borrowed_B37 σ (fX8_borrowed_l37 σ n)
def fX8_borrowed (σ : St) (a1 : Int32) (a2 : Int32) : Option (Int32) :=
  bp (fX8_isGuest σ (a2.toInt64)) (fun r5 => bp (fX8_asksEaten σ a1 r5) (fun r6 => lt r6 (fun v7 => if 0 ≤ v7 then bp (fX8_saltNow σ) (fun r8 => bp (fX8_ofGuest σ a2 (1 : Int32)) (fun r9 => bp (fX8_provedBy σ r8 r9) (fun r10 => lt r10 (fun v11 => lt (0 : Int32) (fun v12 => fX8_borrowed_l37 σ FU a1 v11 v12))))) else some v7)))
def fX8_busy_b26 (σ : St) (x1 : Int32) (x2 : Int32) (x3 : Int32) (y1 : Int32) (y2 : Int32) : Option (Int32 × St) :=
  bp (fX8_asksKitchen σ y1 y2) (fun r1 => lt r1 (fun v2 => if 0 ≤ v2 then bp (fX8_goKitchen σ x1) (fun σ3 => if x3 = 0 then gd (ir x2 5) (some ((σ3.1 76 x2.toNatClampNeg), σ3)) else gd (ir x2 5) (gd (ir x2 5) (some (((σ3.1 75 x2.toNatClampNeg) - (σ3.1 76 x2.toNatClampNeg)), σ3)))) else some (v2, σ)))
def fX8_busy_b25 (σ : St) (x1 : Int32) (x2 : Int32) (x3 : Int32) (y1 : Int32) : Option (Int32 × St) :=
  fX8_busy_b26 σ x1 x2 x3 y1 (0 : Int32)
def fX8_busy (σ : St) (a1 : Int32) (a2 : Int32) (a3 : Int32) : Option (Int32 × St) :=
  bp (fX8_isGuest σ (a2.toInt64)) (fun r4 => if r4 = 0 then fX8_busy_b25 σ a1 a2 a3 a1 else bp (fX8_in (a3.toInt64) (0 : Int64) (1 : Int64)) (fun r5 => if r5 = 0 then fX8_busy_b25 σ a1 a2 a3 a1 else fX8_busy_b26 σ a1 a2 a3 a1 (1 : Int32)))
def fX8_coreOf_b38 (σ : St) (kr9 : Int32 → Int32 → Int32 → Option (Int32)) (x1 : Int32) (x2 : Int32) (x3 : Int32) : Option (Int32) :=
  bp (fX8_saltedBy σ x3) (fun r1 => if r1 = 0 then lt x3 (fun v3 => lt (x3 + 1) (fun v4 => kr9 x1 v3 v4)) else lt (x3 + 1) (fun v2 => kr9 x1 x2 v2))
def fX8_coreOf_B9 (σ : St) (kr9 : Int32 → Int32 → Int32 → Option (Int32)) (x1 : Int32) (x2 : Int32) (x3 : Int32) : Option (Int32) :=
  if x1 < x3 then some x2 else if (x3 &&& (x1 ^^^ (-1 : Int32))) = 0 then if x2 = (-1 : Int32) then fX8_coreOf_b38 σ kr9 x1 x2 x3 else bp (fX8_bits x3) (fun r6 => bp (fX8_bits x2) (fun r7 => if r7 ≤ r6 then lt (x3 + 1) (fun v8 => kr9 x1 x2 v8) else fX8_coreOf_b38 σ kr9 x1 x2 x3)) else lt (x3 + 1) (fun v5 => kr9 x1 x2 v5)
def fX8_coreOf_l9 (σ : St) : Nat → Int32 → Int32 → Int32 → Option (Int32)
  | 0 => fun _ _ _ => none
  | n + 1 => fX8_coreOf_B9 σ (fX8_coreOf_l9 σ n)
def fX8_coreOf (σ : St) : Option (Int32) :=
  bp (fX8_saltNow σ) (fun r9 => lt r9 (fun v10 => lt (-1 : Int32) (fun v11 => lt (0 : Int32) (fun v12 => fX8_coreOf_l9 σ FU v10 v11 v12))))
def fX8_duel (σ : St) : Option (Int32 × St) :=
  bp (fX8_isTable σ) (fun r1 => if r1 = 0 then some ((-2 : Int32), σ) else bp (fX8_fillDuel σ) (fun σ2 => bp (fX8_saltNow σ2) (fun r3 => gd (ir r3 4096) (if (σ2.1 77 r3.toNatClampNeg) ≤ 0 then some ((0 : Int32), σ2) else some ((1 : Int32), σ2)))))
def fX8_eats_B50 (σ : St) (kr50 : Int32 → Int32 → Int32 → Int32 → Int32 → Int32 → Option (Int32)) (x1 : Int32) (x2 : Int32) (x4 : Int32) (x5 : Int32) (x6 : Int32) (x7 : Int32) : Option (Int32) :=
  gd (ir x1 4) (if (σ.1 78 x1.toNatClampNeg) ≤ x7 then some x5 else bp (fX8_numberAt σ x1 x7) (fun r1 => lt (r1.toInt32) (fun v2 => bp (fX8_goes σ v2 x4) (fun r3 => if r3 = 0 then some x5 else bp (fX8_ofGuest σ x2 (1 : Int32)) (fun r4 => bp (fX8_bit r4 v2) (fun r5 => if r5 = 0 then some x5 else if x6 = 0 then some x5 else bp (fX8_ofStep σ v2 (0 : Int32)) (fun r6 => lt (x4 ||| ((1 : Int32) <<< (r6 &&& 31))) (fun v7 => bp (fX8_ofStep σ v2 (0 : Int32)) (fun r8 => bp (fX8_ofClaim σ r8 (0 : Int32)) (fun r9 => lt (x5 + r9) (fun v10 => lt (x6 + (-1)) (fun v11 => lt (x7 + 1) (fun v12 => kr50 x1 x2 v7 v10 v11 v12)))))))))))))
def fX8_eats_l50 (σ : St) : Nat → Int32 → Int32 → Int32 → Int32 → Int32 → Int32 → Option (Int32)
  | 0 => fun _ _ _ _ _ _ => none
  | n + 1 => fX8_eats_B50 σ (fX8_eats_l50 σ n)
def fX8_eats (σ : St) (a1 : Int32) (a2 : Int32) : Option (Int32) :=
  bp (fX8_isGuest σ (a2.toInt64)) (fun r13 => bp (fX8_asksRow σ a1 r13) (fun r14 => lt r14 (fun v15 => if 0 ≤ v15 then bp (fX8_saltNow σ) (fun r16 => lt r16 (fun v17 => lt (0 : Int32) (fun v18 => bp (fX8_canDo σ a2) (fun r19 => lt r19 (fun v20 => lt (0 : Int32) (fun v21 => fX8_eats_l50 σ FU a1 a2 v17 v18 v20 v21)))))) else if v15 = (-6 : Int32) then some (-600 : Int32) else some (-100 : Int32))))
def fX8_falseIn (σ : St) (a1 : Int32) : Option (Int32) :=
  bp (fX8_ofStep σ a1 (1 : Int32)) (fun r1 => bp (fX8_saltedBy σ r1) (fun r2 => bp (fX8_ofStep σ a1 (0 : Int32)) (fun r3 => bp (fX8_ofClaim σ r3 (2 : Int32)) (fun r4 => some (r2 &&& (r4 ^^^ (-1 : Int32)))))))
def fX8_fewestSteps_b46 (σ : St) (kr6 : Int32 → Int32 → Int32 → Int32 → Int32 → Option (Int32)) (x1 : Int32) (x2 : Int32) (x3 : Int32) (x4 : Int32) (x5 : Int32) : Option (Int32) :=
  bp (fX8_provedBy σ x1 x5) (fun r1 => if (x3 &&& (r1 ^^^ (-1 : Int32))) = 0 then lt x5 (fun v4 => lt (x5 + 1) (fun v5 => kr6 x1 x2 x3 v4 v5)) else lt x4 (fun v2 => lt (x5 + 1) (fun v3 => kr6 x1 x2 x3 v2 v3)))
def fX8_fewestSteps_B6 (σ : St) (kr6 : Int32 → Int32 → Int32 → Int32 → Int32 → Option (Int32)) (x1 : Int32) (x2 : Int32) (x3 : Int32) (x4 : Int32) (x5 : Int32) : Option (Int32) :=
  bp (fX8_allSteps σ) (fun r6 => if r6 < x5 then some x4 else if (x5 &&& (x2 ^^^ (-1 : Int32))) = 0 then if x4 = (-1 : Int32) then fX8_fewestSteps_b46 σ kr6 x1 x2 x3 x4 x5 else bp (fX8_bits x5) (fun r8 => bp (fX8_bits x4) (fun r9 => if r8 < r9 then fX8_fewestSteps_b46 σ kr6 x1 x2 x3 x4 x5 else lt (x5 + 1) (fun v10 => kr6 x1 x2 x3 x4 v10))) else lt (x5 + 1) (fun v7 => kr6 x1 x2 x3 x4 v7))
def fX8_fewestSteps_l6 (σ : St) : Nat → Int32 → Int32 → Int32 → Int32 → Int32 → Option (Int32)
  | 0 => fun _ _ _ _ _ => none
  | n + 1 => fX8_fewestSteps_B6 σ (fX8_fewestSteps_l6 σ n)
def fX8_fewestSteps (σ : St) (a1 : Int32) (a2 : Int32) (a3 : Int32) : Option (Int32) :=
  lt (-1 : Int32) (fun v11 => lt (0 : Int32) (fun v12 => fX8_fewestSteps_l6 σ FU a1 a2 a3 v11 v12))
def fX8_freshClaim (σ : St) : Option (Int32 × St) :=
  gd (ir (3 : Int32) 70) (bs (fX8_number σ (0 : Int32) ((σ.1 68 (3 : Int32).toNatClampNeg) - (1 : Int32))) (fun r1 σ2 => some (r1, σ2)))
def fX8_idle_b70 (σ : St) (kr14 : Int32 → Int32 → Option (Int32)) (x2 : Int32) (y0 : Int32) (y1 : Int32) : Option (Int32) :=
  lt (y0 ||| y1) (fun v1 => lt (x2 + 1) (fun v2 => kr14 v1 v2))
def fX8_idle_b69 (σ : St) (kr14 : Int32 → Int32 → Option (Int32)) (x2 : Int32) (y0 : Int32) : Option (Int32) :=
  fX8_idle_b70 σ kr14 x2 y0 (0 : Int32)
def fX8_idle_B14 (σ : St) (kr14 : Int32 → Int32 → Option (Int32)) (x1 : Int32) (x2 : Int32) : Option (Int32) :=
  gd (ir (3 : Int32) 70) (if (σ.1 63 (3 : Int32).toNatClampNeg) ≤ x2 then some x1 else bp (fX8_saltNow σ) (fun r3 => bp (fX8_bit r3 x2) (fun r4 => if r4 = (1 : Int32) then bp (fX8_saltNow σ) (fun r5 => bp (fX8_saltedBy σ (r5 &&& (((1 : Int32) <<< (x2 &&& 31)) ^^^ (-1 : Int32)))) (fun r6 => bp (fX8_ofClaim σ x2 (2 : Int32)) (fun r7 => if (r6 &&& (r7 ^^^ (-1 : Int32))) = 0 then fX8_idle_b70 σ kr14 x2 x1 ((1 : Int32) <<< (x2 &&& 31)) else fX8_idle_b69 σ kr14 x2 x1))) else fX8_idle_b69 σ kr14 x2 x1)))
def fX8_idle_l14 (σ : St) : Nat → Int32 → Int32 → Option (Int32)
  | 0 => fun _ _ => none
  | n + 1 => fX8_idle_B14 σ (fX8_idle_l14 σ n)
def fX8_idle (σ : St) : Option (Int32) :=
  bp (fX8_isTable σ) (fun r8 => if r8 = 0 then some (-2 : Int32) else lt (0 : Int32) (fun v9 => lt (0 : Int32) (fun v10 => fX8_idle_l14 σ FU v9 v10)))
def fX8_isProvedBy (σ : St) (a1 : Int32) (a2 : Int32) : Option (Int32) :=
  bp (fX8_saltNow σ) (fun r1 => bp (fX8_provedBy σ r1 a1) (fun r2 => bp (fX8_bit r2 a2) (fun r3 => if r3 = (1 : Int32) then gd ((1 : Int32) = 0 ∨ (1 : Int32) = 1) (some (1 : Int32)) else gd ((0 : Int32) = 0 ∨ (0 : Int32) = 1) (some (0 : Int32)))))
def fX8_kitchen_b79 (kr32 : St → Int32 → Int32 → Int32 → Option (Int32 × St)) (σ : St) (x2 : Int32) (x5 : Int32) (y0 : Int32) (y1 : Int32) : Option (Int32 × St) :=
  lt (y0 + y1) (fun v1 => lt (x5 + 1) (fun v2 => kr32 σ x2 v1 v2))
def fX8_kitchen_b78 (kr32 : St → Int32 → Int32 → Int32 → Option (Int32 × St)) (σ : St) (x2 : Int32) (x5 : Int32) (y0 : Int32) : Option (Int32 × St) :=
  fX8_kitchen_b79 kr32 σ x2 x5 y0 (0 : Int32)
def fX8_kitchen_B32 (kr32 : St → Int32 → Int32 → Int32 → Option (Int32 × St)) (σ : St) (x2 : Int32) (x4 : Int32) (x5 : Int32) : Option (Int32 × St) :=
  gd (ir (3 : Int32) 70) (if (σ.1 63 (3 : Int32).toNatClampNeg) ≤ x5 then if x2 = 0 then some ((σ.1 62 27), σ) else if x2 = (1 : Int32) then some ((σ.1 62 28), σ) else some (x4, σ) else gd (ir x5 12) (if (σ.1 73 x5.toNatClampNeg) = (-1 : Int32) then fX8_kitchen_b78 kr32 σ x2 x5 x4 else bp (fX8_saltNow σ) (fun r3 => bp (fX8_bit r3 x5) (fun r4 => if r4 = 0 then bp (fX8_ofClaim σ x5 (0 : Int32)) (fun r5 => fX8_kitchen_b79 kr32 σ x2 x5 x4 r5) else fX8_kitchen_b78 kr32 σ x2 x5 x4))))
def fX8_kitchen_l32 : Nat → St → Int32 → Int32 → Int32 → Option (Int32 × St)
  | 0 => fun _ _ _ _ => none
  | n + 1 => fX8_kitchen_B32 (fX8_kitchen_l32 n)
def fX8_kitchen (σ : St) (a1 : Int32) (a2 : Int32) : Option (Int32 × St) :=
  bp (fX8_in (a2.toInt64) (0 : Int64) (2 : Int64)) (fun r6 => bp (fX8_asksKitchen σ a1 r6) (fun r7 => lt r7 (fun v8 => if 0 ≤ v8 then bp (fX8_goKitchen σ a1) (fun σ9 => lt (0 : Int32) (fun v10 => lt (0 : Int32) (fun v11 => fX8_kitchen_l32 FU σ9 a2 v10 v11))) else some (v8, σ))))
def fX8_lasts (σ : St) : Option (Int32 × St) :=
  bp (fX8_isTable σ) (fun r1 => if r1 = 0 then some ((-2 : Int32), σ) else bp (fX8_fillDuel σ) (fun σ2 => bp (fX8_saltNow σ2) (fun r3 => gd (ir r3 4096) (lt (σ2.1 77 r3.toNatClampNeg) (fun v4 => if v4 ≤ 0 then some ((v4 + (100 : Int32)), σ2) else some (((100 : Int32) - v4), σ2))))))
def fX8_lent_b112 (σ : St) (kr55 : Int32 → Int32 → Int32 → Int32 → Option (Int32)) (x2 : Int32) (x4 : Int32) (x6 : Int32) (y0 : Int32) (y1 : Int32) : Option (Int32) :=
  lt (y0 ||| y1) (fun v1 => lt (x6 + 1) (fun v2 => kr55 x2 x4 v1 v2))
def fX8_lent_b111 (σ : St) (kr55 : Int32 → Int32 → Int32 → Int32 → Option (Int32)) (x2 : Int32) (x4 : Int32) (x6 : Int32) (y0 : Int32) : Option (Int32) :=
  fX8_lent_b112 σ kr55 x2 x4 x6 y0 (0 : Int32)
def fX8_lent_B55 (σ : St) (kr55 : Int32 → Int32 → Int32 → Int32 → Option (Int32)) (x2 : Int32) (x4 : Int32) (x5 : Int32) (x6 : Int32) : Option (Int32) :=
  gd (ir (5 : Int32) 70) (if (σ.1 63 (5 : Int32).toNatClampNeg) ≤ x6 then some x5 else if x6 = x2 then fX8_lent_b111 σ kr55 x2 x4 x6 x5 else bp (fX8_saltNow σ) (fun r3 => bp (fX8_ofGuest σ x2 (1 : Int32)) (fun r4 => bp (fX8_ofGuest σ x6 (1 : Int32)) (fun r5 => bp (fX8_provedBy σ r3 (r4 ||| r5)) (fun r6 => if (x4 &&& (r6 ^^^ (-1 : Int32))) = 0 then fX8_lent_b112 σ kr55 x2 x4 x6 x5 ((1 : Int32) <<< (x6 &&& 31)) else fX8_lent_b111 σ kr55 x2 x4 x6 x5)))))
def fX8_lent_l55 (σ : St) : Nat → Int32 → Int32 → Int32 → Int32 → Option (Int32)
  | 0 => fun _ _ _ _ => none
  | n + 1 => fX8_lent_B55 σ (fX8_lent_l55 σ n)
def fX8_lent (σ : St) (a1 : Int32) (a2 : Int32) : Option (Int32) :=
  bp (fX8_isGuest σ (a2.toInt64)) (fun r7 => bp (fX8_asksEaten σ a1 r7) (fun r8 => lt r8 (fun v9 => if 0 ≤ v9 then bp (fX8_eatenBy σ a1) (fun r10 => lt r10 (fun v11 => bp (fX8_saltNow σ) (fun r12 => bp (fX8_ofGuest σ a2 (1 : Int32)) (fun r13 => bp (fX8_provedBy σ r12 r13) (fun r14 => if (v11 &&& (r14 ^^^ (-1 : Int32))) = 0 then some (0 : Int32) else lt (0 : Int32) (fun v15 => lt (0 : Int32) (fun v16 => fX8_lent_l55 σ FU a2 v11 v15 v16))))))) else some v9)))
def fX8_mostBy_b87 (kr11 : St → Int32 → Int32 → Int32 → Int32 → Int32 → Option (Int32 × St)) (σ : St) (x1 : Int32) (x2 : Int32) (x3 : Int32) (x5 : Int32) (x6 : Int32) : Option (Int32 × St) :=
  lt x6 (fun v1 => lt (setI σ 62 21 x5) (fun σ2 => lt (x5 + 1) (fun v3 => kr11 σ2 x1 x2 x3 v1 v3)))
def fX8_mostBy_B11 (kr11 : St → Int32 → Int32 → Int32 → Int32 → Int32 → Option (Int32 × St)) (σ : St) (x1 : Int32) (x2 : Int32) (x3 : Int32) (x4 : Int32) (x5 : Int32) : Option (Int32 × St) :=
  bp (fX8_allSteps σ) (fun r4 => if r4 < x5 then some (x4, σ) else if (x5 &&& (x2 ^^^ (-1 : Int32))) = 0 then bp (fX8_bits x5) (fun r6 => if r6 ≤ x3 then bp (fX8_provedBy σ x1 x5) (fun r7 => bp (fX8_worthsOf σ (r7 &&& (x1 ^^^ (-1 : Int32)))) (fun r8 => lt r8 (fun v9 => if x4 < v9 then fX8_mostBy_b87 kr11 σ x1 x2 x3 x5 v9 else if v9 = x4 then bp (fX8_bits x5) (fun r11 => bp (fX8_bits (σ.1 62 21)) (fun r12 => if r12 ≤ r11 then lt (x5 + 1) (fun v13 => kr11 σ x1 x2 x3 x4 v13) else fX8_mostBy_b87 kr11 σ x1 x2 x3 x5 v9)) else lt (x5 + 1) (fun v10 => kr11 σ x1 x2 x3 x4 v10)))) else lt (x5 + 1) (fun v14 => kr11 σ x1 x2 x3 x4 v14)) else lt (x5 + 1) (fun v5 => kr11 σ x1 x2 x3 x4 v5))
def fX8_mostBy_l11 : Nat → St → Int32 → Int32 → Int32 → Int32 → Int32 → Option (Int32 × St)
  | 0 => fun _ _ _ _ _ _ => none
  | n + 1 => fX8_mostBy_B11 (fX8_mostBy_l11 n)
def fX8_mostBy (σ : St) (a1 : Int32) (a2 : Int32) (a3 : Int32) : Option (Int32 × St) :=
  lt (-1 : Int32) (fun v15 => lt (setI σ 62 21 (0 : Int32)) (fun σ16 => lt (0 : Int32) (fun v17 => fX8_mostBy_l11 FU σ16 a1 a2 a3 v15 v17)))
def fX8_move_B16 (kr16 : St → Int32 → Option (Int32 × St)) (σ : St) (x1 : Int32) : Option (Int32 × St) :=
  gd (ir (4 : Int32) 70) (if (σ.1 63 (4 : Int32).toNatClampNeg) ≤ x1 then some ((-1 : Int32), σ) else bp (fX8_saltNow σ) (fun r1 => bp (fX8_goes σ x1 r1) (fun r2 => if r2 = 0 then lt (x1 + 1) (fun v3 => kr16 σ v3) else bp (fX8_saltNow σ) (fun r4 => bp (fX8_ofStep σ x1 (0 : Int32)) (fun r5 => gd (ir (r4 ||| ((1 : Int32) <<< (r5 &&& 31))) 4096) (if 0 ≤ (σ.1 77 (r4 ||| ((1 : Int32) <<< (r5 &&& 31))).toNatClampNeg) then lt (x1 + 1) (fun v6 => kr16 σ v6) else some (x1, σ)))))))
def fX8_move_l16 : Nat → St → Int32 → Option (Int32 × St)
  | 0 => fun _ _ => none
  | n + 1 => fX8_move_B16 (fX8_move_l16 n)
def fX8_move (σ : St) : Option (Int32 × St) :=
  bp (fX8_isTable σ) (fun r7 => if r7 = 0 then some ((-2 : Int32), σ) else bp (fX8_fillDuel σ) (fun σ8 => lt (0 : Int32) (fun v9 => fX8_move_l16 FU σ8 v9)))
def fX8_provedNow (σ : St) : Option (Int32) :=
  bp (fX8_saltNow σ) (fun r1 => bp (fX8_allSteps σ) (fun r2 => bp (fX8_provedBy σ r1 r2) (fun r3 => some r3)))
def fX8_reached (σ : St) (a1 : Int32) : Option (Int32 × St) :=
  bp (fX8_asksRow σ a1 (1 : Int32)) (fun r1 => lt r1 (fun v2 => if 0 ≤ v2 then bp (fX8_readRow σ a1) (fun σ3 => some ((σ3.1 62 20), σ3)) else some (v2, σ)))
def fX8_reads (σ : St) (a1 : Int32) : Option (Int32 × St) :=
  bp (fX8_asksRow σ a1 (1 : Int32)) (fun r1 => lt r1 (fun v2 => if 0 ≤ v2 then bp (fX8_readRow σ a1) (fun σ3 => some ((σ3.1 62 19), σ3)) else some (v2, σ)))
def fX8_saltedNow (σ : St) : Option (Int32) :=
  bp (fX8_saltNow σ) (fun r1 => bp (fX8_saltedBy σ r1) (fun r2 => some r2))
def fX8_shares (σ : St) (a1 : Int32) (a2 : Int32) : Option (Int32 × St) :=
  bp (fX8_isClaim σ (a2.toInt64)) (fun r1 => bp (fX8_asksKitchen σ a1 r1) (fun r2 => lt r2 (fun v3 => if 0 ≤ v3 then bp (fX8_goKitchen σ a1) (fun σ4 => gd (ir a2 12) (some ((σ4.1 74 a2.toNatClampNeg), σ4))) else some (v3, σ))))
def fX8_spareOf_b42 (σ : St) (kr10 : Int32 → Int32 → Int32 → Int32 → Option (Int32)) (x1 : Int32) (x2 : Int32) (x3 : Int32) (x4 : Int32) : Option (Int32) :=
  bp (fX8_allSteps σ) (fun r1 => bp (fX8_provedBy σ x4 r1) (fun r2 => if (x1 &&& (r2 ^^^ (-1 : Int32))) = 0 then lt x4 (fun v4 => lt (x4 + 1) (fun v5 => kr10 x1 x2 v4 v5)) else lt (x4 + 1) (fun v3 => kr10 x1 x2 x3 v3)))
def fX8_spareOf_B10 (σ : St) (kr10 : Int32 → Int32 → Int32 → Int32 → Option (Int32)) (x1 : Int32) (x2 : Int32) (x3 : Int32) (x4 : Int32) : Option (Int32) :=
  if x2 < x4 then some x3 else if (x4 &&& (x2 ^^^ (-1 : Int32))) = 0 then if x3 = (-1 : Int32) then fX8_spareOf_b42 σ kr10 x1 x2 x3 x4 else bp (fX8_bits x4) (fun r7 => bp (fX8_bits x3) (fun r8 => if r8 ≤ r7 then lt (x4 + 1) (fun v9 => kr10 x1 x2 x3 v9) else fX8_spareOf_b42 σ kr10 x1 x2 x3 x4)) else lt (x4 + 1) (fun v6 => kr10 x1 x2 x3 v6)
def fX8_spareOf_l10 (σ : St) : Nat → Int32 → Int32 → Int32 → Int32 → Option (Int32)
  | 0 => fun _ _ _ _ => none
  | n + 1 => fX8_spareOf_B10 σ (fX8_spareOf_l10 σ n)
def fX8_spareOf (σ : St) (a1 : Int32) : Option (Int32) :=
  bp (fX8_saltNow σ) (fun r10 => lt r10 (fun v11 => lt (-1 : Int32) (fun v12 => lt (0 : Int32) (fun v13 => fX8_spareOf_l10 σ FU a1 v11 v12 v13))))
def fX8_strength (σ : St) (a1 : Int32) : Option (Int32) :=
  bp (fX8_areGuests σ a1) (fun r1 => if r1 = 0 then some (-2 : Int32) else bp (fX8_strengthOf σ a1) (fun r2 => some r2))
def fX8_usedBy_B20 (kr20 : St → Int32 → Int32 → Int32 → Int32 → Option (Int32 × St)) (σ : St) (x1 : Int32) (x3 : Int32) (x4 : Int32) (x5 : Int32) : Option (Int32 × St) :=
  if x5 < 0 then some (x4, σ) else bp (fX8_numberAt σ x1 x5) (fun r1 => lt (r1.toInt32) (fun v2 => bp (fX8_ofStep σ v2 (0 : Int32)) (fun r3 => bp (fX8_bit x3 r3) (fun r4 => if r4 = 0 then lt (x5 + (-1)) (fun v9 => kr20 σ x1 x3 x4 v9) else lt (x4 ||| ((1 : Int32) <<< (v2 &&& 31))) (fun v5 => bp (fX8_ofStep σ v2 (1 : Int32)) (fun r6 => lt (x3 ||| r6) (fun v7 => lt (x5 + (-1)) (fun v8 => kr20 σ x1 v7 v5 v8))))))))
def fX8_usedBy_l20 : Nat → St → Int32 → Int32 → Int32 → Int32 → Option (Int32 × St)
  | 0 => fun _ _ _ _ _ => none
  | n + 1 => fX8_usedBy_B20 (fX8_usedBy_l20 n)
def fX8_usedBy (σ : St) (a1 : Int32) (a2 : Int32) : Option (Int32 × St) :=
  bp (fX8_readRow σ a1) (fun σ10 => lt ((1 : Int32) <<< (a2 &&& 31)) (fun v11 => lt (0 : Int32) (fun v12 => lt ((σ10.1 62 19) - (1 : Int32)) (fun v13 => fX8_usedBy_l20 FU σ10 a1 v11 v12 v13))))
def fX8_when (σ : St) (a1 : Int32) (a2 : Int32) : Option (Int32 × St) :=
  bp (fX8_isClaim σ (a2.toInt64)) (fun r1 => bp (fX8_asksKitchen σ a1 r1) (fun r2 => lt r2 (fun v3 => if 0 ≤ v3 then bp (fX8_goKitchen σ a1) (fun σ4 => gd (ir a2 12) (some ((σ4.1 73 a2.toNatClampNeg), σ4))) else some (v3, σ))))
def fX8_why (σ : St) (a1 : Int32) : Option (Int32 × St) :=
  bp (fX8_asksRow σ a1 (1 : Int32)) (fun r1 => lt r1 (fun v2 => if 0 ≤ v2 then bp (fX8_readRow σ a1) (fun σ3 => gd (ir a1 4) (if (σ3.1 62 19) = (σ3.1 78 a1.toNatClampNeg) then some ((0 : Int32), σ3) else bp (fX8_numberAt σ3 a1 (σ3.1 62 19)) (fun r4 => bp (fX8_ofStep σ3 (r4.toInt32) (1 : Int32)) (fun r5 => if (r5 &&& ((σ3.1 62 20) ^^^ (-1 : Int32))) = 0 then some ((2 : Int32), σ3) else some ((1 : Int32), σ3))))) else some (v2, σ)))
def fX7_borrowed_B50 (kr50 : St → Int32 → Int32 → Int32 → Option (Int32 × St)) (σ : St) (x1 : Int32) (x4 : Int32) (x5 : Int32) : Option (Int32 × St) :=
  gd (ir x1 4) (lt (rowp x1.toNatClampNeg) (fun k1 => if (σ.1 k1 2) ≤ x5 then some ((-1 : Int32), σ) else gd (ir x1 4) (lt (rowp x1.toNatClampNeg) (fun k2 => gd (ir x5 60) (lt ((σ.2 (k2 + 1) x5.toNatClampNeg).toInt32) (fun v3 => if ((x4 >>> (v3 &&& 31)) &&& (1 : Int32)) = 0 then some (v3, σ) else lt (x5 + 1) (fun v4 => kr50 σ x1 x4 v4)))))))
def fX7_borrowed_l50 : Nat → St → Int32 → Int32 → Int32 → Option (Int32 × St)
  | 0 => fun _ _ _ _ => none
  | n + 1 => fX7_borrowed_B50 (fX7_borrowed_l50 n)
def fX7_borrowed_b21 (σ : St) (x1 : Int32) (x2 : Int32) (y0 : Int32) : Option (Int32 × St) :=
  lt y0 (fun v5 => if v5 = 0 then bp (fX7_freshProofs σ) (fun σ6 => gd (ir x2 5) (gd (ir (σ6.1 (3 + 6) x2.toNatClampNeg) 4096) (lt (σ6.1 (49 + 1) (σ6.1 (3 + 6) x2.toNatClampNeg).toNatClampNeg) (fun v7 => lt (0 : Int32) (fun v8 => fX7_borrowed_l50 FU σ6 x1 v7 v8))))) else some (v5, σ))
def fX7_borrowed (σ : St) (a1 : Int32) (a2 : Int32) : Option (Int32 × St) :=
  bp (fX6_hasGuest σ 3 a2) (fun r9 => if r9 = 0 then fX7_borrowed_b21 σ a1 a2 (-2 : Int32) else bp (fX7_refusalOfDishes σ a1) (fun r10 => fX7_borrowed_b21 σ a1 a2 r10))
def fX7_busy_b28 (σ : St) (x1 : Int32) (x2 : Int32) (x3 : Int32) (y0 : Int32) : Option (Int32 × St) :=
  lt y0 (fun v1 => if v1 = 0 then gd (ir x1 4) (lt (rowp x1.toNatClampNeg) (fun k2 => bp (fX1_cook σ 3 k2) (fun σ3 => gd (ir x2 5) (lt (σ3.1 59 x2.toNatClampNeg) (fun v4 => if x3 = 0 then some (v4, σ3) else gd (ir x2 5) (some (((σ3.1 58 x2.toNatClampNeg) - v4), σ3))))))) else some (v1, σ))
def fX7_busy_b26 (σ : St) (x1 : Int32) (x2 : Int32) (x3 : Int32) : Option (Int32 × St) :=
  fX7_busy_b28 σ x1 x2 x3 (-2 : Int32)
def fX7_busy (σ : St) (a1 : Int32) (a2 : Int32) (a3 : Int32) : Option (Int32 × St) :=
  bp (fX6_hasGuest σ 3 a2) (fun r5 => if r5 = 0 then fX7_busy_b26 σ a1 a2 a3 else bp (fX7_isBit a3) (fun r6 => if r6 = 0 then fX7_busy_b26 σ a1 a2 a3 else bp (fX7_refusalOfPairs σ a1) (fun r7 => fX7_busy_b28 σ a1 a2 a3 r7)))
def fX7_core (σ : St) : Option (Int32 × St) :=
  bp (fX6_isTold σ 3) (fun r1 => if r1 = 0 then some ((-2 : Int32), σ) else bs (fX7_coreSet σ) (fun r2 σ3 => bp (fX7_sizeOrNone r2) (fun r4 => some (r4, σ3))))
def fX7_cored (σ : St) : Option (Int32 × St) :=
  bp (fX6_isTold σ 3) (fun r1 => if r1 = 0 then some ((-2 : Int32), σ) else bs (fX7_coreSet σ) (fun r2 σ3 => some (r2, σ3)))
def fX7_doesTeamProve (σ : St) (a1 : Int32) (a2 : Int32) : Option (Int32 × St) :=
  bp (fX7_freshProofs σ) (fun σ1 => bp (fX6_teamKnows σ1 3 a1) (fun r2 => bp (fX5_leastSet σ1 49 r2 ((1 : Int32) <<< (a2 &&& 31))) (fun r3 => lt r3 (fun v4 => if v4 = (-1 : Int32) then gd ((0 : Int32) = 0 ∨ (0 : Int32) = 1) (some ((0 : Int32), σ1)) else bp (fJ6_bitCount_0f7a4 v4) (fun r5 => bp (fX6_teamCanDo σ1 3 a1) (fun r6 => if r6 < r5 then gd ((0 : Int32) = 0 ∨ (0 : Int32) = 1) (some ((0 : Int32), σ1)) else gd ((1 : Int32) = 0 ∨ (1 : Int32) = 1) (some ((1 : Int32), σ1))))))))
def fX7_guestsProving_B4 (kr4 : St → Int32 → Int32 → Int32 → Option (Int32 × St)) (σ : St) (x1 : Int32) (x2 : Int32) (x3 : Int32) : Option (Int32 × St) :=
  if (σ.1 3 6) ≤ x3 then some (x2, σ) else bp (fX7_freshProofs σ) (fun σ1 => gd (ir x3 5) (bp (fX5_leastSet σ1 49 (σ1.1 (3 + 6) x3.toNatClampNeg) x1) (fun r2 => lt r2 (fun v3 => if v3 = (-1 : Int32) then lt (x3 + 1) (fun v4 => kr4 σ1 x1 x2 v4) else bp (fJ6_bitCount_0f7a4 v3) (fun r5 => bp (fX6_canDo σ1 3 x3) (fun r6 => if r6 < r5 then lt (x3 + 1) (fun v7 => kr4 σ1 x1 x2 v7) else lt (x2 ||| ((1 : Int32) <<< (x3 &&& 31))) (fun v8 => lt (x3 + 1) (fun v9 => kr4 σ1 x1 v8 v9))))))))
def fX7_guestsProving_l4 : Nat → St → Int32 → Int32 → Int32 → Option (Int32 × St)
  | 0 => fun _ _ _ _ => none
  | n + 1 => fX7_guestsProving_B4 (fX7_guestsProving_l4 n)
def fX7_guestsProving (σ : St) (a1 : Int32) : Option (Int32 × St) :=
  lt (0 : Int32) (fun v10 => lt (0 : Int32) (fun v11 => fX7_guestsProving_l4 FU σ a1 v10 v11))
def fX7_kitchen_b19 (σ : St) (x1 : Int32) (x2 : Int32) (y0 : Int32) : Option (Int32 × St) :=
  lt y0 (fun v1 => if v1 = 0 then gd (ir x1 4) (lt (rowp x1.toNatClampNeg) (fun k2 => bp (fX1_cook σ 3 k2) (fun σ3 => if x2 = 0 then some ((σ3.1 55 0), σ3) else if x2 = 1 then some ((σ3.1 55 1), σ3) else bp (fX6_worthOf σ3 3 ((σ3.1 55 2) &&& ((σ3.1 3 7) ^^^ (-1 : Int32)))) (fun r4 => some (r4, σ3))))) else some (v1, σ))
def fX7_kitchen_b17 (σ : St) (x1 : Int32) (x2 : Int32) : Option (Int32 × St) :=
  fX7_kitchen_b19 σ x1 x2 (-2 : Int32)
def fX7_kitchen (σ : St) (a1 : Int32) (a2 : Int32) : Option (Int32 × St) :=
  if a2 < 0 then fX7_kitchen_b17 σ a1 a2 else if (2 : Int32) < a2 then fX7_kitchen_b17 σ a1 a2 else bp (fX7_refusalOfPairs σ a1) (fun r5 => fX7_kitchen_b19 σ a1 a2 r5)
def fX7_leaves (σ : St) : Option (Int32) :=
  bp (fX6_isTold σ 3) (fun r1 => if r1 = 0 then some (-2 : Int32) else bp (fX7_ask σ) (fun r2 => lt r2 (fun v3 => if v3 = (-1 : Int32) then bp (fX6_worldsOf σ 3 (σ.1 3 7)) (fun r5 => bp (fJ6_bitCount_0f7a4 r5) (fun r6 => some r6)) else bp (fX6_leftAtWorst σ 3 v3) (fun r4 => some r4))))
def fX7_lent_B80 (kr80 : St → Int32 → Int32 → Int32 → Int32 → Option (Int32 × St)) (σ : St) (x4 : Int32) (x5 : Int32) (x7 : Int32) (x8 : Int32) : Option (Int32 × St) :=
  if (σ.1 3 6) ≤ x8 then some (x7, σ) else gd (ir x8 5) (gd (ir (x5 ||| (σ.1 (3 + 6) x8.toNatClampNeg)) 4096) (if (x4 &&& ((σ.1 (49 + 1) (x5 ||| (σ.1 (3 + 6) x8.toNatClampNeg)).toNatClampNeg) ^^^ (-1 : Int32))) = 0 then lt (x7 ||| ((1 : Int32) <<< (x8 &&& 31))) (fun v2 => lt (x8 + 1) (fun v3 => kr80 σ x4 x5 v2 v3)) else lt (x8 + 1) (fun v1 => kr80 σ x4 x5 x7 v1)))
def fX7_lent_l80 : Nat → St → Int32 → Int32 → Int32 → Int32 → Option (Int32 × St)
  | 0 => fun _ _ _ _ _ => none
  | n + 1 => fX7_lent_B80 (fX7_lent_l80 n)
def fX7_lent_b21 (σ : St) (x1 : Int32) (x2 : Int32) (y0 : Int32) : Option (Int32 × St) :=
  lt y0 (fun v4 => if v4 = 0 then gd (ir x1 4) (lt (rowp x1.toNatClampNeg) (fun k5 => bp (fX4_asSet σ k5) (fun r6 => lt r6 (fun v7 => gd (ir x2 5) (lt (σ.1 (3 + 6) x2.toNatClampNeg) (fun v8 => bp (fX7_freshProofs σ) (fun σ9 => gd (ir v8 4096) (if (v7 &&& ((σ9.1 (49 + 1) v8.toNatClampNeg) ^^^ (-1 : Int32))) = 0 then some ((0 : Int32), σ9) else lt (0 : Int32) (fun v10 => lt (0 : Int32) (fun v11 => fX7_lent_l80 FU σ9 v7 v8 v10 v11)))))))))) else some (v4, σ))
def fX7_lent (σ : St) (a1 : Int32) (a2 : Int32) : Option (Int32 × St) :=
  bp (fX6_hasGuest σ 3 a2) (fun r12 => if r12 = 0 then fX7_lent_b21 σ a1 a2 (-2 : Int32) else bp (fX7_refusalOfDishes σ a1) (fun r13 => fX7_lent_b21 σ a1 a2 r13))
def fX7_menuSet (σ : St) (a1 : Int32) (a2 : Int32) : Option (Int32 × St) :=
  bp (fX7_freshProofs σ) (fun σ1 => gd (ir a1 5) (bp (fX6_canDo σ1 3 a1) (fun r2 => bp (fX5_menuSet σ1 49 3 ((σ1.1 (3 + 6) a1.toNatClampNeg) &&& (a2 ^^^ (-1 : Int32))) r2) (fun r3 => some (r3, σ1)))))
def fX7_proofs (σ : St) (a1 : Int32) : Option (Int32 × St) :=
  bp (fX6_hasClaim σ 3 a1) (fun r1 => if r1 = 0 then some ((-2 : Int32), σ) else bp (fX7_freshProofs σ) (fun σ2 => bp (fX6_allSteps σ2 3) (fun r3 => bp (fX5_countLeast σ2 49 r3 a1) (fun r4 => some (r4, σ2)))))
def fX7_provedByAll (σ : St) : Option (Int32 × St) :=
  bp (fX7_freshProofs σ) (fun σ1 => bp (fX6_allSteps σ1 3) (fun r2 => gd (ir r2 4096) (some ((σ1.1 (49 + 1) r2.toNatClampNeg), σ1))))
def fX7_provedWithout (σ : St) (a1 : Int32) : Option (Int32 × St) :=
  bp (fX7_freshProofs σ) (fun σ1 => bp (fX6_allSteps σ1 3) (fun r2 => gd (ir (r2 &&& (((1 : Int32) <<< (a1 &&& 31)) ^^^ (-1 : Int32))) 4096) (some ((σ1.1 (49 + 1) (r2 &&& (((1 : Int32) <<< (a1 &&& 31)) ^^^ (-1 : Int32))).toNatClampNeg), σ1))))
def fX7_shares_b21 (σ : St) (x1 : Int32) (x2 : Int32) (y0 : Int32) : Option (Int32 × St) :=
  lt y0 (fun v1 => if v1 = 0 then gd (ir x1 4) (lt (rowp x1.toNatClampNeg) (fun k2 => bp (fX1_cook σ 3 k2) (fun σ3 => gd (ir x2 12) (some ((σ3.1 57 x2.toNatClampNeg), σ3))))) else some (v1, σ))
def fX7_shares (σ : St) (a1 : Int32) (a2 : Int32) : Option (Int32 × St) :=
  bp (fX6_hasClaim σ 3 a2) (fun r4 => if r4 = 0 then fX7_shares_b21 σ a1 a2 (-2 : Int32) else bp (fX7_refusalOfPairs σ a1) (fun r5 => fX7_shares_b21 σ a1 a2 r5))
def fX7_shortestSet (σ : St) (a1 : Int32) : Option (Int32 × St) :=
  bp (fX7_freshProofs σ) (fun σ1 => bp (fX6_allSteps σ1 3) (fun r2 => bp (fX5_leastSet σ1 49 r2 ((1 : Int32) <<< (a1 &&& 31))) (fun r3 => some (r3, σ1))))
def fX7_spare (σ : St) (a1 : Int32) : Option (Int32 × St) :=
  bp (fX6_isClaimSet σ 3 a1) (fun r1 => if r1 = 0 then some ((-2 : Int32), σ) else bs (fX7_leastSaltFor σ a1) (fun r2 σ3 => bp (fX7_sizeOrNone r2) (fun r4 => some (r4, σ3))))
def fX7_spared (σ : St) (a1 : Int32) : Option (Int32 × St) :=
  bp (fX6_isClaimSet σ 3 a1) (fun r1 => if r1 = 0 then some ((-2 : Int32), σ) else bs (fX7_leastSaltFor σ a1) (fun r2 σ3 => some (r2, σ3)))
def fX7_takes (σ : St) (a1 : Int32) (a2 : Int32) : Option (Int32 × St) :=
  bp (fX6_hasGuest σ 3 a1) (fun r1 => if r1 = 0 then some ((-2 : Int32), σ) else bp (fX6_isClaimSet σ 3 a2) (fun r2 => if r2 = 0 then some ((-2 : Int32), σ) else bp (fX7_freshProofs σ) (fun σ3 => gd (ir a1 5) (bp (fX5_leastSet σ3 49 (σ3.1 (3 + 6) a1.toNatClampNeg) a2) (fun r4 => lt r4 (fun v5 => if v5 = (-1 : Int32) then some ((-1 : Int32), σ3) else bp (fJ6_bitCount_0f7a4 v5) (fun r6 => gd (ir a1 5) (some ((r6 * (σ3.1 (3 + 5) a1.toNatClampNeg)), σ3)))))))))
def fX7_when_b21 (σ : St) (x1 : Int32) (x2 : Int32) (y0 : Int32) : Option (Int32 × St) :=
  lt y0 (fun v1 => if v1 = 0 then gd (ir x1 4) (lt (rowp x1.toNatClampNeg) (fun k2 => bp (fX1_cook σ 3 k2) (fun σ3 => gd (ir x2 12) (some ((σ3.1 56 x2.toNatClampNeg), σ3))))) else some (v1, σ))
def fX7_when (σ : St) (a1 : Int32) (a2 : Int32) : Option (Int32 × St) :=
  bp (fX6_hasClaim σ 3 a2) (fun r4 => if r4 = 0 then fX7_when_b21 σ a1 a2 (-2 : Int32) else bp (fX7_refusalOfPairs σ a1) (fun r5 => fX7_when_b21 σ a1 a2 r5))
def fX2_isWord_B28 (σ : St) (w : Nat) (kr28 : Int32 → Option (Int32)) (x2 : Int32) : Option (Int32) :=
  if (slenI w) ≤ x2 then gd ((1 : Int32) = 0 ∨ (1 : Int32) = 1) (some (1 : Int32)) else gd (ir ((σ.1 1 5) + x2) 1600) (gd (ir x2 (slen.getD w 0)) (if (σ.1 2 ((σ.1 1 5) + x2).toNatClampNeg) = (scha w x2.toNatClampNeg) then lt (x2 + 1) (fun v3 => kr28 v3) else gd ((0 : Int32) = 0 ∨ (0 : Int32) = 1) (some (0 : Int32))))
def fX2_isWord_l28 (σ : St) (w : Nat) : Nat → Int32 → Option (Int32)
  | 0 => fun _ => none
  | n + 1 => fX2_isWord_B28 σ w (fX2_isWord_l28 σ w n)
def fX2_isWord (σ : St) (w : Nat) : Option (Int32) :=
  if (σ.1 1 4) = (1 : Int32) then if ((σ.1 1 6) - (σ.1 1 5)) = (slenI w) then lt (0 : Int32) (fun v5 => fX2_isWord_l28 σ w FU v5) else gd ((0 : Int32) = 0 ∨ (0 : Int32) = 1) (some (0 : Int32)) else gd ((0 : Int32) = 0 ∨ (0 : Int32) = 1) (some (0 : Int32))
def fX8_canProve (σ : St) (a1 : Int32) (a2 : Int32) : Option (Int32) :=
  bp (fX8_saltNow σ) (fun r1 => bp (fX8_ofGuest σ a1 (1 : Int32)) (fun r2 => bp (fX8_fewestSteps σ r1 r2 a2) (fun r3 => lt r3 (fun v4 => if v4 = (-1 : Int32) then gd ((0 : Int32) = 0 ∨ (0 : Int32) = 1) (some (0 : Int32)) else bp (fX8_bits v4) (fun r5 => bp (fX8_canDo σ a1) (fun r6 => if r6 < r5 then gd ((0 : Int32) = 0 ∨ (0 : Int32) = 1) (some (0 : Int32)) else gd ((1 : Int32) = 0 ∨ (1 : Int32) = 1) (some (1 : Int32))))))))
def fX8_canTogether_b38 (σ : St) (kr5 : Int32 → Int32 → Int32 → Int32 → Option (Int32)) (x1 : Int32) (x2 : Int32) (x4 : Int32) (y0 : Int32) (y1 : Int32) : Option (Int32) :=
  lt (y0 ||| y1) (fun v1 => lt (x4 + 1) (fun v2 => kr5 x1 x2 v1 v2))
def fX8_canTogether_B5 (σ : St) (kr5 : Int32 → Int32 → Int32 → Int32 → Option (Int32)) (x1 : Int32) (x2 : Int32) (x3 : Int32) (x4 : Int32) : Option (Int32) :=
  gd (ir (5 : Int32) 70) (if (σ.1 63 (5 : Int32).toNatClampNeg) ≤ x4 then bp (fX8_saltNow σ) (fun r3 => bp (fX8_fewestSteps σ r3 x3 ((1 : Int32) <<< (x2 &&& 31))) (fun r4 => lt r4 (fun v5 => if v5 = (-1 : Int32) then gd ((0 : Int32) = 0 ∨ (0 : Int32) = 1) (some (0 : Int32)) else bp (fX8_bits v5) (fun r6 => bp (fX8_strengthOf σ x1) (fun r7 => if r7 < r6 then gd ((0 : Int32) = 0 ∨ (0 : Int32) = 1) (some (0 : Int32)) else gd ((1 : Int32) = 0 ∨ (1 : Int32) = 1) (some (1 : Int32))))))) else bp (fX8_bit x1 x4) (fun r8 => if r8 = (1 : Int32) then bp (fX8_ofGuest σ x4 (1 : Int32)) (fun r9 => fX8_canTogether_b38 σ kr5 x1 x2 x4 x3 r9) else fX8_canTogether_b38 σ kr5 x1 x2 x4 x3 (0 : Int32)))
def fX8_canTogether_l5 (σ : St) : Nat → Int32 → Int32 → Int32 → Int32 → Option (Int32)
  | 0 => fun _ _ _ _ => none
  | n + 1 => fX8_canTogether_B5 σ (fX8_canTogether_l5 σ n)
def fX8_canTogether (σ : St) (a1 : Int32) (a2 : Int32) : Option (Int32) :=
  lt (0 : Int32) (fun v10 => lt (0 : Int32) (fun v11 => fX8_canTogether_l5 σ FU a1 a2 v10 v11))
def fX8_core (σ : St) : Option (Int32) :=
  bp (fX8_isTable σ) (fun r1 => if r1 = 0 then some (-2 : Int32) else bp (fX8_coreOf σ) (fun r2 => lt r2 (fun v3 => if v3 = (-1 : Int32) then some (-1 : Int32) else bp (fX8_bits v3) (fun r4 => some r4))))
def fX8_cored (σ : St) : Option (Int32) :=
  bp (fX8_isTable σ) (fun r1 => if r1 = 0 then some (-2 : Int32) else bp (fX8_coreOf σ) (fun r2 => some r2))
def fX8_counter (σ : St) (a1 : Int32) : Option (Int32) :=
  bp (fX8_isClaim σ (a1.toInt64)) (fun r1 => if r1 = 0 then some (-2 : Int32) else bp (fX8_saltedNow σ) (fun r2 => bp (fX8_ofClaim σ a1 (2 : Int32)) (fun r3 => bp (fX8_lowest (r2 &&& (r3 ^^^ (-1 : Int32)))) (fun r4 => some r4))))
def fX8_falls (σ : St) (a1 : Int32) : Option (Int32) :=
  bp (fX8_isClaim σ (a1.toInt64)) (fun r1 => if r1 = 0 then some (-2 : Int32) else bp (fX8_ofClaim σ a1 (1 : Int32)) (fun r2 => if r2 = 0 then some (-2 : Int32) else bp (fX8_provedNow σ) (fun r3 => bp (fX8_saltNow σ) (fun r4 => bp (fX8_allSteps σ) (fun r5 => bp (fX8_provedBy σ (r4 &&& (((1 : Int32) <<< (a1 &&& 31)) ^^^ (-1 : Int32))) r5) (fun r6 => some (r3 &&& (r6 ^^^ (-1 : Int32)))))))))
def fX8_falsity (σ : St) (a1 : Int32) : Option (Int32) :=
  bp (fX8_isStep σ (a1.toInt64)) (fun r1 => if r1 = 0 then some (-2 : Int32) else bp (fX8_falseIn σ a1) (fun r2 => bp (fX8_lowest r2) (fun r3 => some r3)))
def fX8_feastOf (σ : St) (a1 : Int64) (a3 : Int32) : Option (Int32 × St) :=
  bp (fX8_saltNow σ) (fun r1 => bp (fX8_ofGuest σ a3 (1 : Int32)) (fun r2 => bp (fX8_holesBy σ a1) (fun r3 => bp (fX8_canDo σ a3) (fun r4 => bs (fX8_mostBy σ r1 (r2 &&& (r3 ^^^ (-1 : Int32))) r4) (fun r5 σ6 => some (r5, σ6))))))
def fX8_is_B39 (σ : St) (w : Nat) (kr39 : Int32 → Int32 → Option (Int32)) (x2 : Int32) (x3 : Int32) : Option (Int32) :=
  if (slenI w) ≤ x3 then gd (x2 = 0 ∨ x2 = 1) (some x2) else if x2 = 0 then gd (x2 = 0 ∨ x2 = 1) (some x2) else gd (ir ((σ.1 62 9) + x3) 1600) (gd (ir x3 (slen.getD w 0)) (if (σ.1 66 ((σ.1 62 9) + x3).toNatClampNeg) = (scha w x3.toNatClampNeg) then lt (1 : Int32) (fun v5 => lt (x3 + 1) (fun v6 => kr39 v5 v6)) else lt (0 : Int32) (fun v3 => lt (x3 + 1) (fun v4 => kr39 v3 v4))))
def fX8_is_l39 (σ : St) (w : Nat) : Nat → Int32 → Int32 → Option (Int32)
  | 0 => fun _ _ => none
  | n + 1 => fX8_is_B39 σ w (fX8_is_l39 σ w n)
def fX8_is_b36 (σ : St) (w : Nat) (y0 : Int32) : Option (Int32) :=
  lt y0 (fun v7 => lt (0 : Int32) (fun v8 => fX8_is_l39 σ w FU v7 v8))
def fX8_is_b35 (σ : St) (w : Nat) : Option (Int32) :=
  fX8_is_b36 σ w (0 : Int32)
def fX8_is (σ : St) (w : Nat) : Option (Int32) :=
  bp (fX8_good σ) (fun r9 => if r9 = 0 then fX8_is_b35 σ w else if (σ.1 62 10) = (1 : Int32) then if ((σ.1 62 8) - (σ.1 62 9)) = (slenI w) then fX8_is_b36 σ w (1 : Int32) else fX8_is_b35 σ w else fX8_is_b35 σ w)
def fX8_isFollowing (σ : St) (a1 : Int32) : Option (Int32) :=
  bp (fX8_saltedNow σ) (fun r1 => bp (fX8_ofClaim σ a1 (2 : Int32)) (fun r2 => if (r1 &&& (r2 ^^^ (-1 : Int32))) = 0 then gd ((1 : Int32) = 0 ∨ (1 : Int32) = 1) (some (1 : Int32)) else gd ((0 : Int32) = 0 ∨ (0 : Int32) = 1) (some (0 : Int32))))
def fX8_isLeastProof_B13 (σ : St) (kr13 : Int32 → Int32 → Int32 → Option (Int32)) (x1 : Int32) (x2 : Int32) (x3 : Int32) : Option (Int32) :=
  gd (ir (4 : Int32) 70) (if (σ.1 63 (4 : Int32).toNatClampNeg) ≤ x3 then gd ((1 : Int32) = 0 ∨ (1 : Int32) = 1) (some (1 : Int32)) else bp (fX8_bit x1 x3) (fun r1 => if r1 = (1 : Int32) then bp (fX8_isProvedBy σ (x1 &&& (((1 : Int32) <<< (x3 &&& 31)) ^^^ (-1 : Int32))) x2) (fun r3 => if r3 = 0 then lt (x3 + 1) (fun v4 => kr13 x1 x2 v4) else gd ((0 : Int32) = 0 ∨ (0 : Int32) = 1) (some (0 : Int32))) else lt (x3 + 1) (fun v2 => kr13 x1 x2 v2)))
def fX8_isLeastProof_l13 (σ : St) : Nat → Int32 → Int32 → Int32 → Option (Int32)
  | 0 => fun _ _ _ => none
  | n + 1 => fX8_isLeastProof_B13 σ (fX8_isLeastProof_l13 σ n)
def fX8_isLeastProof (σ : St) (a1 : Int32) (a2 : Int32) : Option (Int32) :=
  bp (fX8_isProvedBy σ a1 a2) (fun r5 => if r5 = 0 then gd ((0 : Int32) = 0 ∨ (0 : Int32) = 1) (some (0 : Int32)) else lt (0 : Int32) (fun v6 => fX8_isLeastProof_l13 σ FU a1 a2 v6))
def fX8_likely (σ : St) (a1 : Int32) (a2 : Int32) : Option (Int32) :=
  bp (fX8_isClaim σ (a1.toInt64)) (fun r1 => if r1 = 0 then some (-2 : Int32) else bp (fX8_in (a2.toInt64) (0 : Int64) (1 : Int64)) (fun r2 => if r2 = 0 then some (-2 : Int32) else bp (fX8_saltedNow σ) (fun r3 => lt r3 (fun v4 => if v4 = 0 then some a2 else bp (fX8_ofClaim σ a1 (2 : Int32)) (fun r5 => bp (fX8_bits (v4 &&& r5)) (fun r6 => bp (fX8_bits v4) (fun r7 => bp (fX8_part r6 r7 a2) (fun r8 => some r8))))))))
def fX8_menuOf (σ : St) (a1 : Int32) : Option (Int32 × St) :=
  bp (fX8_saltNow σ) (fun r1 => bp (fX8_ofGuest σ a1 (1 : Int32)) (fun r2 => bp (fX8_canDo σ a1) (fun r3 => bs (fX8_mostBy σ r1 r2 r3) (fun r4 σ5 => some (r4, σ5)))))
def fX8_needs__b66 (σ : St) (kr30 : Int32 → Int32 → Int32 → Option (Int32)) (x1 : Int32) (x3 : Int32) (y0 : Int32) (y1 : Int32) : Option (Int32) :=
  lt (y0 ||| y1) (fun v1 => lt (x3 + 1) (fun v2 => kr30 x1 v1 v2))
def fX8_needs__B30 (σ : St) (kr30 : Int32 → Int32 → Int32 → Option (Int32)) (x1 : Int32) (x2 : Int32) (x3 : Int32) : Option (Int32) :=
  gd (ir (4 : Int32) 70) (if (σ.1 63 (4 : Int32).toNatClampNeg) ≤ x3 then some x2 else bp (fX8_allSteps σ) (fun r3 => bp (fX8_isProvedBy σ (r3 &&& (((1 : Int32) <<< (x3 &&& 31)) ^^^ (-1 : Int32))) x1) (fun r4 => if r4 = 0 then fX8_needs__b66 σ kr30 x1 x3 x2 ((1 : Int32) <<< (x3 &&& 31)) else fX8_needs__b66 σ kr30 x1 x3 x2 (0 : Int32))))
def fX8_needs__l30 (σ : St) : Nat → Int32 → Int32 → Int32 → Option (Int32)
  | 0 => fun _ _ _ => none
  | n + 1 => fX8_needs__B30 σ (fX8_needs__l30 σ n)
def fX8_needs_ (σ : St) (a1 : Int32) : Option (Int32) :=
  bp (fX8_isClaim σ (a1.toInt64)) (fun r5 => if r5 = 0 then some (-2 : Int32) else bp (fX8_allSteps σ) (fun r6 => bp (fX8_isProvedBy σ r6 a1) (fun r7 => if r7 = 0 then some (-1 : Int32) else lt (0 : Int32) (fun v8 => lt (0 : Int32) (fun v9 => fX8_needs__l30 σ FU a1 v8 v9)))))
def fX8_proofOf (σ : St) (a1 : Int32) : Option (Int32) :=
  bp (fX8_saltNow σ) (fun r1 => bp (fX8_allSteps σ) (fun r2 => bp (fX8_fewestSteps σ r1 r2 ((1 : Int32) <<< (a1 &&& 31))) (fun r3 => some r3)))
def fX8_proved (σ : St) : Option (Int32) :=
  bp (fX8_isTable σ) (fun r1 => if r1 = 0 then some (-2 : Int32) else bp (fX8_provedNow σ) (fun r2 => some r2))
def fX8_readSalt_b38 (σ : St) : Option (St) :=
  bs (fX8_freshClaim σ) (fun r1 σ2 => lt r1 (fun v3 => bp (fX8_good σ2) (fun r4 => if r4 = 0 then some σ2 else gd (ir (((7 : Int32) + ((3 : Int32) * v3)) + (1 : Int32)) 70) (lt (setI σ2 68 (((7 : Int32) + ((3 : Int32) * v3)) + (1 : Int32)).toNatClampNeg (1 : Int32)) (fun σ5 => some σ5)))))
def fX8_readSalt (σ : St) : Option (St) :=
  gd (ir (3 : Int32) 70) (bp (fX8_isNextIn σ (σ.1 68 (3 : Int32).toNatClampNeg)) (fun r6 => if r6 = 0 then fX8_readSalt_b38 σ else gd (ir (((7 : Int32) + ((3 : Int32) * (σ.1 62 11))) + (1 : Int32)) 70) (if (σ.1 68 (((7 : Int32) + ((3 : Int32) * (σ.1 62 11))) + (1 : Int32)).toNatClampNeg) = (1 : Int32) then bp (fX8_errs σ (2 : Int32)) (fun σ7 => fX8_readSalt_b38 σ7) else fX8_readSalt_b38 σ)))
def fX8_rests (σ : St) (a1 : Int32) : Option (Int32) :=
  bp (fX8_isStep σ (a1.toInt64)) (fun r1 => if r1 = 0 then some (-2 : Int32) else bp (fX8_provedNow σ) (fun r2 => bp (fX8_saltNow σ) (fun r3 => bp (fX8_allSteps σ) (fun r4 => bp (fX8_provedBy σ r3 (r4 &&& (((1 : Int32) <<< (a1 &&& 31)) ^^^ (-1 : Int32)))) (fun r5 => some (r2 &&& (r5 ^^^ (-1 : Int32))))))))
def fX8_salted (σ : St) : Option (Int32) :=
  bp (fX8_isTable σ) (fun r1 => if r1 = 0 then some (-2 : Int32) else bp (fX8_saltedNow σ) (fun r2 => some r2))
def fX8_same_b35 (σ : St) (x1 : Int32) (x2 : Int32) (x3 : Int32) (y0 : Int32) : Option (Int32 × St) :=
  lt y0 (fun v1 => if v1 = 0 then some ((-2 : Int32), σ) else gd (ir x1 4) (if (σ.1 78 x1.toNatClampNeg) = (-1 : Int32) then some ((-6 : Int32), σ) else gd (ir x2 4) (if (σ.1 78 x2.toNatClampNeg) = (-1 : Int32) then some ((-6 : Int32), σ) else bp (fX8_asksRow σ x1 (1 : Int32)) (fun r2 => if r2 < 0 then some ((-2 : Int32), σ) else bp (fX8_asksRow σ x2 (1 : Int32)) (fun r3 => if 0 ≤ r3 then bs (fX8_usedBy σ x1 x3) (fun r4 σ5 => bs (fX8_usedBy σ5 x2 x3) (fun r6 σ7 => if r4 = r6 then some ((1 : Int32), σ7) else some ((0 : Int32), σ7))) else some ((-2 : Int32), σ))))))
def fX8_same_b34 (σ : St) (x1 : Int32) (x2 : Int32) (x3 : Int32) : Option (Int32 × St) :=
  fX8_same_b35 σ x1 x2 x3 (0 : Int32)
def fX8_same (σ : St) (a1 : Int32) (a2 : Int32) (a3 : Int32) : Option (Int32 × St) :=
  bp (fX8_isSlot a1) (fun r8 => if r8 = 0 then fX8_same_b34 σ a1 a2 a3 else bp (fX8_isSlot a2) (fun r9 => if r9 = 0 then fX8_same_b34 σ a1 a2 a3 else bp (fX8_isTable σ) (fun r10 => if r10 = 0 then fX8_same_b34 σ a1 a2 a3 else bp (fX8_isClaim σ (a3.toInt64)) (fun r11 => if r11 = 0 then fX8_same_b34 σ a1 a2 a3 else fX8_same_b35 σ a1 a2 a3 (1 : Int32)))))
def fX8_spare (σ : St) (a1 : Int32) : Option (Int32) :=
  bp (fX8_areClaims σ a1) (fun r1 => if r1 = 0 then some (-2 : Int32) else bp (fX8_spareOf σ a1) (fun r2 => lt r2 (fun v3 => if v3 = (-1 : Int32) then some (-1 : Int32) else bp (fX8_bits v3) (fun r4 => some r4))))
def fX8_spared (σ : St) (a1 : Int32) : Option (Int32) :=
  bp (fX8_areClaims σ a1) (fun r1 => if r1 = 0 then some (-2 : Int32) else bp (fX8_spareOf σ a1) (fun r2 => some r2))
def fX8_step (σ : St) (a1 : Int32) (a2 : Int32) : Option (Int32) :=
  bp (fX8_isStep σ (a1.toInt64)) (fun r1 => if r1 = 0 then some (-2 : Int32) else bp (fX8_in (a2.toInt64) (0 : Int64) (2 : Int64)) (fun r2 => if r2 = 0 then some (-2 : Int32) else if (2 : Int32) ≤ a2 then bp (fX8_falseIn σ a1) (fun r3 => if r3 = 0 then some (1 : Int32) else some (0 : Int32)) else bp (fX8_ofStep σ a1 a2) (fun r4 => some r4)))
def fX8_takes_ (σ : St) (a1 : Int32) (a2 : Int32) : Option (Int32) :=
  bp (fX8_isGuest σ (a1.toInt64)) (fun r1 => if r1 = 0 then some (-2 : Int32) else bp (fX8_areClaims σ a2) (fun r2 => if r2 = 0 then some (-2 : Int32) else bp (fX8_saltNow σ) (fun r3 => bp (fX8_ofGuest σ a1 (1 : Int32)) (fun r4 => bp (fX8_fewestSteps σ r3 r4 a2) (fun r5 => lt r5 (fun v6 => if v6 = (-1 : Int32) then some (-1 : Int32) else bp (fX8_bits v6) (fun r7 => bp (fX8_ofGuest σ a1 (0 : Int32)) (fun r8 => some (r7 * r8)))))))))
def fX8_used (σ : St) (a1 : Int32) (a2 : Int32) : Option (Int32 × St) :=
  bp (fX8_isClaim σ (a2.toInt64)) (fun r1 => bp (fX8_asksRow σ a1 r1) (fun r2 => lt r2 (fun v3 => if 0 ≤ v3 then bs (fX8_usedBy σ a1 a2) (fun r4 σ5 => some (r4, σ5)) else some (v3, σ))))
def fX8_worstOf (σ : St) (a1 : Int32) : Option (Int32) :=
  bp (fX8_saltedNow σ) (fun r1 => bp (fX8_ofClaim σ a1 (2 : Int32)) (fun r2 => bp (fX8_bits (r1 &&& r2)) (fun r3 => lt r3 (fun v4 => bp (fX8_saltedNow σ) (fun r5 => bp (fX8_bits r5) (fun r6 => some (if v4 < (r6 - v4) then (r6 - v4) else v4)))))))
def fX7_ate (σ : St) (a1 : Int32) : Option (Int32 × St) :=
  bp (fX7_refusalOfDishes σ a1) (fun r1 => lt r1 (fun v2 => if v2 = 0 then gd (ir a1 4) (lt (rowp a1.toNatClampNeg) (fun k3 => bp (fX4_asSet σ k3) (fun r4 => bs (fX7_guestsProving σ r4) (fun r5 σ6 => some (r5, σ6))))) else some (v2, σ)))
def fX7_bite_B51 (kr51 : St → Int32 → Int32 → Int32 → Int32 → Option (Int32 × St)) (σ : St) (x2 : Int32) (x3 : Int32) (x4 : Int32) (x5 : Int32) : Option (Int32 × St) :=
  if x2 ≤ x5 then bp (fX6_firstGoing σ 3 x3 x4) (fun r1 => some (r1, σ)) else bp (fX6_firstGoing σ 3 x3 x4) (fun r2 => lt r2 (fun v3 => if v3 = (-1 : Int32) then some ((-1 : Int32), σ) else gd (ir v3 12) (lt (x4 ||| ((1 : Int32) <<< ((σ.1 (3 + 3) v3.toNatClampNeg) &&& 31))) (fun v4 => lt (x5 + 1) (fun v5 => kr51 σ x2 x3 v4 v5)))))
def fX7_bite_l51 : Nat → St → Int32 → Int32 → Int32 → Int32 → Option (Int32 × St)
  | 0 => fun _ _ _ _ _ => none
  | n + 1 => fX7_bite_B51 (fX7_bite_l51 n)
def fX7_bite (σ : St) (a1 : Int32) (a2 : Int32) : Option (Int32 × St) :=
  bp (fX6_hasClaim σ 3 a1) (fun r6 => if r6 = 0 then some ((-2 : Int32), σ) else bs (fX7_shortestSet σ a1) (fun r7 σ8 => lt r7 (fun v9 => if v9 = (-1 : Int32) then some ((-1 : Int32), σ8) else if a2 < 0 then some ((-1 : Int32), σ8) else bp (fJ6_bitCount_0f7a4 v9) (fun r10 => if a2 < r10 then lt (σ8.1 3 7) (fun v11 => lt (0 : Int32) (fun v12 => fX7_bite_l51 FU σ8 a2 v9 v11 v12)) else some ((-1 : Int32), σ8)))))
def fX7_course (σ : St) (a1 : Int32) : Option (Int32 × St) :=
  bp (fX6_hasGuest σ 3 a1) (fun r1 => if r1 = 0 then some ((-2 : Int32), σ) else bs (fX7_menuSet σ a1 (0 : Int32)) (fun r2 σ3 => some (r2, σ3)))
def fX7_covered (σ : St) : Option (Int32 × St) :=
  bp (fX6_isTold σ 3) (fun r1 => if r1 = 0 then some ((-2 : Int32), σ) else bp (fX6_following σ 3) (fun r2 => bs (fX7_provedByAll σ) (fun r3 σ4 => some ((r2 &&& (r3 ^^^ (-1 : Int32))), σ4))))
def fX7_dishes (σ : St) (a1 : Int32) : Option (Int32 × St) :=
  bp (fX6_hasGuest σ 3 a1) (fun r1 => if r1 = 0 then some ((-2 : Int32), σ) else bp (fX7_freshProofs σ) (fun σ2 => bs (fX7_menuSet σ2 a1 (0 : Int32)) (fun r3 σ4 => gd (ir r3 4096) (some (((σ4.1 (49 + 1) r3.toNatClampNeg) &&& ((σ4.1 3 7) ^^^ (-1 : Int32))), σ4)))))
def fX7_falls (σ : St) (a1 : Int32) : Option (Int32 × St) :=
  bp (fX6_hasClaim σ 3 a1) (fun r1 => if r1 = 0 then some ((-2 : Int32), σ) else if (((σ.1 3 7) >>> (a1 &&& 31)) &&& (1 : Int32)) = 0 then some ((-2 : Int32), σ) else bs (fX7_provedByAll σ) (fun r2 σ3 => bp (fX6_allSteps σ3 3) (fun r4 => bp (fX6_spread σ3 3 r4 ((σ3.1 3 7) &&& (((1 : Int32) <<< (a1 &&& 31)) ^^^ (-1 : Int32)))) (fun r5 => some ((r2 &&& (r5 ^^^ (-1 : Int32))), σ3)))))
def fX7_host_B16 (kr16 : St → Int32 → Int32 → Option (Int32 × St)) (σ : St) (x1 : Int32) (x2 : Int32) : Option (Int32 × St) :=
  if (σ.1 3 4) ≤ x2 then some ((-1 : Int32), σ) else bs (fX7_guestsProving σ ((1 : Int32) <<< (x2 &&& 31))) (fun r1 σ2 => if r1 = x1 then some (x2, σ2) else lt (x2 + 1) (fun v3 => kr16 σ2 x1 v3))
def fX7_host_l16 : Nat → St → Int32 → Int32 → Option (Int32 × St)
  | 0 => fun _ _ _ => none
  | n + 1 => fX7_host_B16 (fX7_host_l16 n)
def fX7_host (σ : St) (a1 : Int32) : Option (Int32 × St) :=
  bp (fX6_isGuestSet σ 3 a1) (fun r4 => if r4 = 0 then some ((-2 : Int32), σ) else lt (0 : Int32) (fun v5 => fX7_host_l16 FU σ a1 v5))
def fX7_leastTeam_B8 (kr8 : St → Int32 → Int32 → Int32 → Int32 → Option (Int32 × St)) (σ : St) (x1 : Int32) (x2 : Int32) (x3 : Int32) (x4 : Int32) : Option (Int32 × St) :=
  if ((1 : Int32) <<< ((σ.1 3 6) &&& 31)) ≤ x4 then some (x2, σ) else bp (fJ6_bitCount_0f7a4 x4) (fun r1 => lt r1 (fun v2 => if x3 ≤ v2 then lt (x4 + 1) (fun v3 => kr8 σ x1 x2 x3 v3) else bs (fX7_doesTeamProve σ x4 x1) (fun r4 σ5 => if r4 = 0 then lt (x4 + 1) (fun v6 => kr8 σ5 x1 x2 x3 v6) else lt x4 (fun v7 => lt v2 (fun v8 => lt (x4 + 1) (fun v9 => kr8 σ5 x1 v7 v8 v9))))))
def fX7_leastTeam_l8 : Nat → St → Int32 → Int32 → Int32 → Int32 → Option (Int32 × St)
  | 0 => fun _ _ _ _ _ => none
  | n + 1 => fX7_leastTeam_B8 (fX7_leastTeam_l8 n)
def fX7_leastTeam (σ : St) (a1 : Int32) : Option (Int32 × St) :=
  lt (-1 : Int32) (fun v10 => lt (6 : Int32) (fun v11 => lt (0 : Int32) (fun v12 => fX7_leastTeam_l8 FU σ a1 v10 v11 v12)))
def fX7_lengthOfDuel (σ : St) : Option (Int32 × St) :=
  bs (fX7_provedByAll σ) (fun r1 σ2 => bp (fJ6_bitCount_0f7a4 (r1 &&& ((σ2.1 3 7) ^^^ (-1 : Int32)))) (fun r3 => some (r3, σ2)))
def fX7_menuWorth (σ : St) (a1 : Int32) (a2 : Int32) : Option (Int32 × St) :=
  bp (fX7_freshProofs σ) (fun σ1 => bs (fX7_menuSet σ1 a1 a2) (fun r2 σ3 => gd (ir r2 4096) (bp (fX6_worthOf σ3 3 ((σ3.1 (49 + 1) r2.toNatClampNeg) &&& ((σ3.1 3 7) ^^^ (-1 : Int32)))) (fun r4 => some (r4, σ3)))))
def fX7_needs_B31 (kr31 : St → Int32 → Int32 → Int32 → Option (Int32 × St)) (σ : St) (x1 : Int32) (x2 : Int32) (x3 : Int32) : Option (Int32 × St) :=
  if (σ.1 3 5) ≤ x3 then some (x2, σ) else bs (fX7_provedWithout σ x3) (fun r1 σ2 => if ((r1 >>> (x1 &&& 31)) &&& (1 : Int32)) = 0 then lt (x2 ||| ((1 : Int32) <<< (x3 &&& 31))) (fun v4 => lt (x3 + 1) (fun v5 => kr31 σ2 x1 v4 v5)) else lt (x3 + 1) (fun v3 => kr31 σ2 x1 x2 v3))
def fX7_needs_l31 : Nat → St → Int32 → Int32 → Int32 → Option (Int32 × St)
  | 0 => fun _ _ _ _ => none
  | n + 1 => fX7_needs_B31 (fX7_needs_l31 n)
def fX7_needs (σ : St) (a1 : Int32) : Option (Int32 × St) :=
  bp (fX6_hasClaim σ 3 a1) (fun r6 => if r6 = 0 then some ((-2 : Int32), σ) else bs (fX7_provedByAll σ) (fun r7 σ8 => if ((r7 >>> (a1 &&& 31)) &&& (1 : Int32)) = 0 then some ((-1 : Int32), σ8) else lt (0 : Int32) (fun v9 => lt (0 : Int32) (fun v10 => fX7_needs_l31 FU σ8 a1 v9 v10))))
def fX7_proof (σ : St) (a1 : Int32) : Option (Int32 × St) :=
  bp (fX6_hasClaim σ 3 a1) (fun r1 => if r1 = 0 then some ((-2 : Int32), σ) else bs (fX7_shortestSet σ a1) (fun r2 σ3 => some (r2, σ3)))
def fX7_proved (σ : St) : Option (Int32 × St) :=
  bp (fX6_isTold σ 3) (fun r1 => if r1 = 0 then some ((-2 : Int32), σ) else bs (fX7_provedByAll σ) (fun r2 σ3 => some (r2, σ3)))
def fX7_rests (σ : St) (a1 : Int32) : Option (Int32 × St) :=
  bp (fX6_hasStep σ 3 a1) (fun r1 => if r1 = 0 then some ((-2 : Int32), σ) else bs (fX7_provedByAll σ) (fun r2 σ3 => bs (fX7_provedWithout σ3 a1) (fun r4 σ5 => some ((r2 &&& (r4 ^^^ (-1 : Int32))), σ5))))
def fX7_shortest (σ : St) (a1 : Int32) : Option (Int32 × St) :=
  bp (fX6_hasClaim σ 3 a1) (fun r1 => if r1 = 0 then some ((-2 : Int32), σ) else bs (fX7_shortestSet σ a1) (fun r2 σ3 => bp (fX7_sizeOrNone r2) (fun r4 => some (r4, σ3))))
def fX7_together (σ : St) (a1 : Int32) (a2 : Int32) : Option (Int32 × St) :=
  bp (fX6_isGuestSet σ 3 a1) (fun r1 => if r1 = 0 then some ((-2 : Int32), σ) else bp (fX6_hasClaim σ 3 a2) (fun r2 => if r2 = 0 then some ((-2 : Int32), σ) else bs (fX7_doesTeamProve σ a1 a2) (fun r3 σ4 => bp (fX7_bit r3) (fun r5 => some (r5, σ4)))))
def fX7_who (σ : St) (a1 : Int32) : Option (Int32 × St) :=
  bp (fX6_hasClaim σ 3 a1) (fun r1 => if r1 = 0 then some ((-2 : Int32), σ) else bs (fX7_guestsProving σ ((1 : Int32) <<< (a1 &&& 31))) (fun r2 σ3 => some (r2, σ3)))
def fX7_wrong (σ : St) : Option (Int32 × St) :=
  bp (fX6_isTold σ 3) (fun r1 => if r1 = 0 then some ((-2 : Int32), σ) else bs (fX7_provedByAll σ) (fun r2 σ3 => bp (fX6_following σ3 3) (fun r4 => some ((r2 &&& (r4 ^^^ (-1 : Int32))), σ3))))
def fX2_operatorHere (σ : St) : Option (Int32) :=
  bp (fX2_isWord σ 8) (fun r1 => if r1 = 0 then bp (fX2_isWord σ 9) (fun r2 => if r2 = 0 then bp (fX2_isWord σ 10) (fun r3 => if r3 = 0 then bp (fX2_isWord σ 11) (fun r4 => if r4 = 0 then some (0 : Int32) else some (4 : Int32)) else some (3 : Int32)) else some (2 : Int32)) else some (1 : Int32))
def fX2_readWord (σ : St) (w : Nat) : Option (Int32 × St) :=
  bp (fX2_isWord σ w) (fun r1 => if r1 = 0 then bs (fX2_fail σ (1 : Int32)) (fun r3 σ4 => gd (r3 = 0 ∨ r3 = 1) (some (r3, σ4))) else bp (fX2_advance σ) (fun σ2 => gd ((1 : Int32) = 0 ∨ (1 : Int32) = 1) (some ((1 : Int32), σ2))))
def fX2_worldsOfLeaf (σ : St) (t : Nat) : Option (Int32) :=
  bp (fX2_isWord σ 6) (fun r1 => if r1 = 0 then bp (fX2_isWord σ 7) (fun r2 => if r2 = 0 then if (σ.1 1 4) = (1 : Int32) then if ((σ.1 1 6) - (σ.1 1 5)) = (1 : Int32) then gd (ir (σ.1 1 5) 1600) (lt ((σ.1 2 (σ.1 1 5).toNatClampNeg) - (97 : Int32)) (fun v3 => if (σ.1 t 1) ≤ v3 then some (-1 : Int32) else bp (fX6_worldsOfAtom σ t v3) (fun r4 => some r4))) else some (-1 : Int32) else some (-1 : Int32) else some (0 : Int32)) else bp (fX6_allWorlds σ t) (fun r5 => some r5))
def fX8_askOf_B12 (σ : St) (kr12 : Int32 → Int32 → Int32 → Option (Int32)) (x1 : Int32) (x2 : Int32) (x3 : Int32) : Option (Int32) :=
  gd (ir (3 : Int32) 70) (if (σ.1 63 (3 : Int32).toNatClampNeg) ≤ x3 then some x1 else bp (fX8_worstOf σ x3) (fun r1 => if r1 < x2 then bp (fX8_worstOf σ x3) (fun r2 => lt r2 (fun v3 => lt x3 (fun v4 => lt (x3 + 1) (fun v5 => kr12 v4 v3 v5)))) else lt (x3 + 1) (fun v6 => kr12 x1 x2 v6)))
def fX8_askOf_l12 (σ : St) : Nat → Int32 → Int32 → Int32 → Option (Int32)
  | 0 => fun _ _ _ => none
  | n + 1 => fX8_askOf_B12 σ (fX8_askOf_l12 σ n)
def fX8_askOf (σ : St) : Option (Int32) :=
  lt (-1 : Int32) (fun v7 => bp (fX8_saltedNow σ) (fun r8 => bp (fX8_bits r8) (fun r9 => lt r9 (fun v10 => lt (0 : Int32) (fun v11 => fX8_askOf_l12 σ FU v7 v10 v11)))))
def fX8_ate_b52 (σ : St) (kr18 : Int32 → Int32 → Int32 → Option (Int32)) (x1 : Int32) (x4 : Int32) (y0 : Int32) (y1 : Int32) : Option (Int32) :=
  lt (y0 ||| y1) (fun v1 => lt (x4 + 1) (fun v2 => kr18 x1 v1 v2))
def fX8_ate_B18 (σ : St) (kr18 : Int32 → Int32 → Int32 → Option (Int32)) (x1 : Int32) (x3 : Int32) (x4 : Int32) : Option (Int32) :=
  gd (ir (5 : Int32) 70) (if (σ.1 63 (5 : Int32).toNatClampNeg) ≤ x4 then some x3 else bp (fX8_eatenBy σ x1) (fun r3 => bp (fX8_canProve σ x4 r3) (fun r4 => if r4 = 0 then fX8_ate_b52 σ kr18 x1 x4 x3 (0 : Int32) else fX8_ate_b52 σ kr18 x1 x4 x3 ((1 : Int32) <<< (x4 &&& 31)))))
def fX8_ate_l18 (σ : St) : Nat → Int32 → Int32 → Int32 → Option (Int32)
  | 0 => fun _ _ _ => none
  | n + 1 => fX8_ate_B18 σ (fX8_ate_l18 σ n)
def fX8_ate (σ : St) (a1 : Int32) : Option (Int32) :=
  bp (fX8_asksEaten σ a1 (1 : Int32)) (fun r5 => lt r5 (fun v6 => if 0 ≤ v6 then lt (0 : Int32) (fun v7 => lt (0 : Int32) (fun v8 => fX8_ate_l18 σ FU a1 v7 v8)) else some v6))
def fX8_bite_b99 (σ : St) (kr53 : Int32 → Int32 → Int32 → Int32 → Int32 → Option (Int32)) (x2 : Int32) (x3 : Int32) (x4 : Int32) (x5 : Int32) (x6 : Int32) : Option (Int32) :=
  gd (ir (4 : Int32) 70) (if x5 = (σ.1 63 (4 : Int32).toNatClampNeg) then some (-1 : Int32) else bp (fX8_ofStep σ x5 (0 : Int32)) (fun r1 => lt (x4 ||| ((1 : Int32) <<< (r1 &&& 31))) (fun v2 => lt (x6 + 1) (fun v3 => kr53 x2 x3 v2 x5 v3))))
def fX8_bite_B62 (σ : St) (kr53 : Int32 → Int32 → Int32 → Int32 → Int32 → Option (Int32)) (kr62 : Int32 → Int32 → Int32 → Int32 → Int32 → Option (Int32)) (x2 : Int32) (x3 : Int32) (x4 : Int32) (x5 : Int32) (x6 : Int32) : Option (Int32) :=
  gd (ir (4 : Int32) 70) (if (σ.1 63 (4 : Int32).toNatClampNeg) ≤ x5 then fX8_bite_b99 σ kr53 x2 x3 x4 x5 x6 else bp (fX8_bit x3 x5) (fun r4 => if r4 = 0 then lt (x5 + 1) (fun v5 => kr62 x2 x3 x4 v5 x6) else bp (fX8_goes σ x5 x4) (fun r6 => if r6 = 0 then lt (x5 + 1) (fun v7 => kr62 x2 x3 x4 v7 x6) else fX8_bite_b99 σ kr53 x2 x3 x4 x5 x6)))
def fX8_bite_l62 (σ : St) (kr53 : Int32 → Int32 → Int32 → Int32 → Int32 → Option (Int32)) : Nat → Int32 → Int32 → Int32 → Int32 → Int32 → Option (Int32)
  | 0 => fun _ _ _ _ _ => none
  | n + 1 => fX8_bite_B62 σ kr53 (fX8_bite_l62 σ kr53 n)
def fX8_bite_B53 (σ : St) (kr53 : Int32 → Int32 → Int32 → Int32 → Int32 → Option (Int32)) (x2 : Int32) (x3 : Int32) (x4 : Int32) (x5 : Int32) (x6 : Int32) : Option (Int32) :=
  if x2 < x6 then some x5 else lt (0 : Int32) (fun v8 => fX8_bite_l62 σ kr53 FU x2 x3 x4 v8 x6)
def fX8_bite_l53 (σ : St) : Nat → Int32 → Int32 → Int32 → Int32 → Int32 → Option (Int32)
  | 0 => fun _ _ _ _ _ => none
  | n + 1 => fX8_bite_B53 σ (fX8_bite_l53 σ n)
def fX8_bite (σ : St) (a1 : Int32) (a2 : Int32) : Option (Int32) :=
  bp (fX8_isClaim σ (a1.toInt64)) (fun r9 => if r9 = 0 then some (-2 : Int32) else bp (fX8_proofOf σ a1) (fun r10 => lt r10 (fun v11 => if v11 = (-1 : Int32) then some (-1 : Int32) else bp (fX8_bits v11) (fun r12 => bp (fX8_in (a2.toInt64) (0 : Int64) ((r12 - (1 : Int32)).toInt64)) (fun r13 => if r13 = 0 then some (-1 : Int32) else bp (fX8_saltNow σ) (fun r14 => lt r14 (fun v15 => lt (0 : Int32) (fun v16 => lt (0 : Int32) (fun v17 => fX8_bite_l53 σ FU a2 v11 v15 v16 v17)))))))))
def fX8_course (σ : St) (a1 : Int32) : Option (Int32 × St) :=
  bp (fX8_isGuest σ (a1.toInt64)) (fun r1 => if r1 = 0 then some ((-2 : Int32), σ) else bs (fX8_menuOf σ a1) (fun r2 σ3 => some ((σ3.1 62 21), σ3)))
def fX8_dishes (σ : St) (a1 : Int32) : Option (Int32 × St) :=
  bp (fX8_isGuest σ (a1.toInt64)) (fun r1 => if r1 = 0 then some ((-2 : Int32), σ) else bs (fX8_menuOf σ a1) (fun r2 σ3 => bp (fX8_saltNow σ3) (fun r4 => bp (fX8_provedBy σ3 r4 (σ3.1 62 21)) (fun r5 => bp (fX8_saltNow σ3) (fun r6 => some ((r5 &&& (r6 ^^^ (-1 : Int32))), σ3))))))
def fX8_feast (σ : St) (a1 : Int32) (a2 : Int32) : Option (Int32 × St) :=
  bp (fX8_isSeed a1) (fun r1 => if r1 = 0 then some ((-2 : Int32), σ) else bp (fX8_isGuest σ (a2.toInt64)) (fun r2 => if r2 = 0 then some ((-2 : Int32), σ) else bs (fX8_feastOf σ (a1.toInt64) a2) (fun r3 σ4 => some (r3, σ4))))
def fX8_following_b30 (σ : St) (kr4 : Int32 → Int32 → Option (Int32)) (x2 : Int32) (y0 : Int32) (y1 : Int32) : Option (Int32) :=
  lt (y0 ||| y1) (fun v1 => lt (x2 + 1) (fun v2 => kr4 v1 v2))
def fX8_following_B4 (σ : St) (kr4 : Int32 → Int32 → Option (Int32)) (x1 : Int32) (x2 : Int32) : Option (Int32) :=
  gd (ir (3 : Int32) 70) (if (σ.1 63 (3 : Int32).toNatClampNeg) ≤ x2 then some x1 else bp (fX8_isFollowing σ x2) (fun r3 => if r3 = 0 then fX8_following_b30 σ kr4 x2 x1 (0 : Int32) else fX8_following_b30 σ kr4 x2 x1 ((1 : Int32) <<< (x2 &&& 31))))
def fX8_following_l4 (σ : St) : Nat → Int32 → Int32 → Option (Int32)
  | 0 => fun _ _ => none
  | n + 1 => fX8_following_B4 σ (fX8_following_l4 σ n)
def fX8_following (σ : St) : Option (Int32) :=
  lt (0 : Int32) (fun v4 => lt (0 : Int32) (fun v5 => fX8_following_l4 σ FU v4 v5))
def fX8_follows (σ : St) (a1 : Int32) : Option (Int32) :=
  bp (fX8_isClaim σ (a1.toInt64)) (fun r1 => if r1 = 0 then some (-2 : Int32) else bp (fX8_isFollowing σ a1) (fun r2 => if r2 = 0 then some (0 : Int32) else some (1 : Int32)))
def fX8_formWord_b75 (σ : St) (y1 : Int32) : Option (Int32 × St) :=
  lt (setI σ 62 18 y1) (fun σ1 => if (σ1.1 62 18) = (-1 : Int32) then bp (fX8_good σ1) (fun r2 => if r2 = 0 then some ((5 : Int32), σ1) else if (σ1.1 62 10) = (1 : Int32) then if ((σ1.1 62 8) - (σ1.1 62 9)) = (1 : Int32) then gd (ir (σ1.1 62 9) 1600) (gd (ir (0 : Int32) 70) (bp (fX8_in (((σ1.1 66 (σ1.1 62 9).toNatClampNeg) - (97 : Int32)).toInt64) (0 : Int64) (((σ1.1 68 (0 : Int32).toNatClampNeg) - (1 : Int32)).toInt64)) (fun r3 => if r3 = 0 then some ((5 : Int32), σ1) else gd (ir (σ1.1 62 9) 1600) (bp (fX8_atomWorlds σ1 ((σ1.1 66 (σ1.1 62 9).toNatClampNeg) - (97 : Int32))) (fun r4 => lt (setI σ1 62 18 r4) (fun σ5 => some ((4 : Int32), σ5))))))) else some ((5 : Int32), σ1) else some ((5 : Int32), σ1)) else some ((4 : Int32), σ1))
def fX8_formWord (σ : St) : Option (Int32 × St) :=
  bp (fX8_is σ 8) (fun r6 => if r6 = 0 then bp (fX8_is σ 9) (fun r7 => if r7 = 0 then bp (fX8_is σ 10) (fun r8 => if r8 = 0 then bp (fX8_is σ 11) (fun r9 => if r9 = 0 then bp (fX8_is σ 6) (fun r10 => if r10 = 0 then bp (fX8_is σ 7) (fun r11 => if r11 = 0 then fX8_formWord_b75 σ (-1 : Int32) else fX8_formWord_b75 σ (0 : Int32)) else bp (fX8_freshAll σ) (fun r12 => fX8_formWord_b75 σ r12)) else some ((3 : Int32), σ)) else some ((2 : Int32), σ)) else some ((1 : Int32), σ)) else some ((0 : Int32), σ))
def fX8_lemmaOf_B11 (kr11 : St → Int32 → Int32 → Int32 → Int32 → Option (Int32 × St)) (σ : St) (x1 : Int32) (x2 : Int32) (x3 : Int32) (x4 : Int32) : Option (Int32 × St) :=
  gd (ir (3 : Int32) 70) (if (σ.1 63 (3 : Int32).toNatClampNeg) ≤ x4 then some (x2, σ) else bp (fX8_saltNow σ) (fun r1 => bp (fX8_ofGuest σ x1 (1 : Int32)) (fun r2 => bp (fX8_canDo σ x1) (fun r3 => bs (fX8_mostBy σ (r1 ||| ((1 : Int32) <<< (x4 &&& 31))) r2 r3) (fun r4 σ5 => lt r4 (fun v6 => if x3 < v6 then lt v6 (fun v7 => lt x4 (fun v8 => lt (x4 + 1) (fun v9 => kr11 σ5 x1 v8 v7 v9))) else lt (x4 + 1) (fun v10 => kr11 σ5 x1 x2 x3 v10)))))))
def fX8_lemmaOf_l11 : Nat → St → Int32 → Int32 → Int32 → Int32 → Option (Int32 × St)
  | 0 => fun _ _ _ _ _ => none
  | n + 1 => fX8_lemmaOf_B11 (fX8_lemmaOf_l11 n)
def fX8_lemmaOf (σ : St) (a1 : Int32) : Option (Int32 × St) :=
  lt (-1 : Int32) (fun v11 => bs (fX8_menuOf σ a1) (fun r12 σ13 => lt r12 (fun v14 => lt (0 : Int32) (fun v15 => fX8_lemmaOf_l11 FU σ13 a1 v11 v14 v15))))
def fX8_mean_B48 (kr48 : St → Int32 → Int32 → Int32 → Int32 → Int32 → Int32 → Option (Int32 × St)) (σ : St) (x1 : Int32) (x2 : Int32) (x3 : Int32) (x4 : Int32) (x5 : Int32) (x6 : Int32) : Option (Int32 × St) :=
  if x2 ≤ x6 then bp (fX8_part x5 x2 x4) (fun r1 => some (r1, σ)) else bs (fX8_feastOf σ ((x1.toInt64) + (x6.toInt64)) x3) (fun r2 σ3 => lt (x5 + r2) (fun v4 => lt (x6 + 1) (fun v5 => kr48 σ3 x1 x2 x3 x4 v4 v5)))
def fX8_mean_l48 : Nat → St → Int32 → Int32 → Int32 → Int32 → Int32 → Int32 → Option (Int32 × St)
  | 0 => fun _ _ _ _ _ _ _ => none
  | n + 1 => fX8_mean_B48 (fX8_mean_l48 n)
def fX8_mean (σ : St) (a1 : Int32) (a2 : Int32) (a3 : Int32) (a4 : Int32) : Option (Int32 × St) :=
  bp (fX8_isSeed a1) (fun r6 => if r6 = 0 then some ((-2 : Int32), σ) else bp (fX8_in (a2.toInt64) (1 : Int64) (20 : Int64)) (fun r7 => if r7 = 0 then some ((-2 : Int32), σ) else bp (fX8_isGuest σ (a3.toInt64)) (fun r8 => if r8 = 0 then some ((-2 : Int32), σ) else bp (fX8_in (a4.toInt64) (0 : Int64) (1 : Int64)) (fun r9 => if r9 = 0 then some ((-2 : Int32), σ) else lt (0 : Int32) (fun v10 => lt (0 : Int32) (fun v11 => fX8_mean_l48 FU σ a1 a2 a3 a4 v10 v11))))))
def fX8_menu (σ : St) (a1 : Int32) : Option (Int32 × St) :=
  bp (fX8_isGuest σ (a1.toInt64)) (fun r1 => if r1 = 0 then some ((-2 : Int32), σ) else bs (fX8_menuOf σ a1) (fun r2 σ3 => some (r2, σ3)))
def fX8_proof (σ : St) (a1 : Int32) : Option (Int32) :=
  bp (fX8_isClaim σ (a1.toInt64)) (fun r1 => if r1 = 0 then some (-2 : Int32) else bp (fX8_proofOf σ a1) (fun r2 => some r2))
def fX8_proofs_b39 (σ : St) (kr16 : Int32 → Int32 → Int32 → Option (Int32)) (x1 : Int32) (x3 : Int32) (y0 : Int32) (y1 : Int32) : Option (Int32) :=
  lt (y0 + y1) (fun v1 => lt (x3 + 1) (fun v2 => kr16 x1 v1 v2))
def fX8_proofs_B16 (σ : St) (kr16 : Int32 → Int32 → Int32 → Option (Int32)) (x1 : Int32) (x2 : Int32) (x3 : Int32) : Option (Int32) :=
  bp (fX8_allSteps σ) (fun r3 => if r3 < x3 then some x2 else bp (fX8_isLeastProof σ x3 x1) (fun r4 => if r4 = 0 then fX8_proofs_b39 σ kr16 x1 x3 x2 (0 : Int32) else fX8_proofs_b39 σ kr16 x1 x3 x2 (1 : Int32)))
def fX8_proofs_l16 (σ : St) : Nat → Int32 → Int32 → Int32 → Option (Int32)
  | 0 => fun _ _ _ => none
  | n + 1 => fX8_proofs_B16 σ (fX8_proofs_l16 σ n)
def fX8_proofs (σ : St) (a1 : Int32) : Option (Int32) :=
  bp (fX8_isClaim σ (a1.toInt64)) (fun r5 => if r5 = 0 then some (-2 : Int32) else lt (0 : Int32) (fun v6 => lt (0 : Int32) (fun v7 => fX8_proofs_l16 σ FU a1 v6 v7)))
def fX8_shortest (σ : St) (a1 : Int32) : Option (Int32) :=
  bp (fX8_isClaim σ (a1.toInt64)) (fun r1 => if r1 = 0 then some (-2 : Int32) else bp (fX8_proofOf σ a1) (fun r2 => lt r2 (fun v3 => if v3 = (-1 : Int32) then some (-1 : Int32) else bp (fX8_bits v3) (fun r4 => some r4))))
def fX8_takes (σ : St) (w : Nat) : Option (Int32 × St) :=
  bp (fX8_is σ w) (fun r1 => lt r1 (fun v2 => if v2 = 0 then gd (v2 = 0 ∨ v2 = 1) (some (v2, σ)) else bp (fX8_advance σ) (fun σ3 => gd (v2 = 0 ∨ v2 = 1) (some (v2, σ3)))))
def fX8_teamOf_b28 (σ : St) (kr4 : Int32 → Int32 → Int32 → Option (Int32)) (x1 : Int32) (x2 : Int32) (x3 : Int32) : Option (Int32) :=
  bp (fX8_canTogether σ x3 x1) (fun r1 => if r1 = 0 then lt (x3 + 1) (fun v2 => kr4 x1 x2 v2) else lt x3 (fun v3 => lt (x3 + 1) (fun v4 => kr4 x1 v3 v4)))
def fX8_teamOf_B4 (σ : St) (kr4 : Int32 → Int32 → Int32 → Option (Int32)) (x1 : Int32) (x2 : Int32) (x3 : Int32) : Option (Int32) :=
  bp (fX8_allGuests σ) (fun r5 => if r5 < x3 then some x2 else if x2 = (-1 : Int32) then fX8_teamOf_b28 σ kr4 x1 x2 x3 else bp (fX8_bits x3) (fun r6 => bp (fX8_bits x2) (fun r7 => if r7 ≤ r6 then lt (x3 + 1) (fun v8 => kr4 x1 x2 v8) else fX8_teamOf_b28 σ kr4 x1 x2 x3)))
def fX8_teamOf_l4 (σ : St) : Nat → Int32 → Int32 → Int32 → Option (Int32)
  | 0 => fun _ _ _ => none
  | n + 1 => fX8_teamOf_B4 σ (fX8_teamOf_l4 σ n)
def fX8_teamOf (σ : St) (a1 : Int32) : Option (Int32) :=
  lt (-1 : Int32) (fun v9 => lt (0 : Int32) (fun v10 => fX8_teamOf_l4 σ FU a1 v9 v10))
def fX8_together (σ : St) (a1 : Int32) (a2 : Int32) : Option (Int32) :=
  bp (fX8_areGuests σ a1) (fun r1 => if r1 = 0 then some (-2 : Int32) else bp (fX8_isClaim σ (a2.toInt64)) (fun r2 => if r2 = 0 then some (-2 : Int32) else bp (fX8_canTogether σ a1 a2) (fun r3 => if r3 = 0 then some (0 : Int32) else some (1 : Int32))))
def fX8_whoOf_b33 (σ : St) (kr4 : Int32 → Int32 → Int32 → Option (Int32)) (x1 : Int32) (x3 : Int32) (y0 : Int32) (y1 : Int32) : Option (Int32) :=
  lt (y0 ||| y1) (fun v1 => lt (x3 + 1) (fun v2 => kr4 x1 v1 v2))
def fX8_whoOf_B4 (σ : St) (kr4 : Int32 → Int32 → Int32 → Option (Int32)) (x1 : Int32) (x2 : Int32) (x3 : Int32) : Option (Int32) :=
  gd (ir (5 : Int32) 70) (if (σ.1 63 (5 : Int32).toNatClampNeg) ≤ x3 then some x2 else bp (fX8_canProve σ x3 ((1 : Int32) <<< (x1 &&& 31))) (fun r3 => if r3 = 0 then fX8_whoOf_b33 σ kr4 x1 x3 x2 (0 : Int32) else fX8_whoOf_b33 σ kr4 x1 x3 x2 ((1 : Int32) <<< (x3 &&& 31))))
def fX8_whoOf_l4 (σ : St) : Nat → Int32 → Int32 → Int32 → Option (Int32)
  | 0 => fun _ _ _ => none
  | n + 1 => fX8_whoOf_B4 σ (fX8_whoOf_l4 σ n)
def fX8_whoOf (σ : St) (a1 : Int32) : Option (Int32) :=
  lt (0 : Int32) (fun v4 => lt (0 : Int32) (fun v5 => fX8_whoOf_l4 σ FU a1 v4 v5))
def fX7_duel (σ : St) : Option (Int32 × St) :=
  bp (fX6_isTold σ 3) (fun r1 => if r1 = 0 then some ((-2 : Int32), σ) else bs (fX7_lengthOfDuel σ) (fun r2 σ3 => some ((r2 &&& (1 : Int32)), σ3)))
def fX7_feast (σ : St) (a1 : Int32) (a2 : Int32) : Option (Int32 × St) :=
  bp (fX6_hasGuest σ 3 a2) (fun r1 => if r1 = 0 then some ((-2 : Int32), σ) else bp (fX7_isSeed a1) (fun r2 => if r2 = 0 then some ((-2 : Int32), σ) else bp (fX6_holedSteps σ 3 a1) (fun r3 => bs (fX7_menuWorth σ a2 r3) (fun r4 σ5 => some (r4, σ5)))))
def fX7_fewest (σ : St) (a1 : Int32) : Option (Int32 × St) :=
  bp (fX6_hasClaim σ 3 a1) (fun r1 => if r1 = 0 then some ((-2 : Int32), σ) else bs (fX7_leastTeam σ a1) (fun r2 σ3 => bp (fX7_sizeOrNone r2) (fun r4 => some (r4, σ3))))
def fX7_lasts (σ : St) : Option (Int32 × St) :=
  bp (fX6_isTold σ 3) (fun r1 => if r1 = 0 then some ((-2 : Int32), σ) else bs (fX7_lengthOfDuel σ) (fun r2 σ3 => some (r2, σ3)))
def fX7_lemma_B26 (kr26 : St → Int32 → Int32 → Int32 → Int32 → Option (Int32 × St)) (σ : St) (x1 : Int32) (x2 : Int32) (x3 : Int32) (x4 : Int32) : Option (Int32 × St) :=
  if (σ.1 3 4) ≤ x4 then some (x2, σ) else bs (fX7_worthWithLemma σ x1 x4) (fun r1 σ2 => lt r1 (fun v3 => if v3 ≤ x3 then lt (x4 + 1) (fun v4 => kr26 σ2 x1 x2 x3 v4) else lt x4 (fun v5 => lt v3 (fun v6 => lt (x4 + 1) (fun v7 => kr26 σ2 x1 v5 v6 v7)))))
def fX7_lemma_l26 : Nat → St → Int32 → Int32 → Int32 → Int32 → Option (Int32 × St)
  | 0 => fun _ _ _ _ _ => none
  | n + 1 => fX7_lemma_B26 (fX7_lemma_l26 n)
def fX7_lemma (σ : St) (a1 : Int32) : Option (Int32 × St) :=
  bp (fX6_hasGuest σ 3 a1) (fun r8 => if r8 = 0 then some ((-2 : Int32), σ) else lt (-1 : Int32) (fun v9 => bs (fX7_menuWorth σ a1 (0 : Int32)) (fun r10 σ11 => lt r10 (fun v12 => lt (0 : Int32) (fun v13 => fX7_lemma_l26 FU σ11 a1 v9 v12 v13)))))
def fX7_mean_B49 (kr49 : St → Int32 → Int32 → Int32 → Int32 → Int32 → Int32 → Option (Int32 × St)) (σ : St) (x1 : Int32) (x2 : Int32) (x3 : Int32) (x4 : Int32) (x5 : Int32) (x6 : Int32) : Option (Int32 × St) :=
  if x2 ≤ x6 then bp (fX7_partOfFraction x5 x2 x4) (fun r1 => some (r1, σ)) else bp (fX6_holedSteps σ 3 (x1 + x6)) (fun r2 => bs (fX7_menuWorth σ x3 r2) (fun r3 σ4 => lt (x5 + r3) (fun v5 => lt (x6 + 1) (fun v6 => kr49 σ4 x1 x2 x3 x4 v5 v6))))
def fX7_mean_l49 : Nat → St → Int32 → Int32 → Int32 → Int32 → Int32 → Int32 → Option (Int32 × St)
  | 0 => fun _ _ _ _ _ _ _ => none
  | n + 1 => fX7_mean_B49 (fX7_mean_l49 n)
def fX7_mean (σ : St) (a1 : Int32) (a2 : Int32) (a3 : Int32) (a4 : Int32) : Option (Int32 × St) :=
  bp (fX6_hasGuest σ 3 a3) (fun r7 => if r7 = 0 then some ((-2 : Int32), σ) else bp (fX7_isSeed a1) (fun r8 => if r8 = 0 then some ((-2 : Int32), σ) else bp (fX7_isBit a4) (fun r9 => if r9 = 0 then some ((-2 : Int32), σ) else if a2 < (1 : Int32) then some ((-2 : Int32), σ) else if a2 ≤ (20 : Int32) then lt (0 : Int32) (fun v10 => lt (0 : Int32) (fun v11 => fX7_mean_l49 FU σ a1 a2 a3 a4 v10 v11)) else some ((-2 : Int32), σ))))
def fX7_menu (σ : St) (a1 : Int32) : Option (Int32 × St) :=
  bp (fX6_hasGuest σ 3 a1) (fun r1 => if r1 = 0 then some ((-2 : Int32), σ) else bs (fX7_menuWorth σ a1 (0 : Int32)) (fun r2 σ3 => some (r2, σ3)))
def fX7_move (σ : St) : Option (Int32 × St) :=
  bp (fX6_isTold σ 3) (fun r1 => if r1 = 0 then some ((-2 : Int32), σ) else bs (fX7_lengthOfDuel σ) (fun r2 σ3 => if (r2 &&& (1 : Int32)) = (1 : Int32) then bp (fX6_allSteps σ3 3) (fun r4 => bp (fX6_firstGoing σ3 3 r4 (σ3.1 3 7)) (fun r5 => some (r5, σ3))) else some ((-1 : Int32), σ3)))
def fX7_team (σ : St) (a1 : Int32) : Option (Int32 × St) :=
  bp (fX6_hasClaim σ 3 a1) (fun r1 => if r1 = 0 then some ((-2 : Int32), σ) else bs (fX7_leastTeam σ a1) (fun r2 σ3 => some (r2, σ3)))
def fX2_readNamed (σ : St) (w : Nat) (a2 : Int32) (a3 : Int32) : Option (Int32 × St) :=
  bs (fX2_readWord σ w) (fun r1 σ2 => if r1 = 0 then some ((-1 : Int32), σ2) else bs (fX2_readNumber σ2 a2 a3) (fun r3 σ4 => some (r3, σ4)))
def fX2_readStep (σ : St) (t : Nat) : Option (Int32 × St) :=
  if (σ.1 t 5) < (12 : Int32) then bp (fX2_advance σ) (fun σ1 => bs (fX2_readNumber σ1 (0 : Int32) ((σ1.1 t 4) - (1 : Int32))) (fun r2 σ3 => lt r2 (fun v4 => if v4 = (-1 : Int32) then gd ((0 : Int32) = 0 ∨ (0 : Int32) = 1) (some ((0 : Int32), σ3)) else bs (fX2_readWord σ3 14) (fun r5 σ6 => if r5 = 0 then gd ((0 : Int32) = 0 ∨ (0 : Int32) = 1) (some ((0 : Int32), σ6)) else bs (fX2_readSet σ6 (σ6.1 t 4) (3 : Int32)) (fun r7 σ8 => lt r7 (fun v9 => if v9 = (-1 : Int32) then gd ((0 : Int32) = 0 ∨ (0 : Int32) = 1) (some ((0 : Int32), σ8)) else bp (fX6_addStep σ8 t v4 v9) (fun σ10 => gd ((1 : Int32) = 0 ∨ (1 : Int32) = 1) (some ((1 : Int32), σ10))))))))) else bs (fX2_fail σ (3 : Int32)) (fun r11 σ12 => gd (r11 = 0 ∨ r11 = 1) (some (r11, σ12)))
def fX8_ask (σ : St) : Option (Int32) :=
  bp (fX8_isTable σ) (fun r1 => if r1 = 0 then some (-2 : Int32) else bp (fX8_askOf σ) (fun r2 => some r2))
def fX8_brings (σ : St) (a1 : Int32) : Option (Int32 × St) :=
  bp (fX8_isGuest σ (a1.toInt64)) (fun r1 => if r1 = 0 then some ((-2 : Int32), σ) else bs (fX8_lemmaOf σ a1) (fun r2 σ3 => lt r2 (fun v4 => if v4 = (-1 : Int32) then some ((0 : Int32), σ3) else bp (fX8_saltNow σ3) (fun r5 => bp (fX8_ofGuest σ3 a1 (1 : Int32)) (fun r6 => bp (fX8_canDo σ3 a1) (fun r7 => bs (fX8_mostBy σ3 (r5 ||| ((1 : Int32) <<< (v4 &&& 31))) r6 r7) (fun r8 σ9 => bs (fX8_menuOf σ9 a1) (fun r10 σ11 => some ((r8 - r10), σ11)))))))))
def fX8_covered (σ : St) : Option (Int32) :=
  bp (fX8_isTable σ) (fun r1 => if r1 = 0 then some (-2 : Int32) else bp (fX8_following σ) (fun r2 => bp (fX8_provedNow σ) (fun r3 => some (r2 &&& (r3 ^^^ (-1 : Int32))))))
def fX8_fewest (σ : St) (a1 : Int32) : Option (Int32) :=
  bp (fX8_isClaim σ (a1.toInt64)) (fun r1 => if r1 = 0 then some (-2 : Int32) else bp (fX8_teamOf σ a1) (fun r2 => lt r2 (fun v3 => if v3 = (-1 : Int32) then some (-1 : Int32) else bp (fX8_bits v3) (fun r4 => some r4))))
def fX8_form_b147 (kr2 : St → Int32 → Option (Int32 × St)) (σ : St) (x1 : Int32) (x3 : Int32) : Option (Int32 × St) :=
  if x1 = 0 then some (x3, σ) else gd (ir (x1 - (1 : Int32)) 8) (gd ((1 : Int32) = 0 ∨ (1 : Int32) = 1) (lt (setI σ 70 (x1 - (1 : Int32)).toNatClampNeg (1 : Int32)) (fun σ1 => gd (ir (x1 - (1 : Int32)) 8) (lt (setI σ1 71 (x1 - (1 : Int32)).toNatClampNeg x3) (fun σ2 => kr2 σ2 x1)))))
def fX8_form_B87 (kr2 : St → Int32 → Option (Int32 × St)) (kr87 : St → Int32 → Int32 → Option (Int32 × St)) (σ : St) (x1 : Int32) (x3 : Int32) : Option (Int32 × St) :=
  if x1 ≤ 0 then fX8_form_b147 kr2 σ x1 x3 else gd (ir (x1 - (1 : Int32)) 8) (if (σ.1 70 (x1 - (1 : Int32)).toNatClampNeg) = 0 then fX8_form_b147 kr2 σ x1 x3 else lt (x1 + (-1)) (fun v3 => gd (ir v3 8) (if (σ.1 69 v3.toNatClampNeg) = (3 : Int32) then bp (fX8_freshAll σ) (fun r6 => lt ((x3 ^^^ (-1 : Int32)) &&& r6) (fun v7 => kr87 σ v3 v7)) else gd (ir v3 8) (gd (ir v3 8) (bp (fX8_joined σ (σ.1 69 v3.toNatClampNeg) (σ.1 71 v3.toNatClampNeg) x3) (fun r4 => lt r4 (fun v5 => kr87 σ v3 v5)))))))
def fX8_form_l87 (kr2 : St → Int32 → Option (Int32 × St)) : Nat → St → Int32 → Int32 → Option (Int32 × St)
  | 0 => fun _ _ _ => none
  | n + 1 => fX8_form_B87 kr2 (fX8_form_l87 kr2 n)
def fX8_form_b35 (kr2 : St → Int32 → Option (Int32 × St)) (σ : St) (x1 : Int32) (x2 : Int32) : Option (Int32 × St) :=
  bp (fX8_good σ) (fun r8 => if r8 = 0 then some ((0 : Int32), σ) else bp (fX8_advance σ) (fun σ9 => if x2 = (4 : Int32) then lt (σ9.1 62 18) (fun v10 => fX8_form_l87 kr2 FU σ9 x1 v10) else gd (ir x1 8) (lt (setI σ9 69 x1.toNatClampNeg x2) (fun σ11 => if x2 = (3 : Int32) then gd (ir x1 8) (gd ((1 : Int32) = 0 ∨ (1 : Int32) = 1) (lt (setI σ11 70 x1.toNatClampNeg (1 : Int32)) (fun σ14 => lt (x1 + 1) (fun v15 => kr2 σ14 v15)))) else gd (ir x1 8) (gd ((0 : Int32) = 0 ∨ (0 : Int32) = 1) (lt (setI σ11 70 x1.toNatClampNeg (0 : Int32)) (fun σ12 => lt (x1 + 1) (fun v13 => kr2 σ12 v13))))))))
def fX8_form_b24 (kr2 : St → Int32 → Option (Int32 × St)) (σ : St) (x1 : Int32) (x2 : Int32) : Option (Int32 × St) :=
  if x1 = (8 : Int32) then bp (fX8_errs σ (3 : Int32)) (fun σ16 => fX8_form_b35 kr2 σ16 x1 x2) else fX8_form_b35 kr2 σ x1 x2
def fX8_form_B2 (kr2 : St → Int32 → Option (Int32 × St)) (σ : St) (x1 : Int32) : Option (Int32 × St) :=
  bp (fX8_good σ) (fun r17 => if r17 = 0 then some ((0 : Int32), σ) else bs (fX8_formWord σ) (fun r18 σ19 => lt r18 (fun v20 => if v20 = (5 : Int32) then bp (fX8_errs σ19 (1 : Int32)) (fun σ21 => fX8_form_b24 kr2 σ21 x1 v20) else fX8_form_b24 kr2 σ19 x1 v20)))
def fX8_form_l2 : Nat → St → Int32 → Option (Int32 × St)
  | 0 => fun _ _ => none
  | n + 1 => fX8_form_B2 (fX8_form_l2 n)
def fX8_form (σ : St) : Option (Int32 × St) :=
  lt (0 : Int32) (fun v22 => fX8_form_l2 FU σ v22)
def fX8_host_B13 (σ : St) (kr13 : Int32 → Int32 → Option (Int32)) (x1 : Int32) (x2 : Int32) : Option (Int32) :=
  gd (ir (3 : Int32) 70) (if (σ.1 63 (3 : Int32).toNatClampNeg) ≤ x2 then some (-1 : Int32) else bp (fX8_whoOf σ x2) (fun r1 => if r1 = x1 then some x2 else lt (x2 + 1) (fun v2 => kr13 x1 v2)))
def fX8_host_l13 (σ : St) : Nat → Int32 → Int32 → Option (Int32)
  | 0 => fun _ _ => none
  | n + 1 => fX8_host_B13 σ (fX8_host_l13 σ n)
def fX8_host (σ : St) (a1 : Int32) : Option (Int32) :=
  bp (fX8_areGuests σ a1) (fun r3 => if r3 = 0 then some (-2 : Int32) else lt (0 : Int32) (fun v4 => fX8_host_l13 σ FU a1 v4))
def fX8_leaves (σ : St) : Option (Int32) :=
  bp (fX8_isTable σ) (fun r1 => if r1 = 0 then some (-2 : Int32) else bp (fX8_askOf σ) (fun r2 => lt r2 (fun v3 => if v3 = (-1 : Int32) then bp (fX8_saltedNow σ) (fun r5 => bp (fX8_bits r5) (fun r6 => some r6)) else bp (fX8_worstOf σ v3) (fun r4 => some r4))))
def fX8_lemma (σ : St) (a1 : Int32) : Option (Int32 × St) :=
  bp (fX8_isGuest σ (a1.toInt64)) (fun r1 => if r1 = 0 then some ((-2 : Int32), σ) else bs (fX8_lemmaOf σ a1) (fun r2 σ3 => some (r2, σ3)))
def fX8_needs (σ : St) (w : Nat) : Option (St) :=
  bs (fX8_takes σ w) (fun r1 σ2 => if r1 = 0 then bp (fX8_errs σ2 (1 : Int32)) (fun σ3 => some σ3) else some σ2)
def fX8_team (σ : St) (a1 : Int32) : Option (Int32) :=
  bp (fX8_isClaim σ (a1.toInt64)) (fun r1 => if r1 = 0 then some (-2 : Int32) else bp (fX8_teamOf σ a1) (fun r2 => some r2))
def fX8_who (σ : St) (a1 : Int32) : Option (Int32) :=
  bp (fX8_isClaim σ (a1.toInt64)) (fun r1 => if r1 = 0 then some (-2 : Int32) else bp (fX8_whoOf σ a1) (fun r2 => some r2))
def fX8_wrong (σ : St) : Option (Int32) :=
  bp (fX8_isTable σ) (fun r1 => if r1 = 0 then some (-2 : Int32) else bp (fX8_provedNow σ) (fun r2 => bp (fX8_following σ) (fun r3 => some (r2 &&& (r3 ^^^ (-1 : Int32))))))
def fX7_brings (σ : St) (a1 : Int32) : Option (Int32 × St) :=
  bp (fX6_hasGuest σ 3 a1) (fun r1 => if r1 = 0 then some ((-2 : Int32), σ) else bs (fX7_lemma σ a1) (fun r2 σ3 => lt r2 (fun v4 => if v4 = (-1 : Int32) then some ((0 : Int32), σ3) else bs (fX7_worthWithLemma σ3 a1 v4) (fun r5 σ6 => bs (fX7_menuWorth σ6 a1 (0 : Int32)) (fun r7 σ8 => some ((r5 - r7), σ8))))))
def fX2_readGuest (σ : St) (t : Nat) : Option (Int32 × St) :=
  if (σ.1 t 6) < (5 : Int32) then bp (fX2_advance σ) (fun σ1 => bs (fX2_readNamed σ1 16 (1 : Int32) (9 : Int32)) (fun r2 σ3 => lt r2 (fun v4 => if v4 = (-1 : Int32) then gd ((0 : Int32) = 0 ∨ (0 : Int32) = 1) (some ((0 : Int32), σ3)) else bs (fX2_readWord σ3 17) (fun r5 σ6 => if r5 = 0 then gd ((0 : Int32) = 0 ∨ (0 : Int32) = 1) (some ((0 : Int32), σ6)) else bs (fX2_readSet σ6 (σ6.1 t 5) (12 : Int32)) (fun r7 σ8 => lt r7 (fun v9 => if v9 = (-1 : Int32) then gd ((0 : Int32) = 0 ∨ (0 : Int32) = 1) (some ((0 : Int32), σ8)) else gd (ir (σ8.1 t 6) 5) (lt (setI σ8 (t + 5) (σ8.1 t 6).toNatClampNeg v4) (fun σ10 => gd (ir (σ10.1 t 6) 5) (lt (setI σ10 (t + 6) (σ10.1 t 6).toNatClampNeg v9) (fun σ11 => lt (setI σ11 t 6 ((σ11.1 t 6) + (1 : Int32))) (fun σ12 => gd ((1 : Int32) = 0 ∨ (1 : Int32) = 1) (some ((1 : Int32), σ12))))))))))))) else bs (fX2_fail σ (3 : Int32)) (fun r13 σ14 => gd (r13 = 0 ∨ r13 = 1) (some (r13, σ14)))
def fX2_readHead (σ : St) (t : Nat) : Option (Int32 × St) :=
  bs (fX2_readWord σ 0) (fun r1 σ2 => if r1 = 0 then gd ((0 : Int32) = 0 ∨ (0 : Int32) = 1) (some ((0 : Int32), σ2)) else bs (fX2_readNamed σ2 1 (2 : Int32) (4 : Int32)) (fun r3 σ4 => lt (setI σ4 t 1 r3) (fun σ5 => if (σ5.1 t 1) = (-1 : Int32) then gd ((0 : Int32) = 0 ∨ (0 : Int32) = 1) (some ((0 : Int32), σ5)) else bs (fX2_readNamed σ5 2 (1 : Int32) (99 : Int32)) (fun r6 σ7 => lt (setI σ7 t 2 r6) (fun σ8 => if (σ8.1 t 2) = (-1 : Int32) then gd ((0 : Int32) = 0 ∨ (0 : Int32) = 1) (some ((0 : Int32), σ8)) else bs (fX2_readNamed σ8 3 (0 : Int32) (100 : Int32)) (fun r9 σ10 => lt (setI σ10 t 3 r9) (fun σ11 => if (σ11.1 t 3) = (-1 : Int32) then gd ((0 : Int32) = 0 ∨ (0 : Int32) = 1) (some ((0 : Int32), σ11)) else gd ((1 : Int32) = 0 ∨ (1 : Int32) = 1) (some ((1 : Int32), σ11)))))))))
def fX8_readStep_b52 (kr28 : St → Int32 → Int32 → Int32 → Int32 → Option (St)) (σ : St) (x1 : Int32) (x2 : Int32) (x3 : Int32) (x4 : Int32) : Option (St) :=
  bs (fX8_freshClaim σ) (fun r1 σ2 => lt r1 (fun v3 => bp (fX8_good σ2) (fun r4 => if r4 = 0 then some σ2 else lt (x3 ||| ((1 : Int32) <<< (v3 &&& 31))) (fun v5 => lt (x4 + 1) (fun v6 => if (σ2.1 62 10) = (3 : Int32) then gd (ir (x1 + (0 : Int32)) 70) (lt (setI σ2 68 (x1 + (0 : Int32)).toNatClampNeg x2) (fun σ7 => gd (ir (x1 + (1 : Int32)) 70) (lt (setI σ7 68 (x1 + (1 : Int32)).toNatClampNeg v5) (fun σ8 => gd (ir (4 : Int32) 70) (gd (ir (4 : Int32) 70) (lt (setI σ8 68 (4 : Int32).toNatClampNeg ((σ8.1 68 (4 : Int32).toNatClampNeg) + (1 : Int32))) (fun σ9 => some σ9))))))) else kr28 σ2 x1 x2 v5 v6)))))
def fX8_readStep_B28 (kr28 : St → Int32 → Int32 → Int32 → Int32 → Option (St)) (σ : St) (x1 : Int32) (x2 : Int32) (x3 : Int32) (x4 : Int32) : Option (St) :=
  if x4 = (3 : Int32) then gd (ir (3 : Int32) 70) (bp (fX8_isNextIn σ (σ.1 68 (3 : Int32).toNatClampNeg)) (fun r10 => if r10 = 0 then fX8_readStep_b52 kr28 σ x1 x2 x3 x4 else bp (fX8_errs σ (3 : Int32)) (fun σ11 => fX8_readStep_b52 kr28 σ11 x1 x2 x3 x4))) else fX8_readStep_b52 kr28 σ x1 x2 x3 x4
def fX8_readStep_l28 : Nat → St → Int32 → Int32 → Int32 → Int32 → Option (St)
  | 0 => fun _ _ _ _ _ => none
  | n + 1 => fX8_readStep_B28 (fX8_readStep_l28 n)
def fX8_readStep (σ : St) : Option (St) :=
  gd (ir (4 : Int32) 70) (lt ((43 : Int32) + ((2 : Int32) * (σ.1 68 (4 : Int32).toNatClampNeg))) (fun v12 => bs (fX8_freshClaim σ) (fun r13 σ14 => lt r13 (fun v15 => bp (fX8_needs σ14 14) (fun σ16 => lt (0 : Int32) (fun v17 => lt (0 : Int32) (fun v18 => fX8_readStep_l28 FU σ16 v12 v15 v17 v18)))))))
def fX8_told (σ : St) (w : Nat) (a2 : Int32) (a3 : Int32) : Option (Int32 × St) :=
  bp (fX8_needs σ w) (fun σ1 => bs (fX8_number σ1 a2 a3) (fun r2 σ3 => some (r2, σ3)))
def fX8_readClaim (σ : St) : Option (St) :=
  gd (ir (3 : Int32) 70) (lt ((7 : Int32) + ((3 : Int32) * (σ.1 68 (3 : Int32).toNatClampNeg))) (fun v1 => bs (fX8_told σ 5 (0 : Int32) (99 : Int32)) (fun r2 σ3 => lt r2 (fun v4 => bs (fX8_form σ3) (fun r5 σ6 => lt r5 (fun v7 => bp (fX8_good σ6) (fun r8 => if r8 = 0 then some σ6 else gd (ir (v1 + (0 : Int32)) 70) (lt (setI σ6 68 (v1 + (0 : Int32)).toNatClampNeg v4) (fun σ9 => gd (ir (v1 + (1 : Int32)) 70) (lt (setI σ9 68 (v1 + (1 : Int32)).toNatClampNeg (0 : Int32)) (fun σ10 => gd (ir (v1 + (2 : Int32)) 70) (lt (setI σ10 68 (v1 + (2 : Int32)).toNatClampNeg v7) (fun σ11 => gd (ir (3 : Int32) 70) (gd (ir (3 : Int32) 70) (lt (setI σ11 68 (3 : Int32).toNatClampNeg ((σ11.1 68 (3 : Int32).toNatClampNeg) + (1 : Int32))) (fun σ12 => some σ12))))))))))))))))
def fX8_readGuest_B30 (kr30 : St → Int32 → Int32 → Int32 → Option (St)) (σ : St) (x1 : Int32) (x2 : Int32) (x3 : Int32) : Option (St) :=
  gd (ir (4 : Int32) 70) (bs (fX8_number σ (0 : Int32) ((σ.1 68 (4 : Int32).toNatClampNeg) - (1 : Int32))) (fun r1 σ2 => lt r1 (fun v3 => bp (fX8_good σ2) (fun r4 => if r4 = 0 then some σ2 else lt (x3 ||| ((1 : Int32) <<< (v3 &&& 31))) (fun v5 => if (σ2.1 62 10) = (3 : Int32) then gd (ir (x1 + (0 : Int32)) 70) (lt (setI σ2 68 (x1 + (0 : Int32)).toNatClampNeg x2) (fun σ6 => gd (ir (x1 + (1 : Int32)) 70) (lt (setI σ6 68 (x1 + (1 : Int32)).toNatClampNeg v5) (fun σ7 => gd (ir (5 : Int32) 70) (gd (ir (5 : Int32) 70) (lt (setI σ7 68 (5 : Int32).toNatClampNeg ((σ7.1 68 (5 : Int32).toNatClampNeg) + (1 : Int32))) (fun σ8 => some σ8))))))) else kr30 σ2 x1 x2 v5)))))
def fX8_readGuest_l30 : Nat → St → Int32 → Int32 → Int32 → Option (St)
  | 0 => fun _ _ _ _ => none
  | n + 1 => fX8_readGuest_B30 (fX8_readGuest_l30 n)
def fX8_readGuest (σ : St) : Option (St) :=
  gd (ir (5 : Int32) 70) (lt ((67 : Int32) + ((2 : Int32) * (σ.1 68 (5 : Int32).toNatClampNeg))) (fun v9 => bs (fX8_told σ 16 (1 : Int32) (9 : Int32)) (fun r10 σ11 => lt r10 (fun v12 => bp (fX8_needs σ11 17) (fun σ13 => lt (0 : Int32) (fun v14 => fX8_readGuest_l30 FU σ13 v9 v12 v14))))))
def fX8_readNext_b115 (σ : St) : Option (St) :=
  bp (fX8_good σ) (fun r1 => if r1 = 0 then some σ else bs (fX8_takes σ 4) (fun r2 σ3 => if r2 = 0 then bs (fX8_takes σ3 12) (fun r4 σ5 => if r4 = 0 then bs (fX8_takes σ5 13) (fun r6 σ7 => if r6 = 0 then bp (fX8_advance σ7) (fun σ8 => bp (fX8_readGuest σ8) (fun σ9 => some σ9)) else bp (fX8_readStep σ7) (fun σ10 => some σ10)) else bp (fX8_readSalt σ5) (fun σ11 => some σ11)) else bp (fX8_readClaim σ3) (fun σ12 => some σ12)))
def fX8_readNext_b110 (σ : St) : Option (St) :=
  bp (fX8_errs σ (3 : Int32)) (fun σ13 => fX8_readNext_b115 σ13)
def fX8_readNext_b91 (σ : St) : Option (St) :=
  bp (fX8_is σ 15) (fun r14 => if r14 = 0 then fX8_readNext_b115 σ else gd (ir (5 : Int32) 70) (if (σ.1 68 (5 : Int32).toNatClampNeg) = (5 : Int32) then fX8_readNext_b110 σ else fX8_readNext_b115 σ))
def fX8_readNext_b71 (σ : St) : Option (St) :=
  bp (fX8_is σ 13) (fun r15 => if r15 = 0 then fX8_readNext_b91 σ else gd (ir (4 : Int32) 70) (if (σ.1 68 (4 : Int32).toNatClampNeg) = (12 : Int32) then fX8_readNext_b110 σ else fX8_readNext_b91 σ))
def fX8_readNext_b51 (σ : St) : Option (St) :=
  bp (fX8_is σ 4) (fun r16 => if r16 = 0 then fX8_readNext_b71 σ else gd (ir (3 : Int32) 70) (if (σ.1 68 (3 : Int32).toNatClampNeg) = (12 : Int32) then fX8_readNext_b110 σ else fX8_readNext_b71 σ))
def fX8_readNext_b41 (σ : St) (y0 : Int32) : Option (St) :=
  lt y0 (fun v17 => if v17 = 0 then bp (fX8_errs σ (1 : Int32)) (fun σ18 => fX8_readNext_b51 σ18) else fX8_readNext_b51 σ)
def fX8_readNext_b36 (σ : St) : Option (St) :=
  fX8_readNext_b41 σ (1 : Int32)
def fX8_readNext (σ : St) : Option (St) :=
  bp (fX8_is σ 4) (fun r19 => if r19 = 0 then bp (fX8_is σ 12) (fun r20 => if r20 = 0 then bp (fX8_is σ 13) (fun r21 => if r21 = 0 then bp (fX8_is σ 15) (fun r22 => if r22 = 0 then fX8_readNext_b41 σ (0 : Int32) else fX8_readNext_b36 σ) else fX8_readNext_b36 σ) else fX8_readNext_b36 σ) else fX8_readNext_b36 σ)
def fX8_readLine_b98 (σ : St) : Option (St) :=
  gd (ir (6 : Int32) 70) (gd (ir (6 : Int32) 70) (lt (setI σ 68 (6 : Int32).toNatClampNeg ((σ.1 68 (6 : Int32).toNatClampNeg) + (1 : Int32))) (fun σ1 => some σ1)))
def fX8_readLine_b87 (σ : St) : Option (St) :=
  bp (fX8_good σ) (fun r2 => if r2 = 0 then fX8_readLine_b98 σ else bp (fX8_advance σ) (fun σ3 => fX8_readLine_b98 σ3))
def fX8_readLine_b67 (σ : St) : Option (St) :=
  bp (fX8_good σ) (fun r4 => if r4 = 0 then fX8_readLine_b87 σ else if (σ.1 62 10) = (3 : Int32) then fX8_readLine_b87 σ else bp (fX8_errs σ (1 : Int32)) (fun σ5 => fX8_readLine_b87 σ5))
def fX8_readLine (σ : St) : Option (St) :=
  gd (ir (6 : Int32) 70) (if (σ.1 68 (6 : Int32).toNatClampNeg) = 0 then bp (fX8_needs σ 0) (fun σ7 => bs (fX8_told σ7 1 (2 : Int32) (4 : Int32)) (fun r8 σ9 => gd (ir (0 : Int32) 70) (lt (setI σ9 68 (0 : Int32).toNatClampNeg r8) (fun σ10 => bs (fX8_told σ10 2 (1 : Int32) (99 : Int32)) (fun r11 σ12 => gd (ir (1 : Int32) 70) (lt (setI σ12 68 (1 : Int32).toNatClampNeg r11) (fun σ13 => bs (fX8_told σ13 3 (0 : Int32) (100 : Int32)) (fun r14 σ15 => gd (ir (2 : Int32) 70) (lt (setI σ15 68 (2 : Int32).toNatClampNeg r14) (fun σ16 => fX8_readLine_b67 σ16)))))))))) else bp (fX8_readNext σ) (fun σ6 => fX8_readLine_b67 σ6))
def fX8_table_B86 (kr86 : St → Int32 → Option (Int32 × St)) (σ : St) (x1 : Int32) : Option (Int32 × St) :=
  if (77 : Int32) ≤ x1 then gd (ir (6 : Int32) 70) (some ((σ.1 63 (6 : Int32).toNatClampNeg), σ)) else gd (ir x1 70) (gd (ir x1 70) (lt (setI σ 63 x1.toNatClampNeg (σ.1 68 x1.toNatClampNeg)) (fun σ1 => lt (x1 + 1) (fun v2 => kr86 σ1 v2))))
def fX8_table_l86 : Nat → St → Int32 → Option (Int32 × St)
  | 0 => fun _ _ => none
  | n + 1 => fX8_table_B86 (fX8_table_l86 n)
def fX8_table_b74 (σ : St) : Option (Int32 × St) :=
  bp (fX8_good σ) (fun r3 => if r3 = 0 then some ((-4 : Int32), σ) else lt (0 : Int32) (fun v4 => fX8_table_l86 FU σ v4))
def fX8_table_B53 (kr53 : St → Option (Int32 × St)) (σ : St) : Option (Int32 × St) :=
  bp (fX8_good σ) (fun r5 => if r5 = 0 then fX8_table_b74 σ else if (σ.1 62 10) = 0 then fX8_table_b74 σ else bp (fX8_readLine σ) (fun σ6 => kr53 σ6))
def fX8_table_l53 : Nat → St → Option (Int32 × St)
  | 0 => fun _ => none
  | n + 1 => fX8_table_B53 (fX8_table_l53 n)
def fX8_table_B30 (kr30 : St → Int32 → Option (Int32 × St)) (σ : St) (x1 : Int32) : Option (Int32 × St) :=
  if (77 : Int32) ≤ x1 then bp (fX8_advance σ) (fun σ7 => fX8_table_l53 FU σ7) else gd (ir x1 70) (lt (setI σ 68 x1.toNatClampNeg (0 : Int32)) (fun σ8 => lt (x1 + 1) (fun v9 => kr30 σ8 v9)))
def fX8_table_l30 : Nat → St → Int32 → Option (Int32 × St)
  | 0 => fun _ _ => none
  | n + 1 => fX8_table_B30 (fX8_table_l30 n)
def fX8_table (σ : St) : Option (Int32 × St) :=
  lt (setI σ 62 7 (σ.1 62 5)) (fun σ10 => lt (setI σ10 62 5 (0 : Int32)) (fun σ11 => lt (setI σ11 62 8 (0 : Int32)) (fun σ12 => lt (setI σ12 62 12 (0 : Int32)) (fun σ13 => lt (setI σ13 62 13 (-1 : Int32)) (fun σ14 => lt (0 : Int32) (fun v15 => fX8_table_l30 FU σ14 v15))))))
def fX2_readForm_b30 (rp : St → Nat → Int32 → Int32 → Option (Int32 × St)) (t : Nat) (σ : St) (x2 : Int32) (x3 : Int32) (x4 : Int32) : Option (Int32 × St) :=
  if x2 < (8 : Int32) then bp (fX2_advance σ) (fun σ1 => if x4 = 0 then some (x3, σ1) else bs (rp σ1 t x4 (x2 + (1 : Int32))) (fun r2 σ3 => some (r2, σ3))) else bs (fX2_fail σ (3 : Int32)) (fun r4 σ5 => some ((-1 : Int32), σ5))
def fX2_readForm_B (rp : St → Nat → Int32 → Int32 → Option (Int32 × St)) (σ : St) (t : Nat) (a2 : Int32) : Option (Int32 × St) :=
  bp (fX2_worldsOfLeaf σ t) (fun r6 => lt r6 (fun v7 => bp (fX2_operatorHere σ) (fun r8 => lt r8 (fun v9 => if v7 = (-1 : Int32) then if v9 = 0 then bs (fX2_fail σ (1 : Int32)) (fun r10 σ11 => some ((-1 : Int32), σ11)) else fX2_readForm_b30 rp t σ a2 v7 v9 else fX2_readForm_b30 rp t σ a2 v7 v9))))
def fX2_readParts_b19 (rf : St → Nat → Int32 → Option (Int32 × St)) (t : Nat) (σ : St) (x4 : Int32) : Option (Int32 × St) :=
  if x4 = (-1 : Int32) then some ((-1 : Int32), σ) else bp (fX6_allWorlds σ t) (fun r1 => some ((r1 &&& (x4 ^^^ (-1 : Int32))), σ))
def fX2_readParts_B (rf : St → Nat → Int32 → Option (Int32 × St)) (σ : St) (t : Nat) (a2 : Int32) (a3 : Int32) : Option (Int32 × St) :=
  bs (rf σ t a3) (fun r2 σ3 => lt r2 (fun v4 => if v4 = (-1 : Int32) then fX2_readParts_b19 rf t σ3 v4 else if a2 = (4 : Int32) then fX2_readParts_b19 rf t σ3 v4 else bs (rf σ3 t a3) (fun r5 σ6 => lt r5 (fun v7 => if v7 = (-1 : Int32) then some ((-1 : Int32), σ6) else if a2 = 1 then some ((v4 &&& v7), σ6) else if a2 = 2 then some ((v4 ||| v7), σ6) else bp (fX6_allWorlds σ6 t) (fun r8 => some ((r8 &&& ((v4 ^^^ (-1 : Int32)) ||| v7)), σ6))))))
def fX2_readForm : Nat → St → Nat → Int32 → Option (Int32 × St)
  | 0 => fun _ _ _ => none
  | d + 1 => fX2_readForm_B (fX2_readParts_B (fX2_readForm d))
def fX2_readClaim (σ : St) (t : Nat) : Option (Int32 × St) :=
  if (σ.1 t 4) < (12 : Int32) then bp (fX2_advance σ) (fun σ1 => bs (fX2_readNamed σ1 5 (0 : Int32) (99 : Int32)) (fun r2 σ3 => lt r2 (fun v4 => if v4 = (-1 : Int32) then gd ((0 : Int32) = 0 ∨ (0 : Int32) = 1) (some ((0 : Int32), σ3)) else bs (fX2_readForm FD σ3 t (0 : Int32)) (fun r5 σ6 => lt r5 (fun v7 => if v7 = (-1 : Int32) then gd ((0 : Int32) = 0 ∨ (0 : Int32) = 1) (some ((0 : Int32), σ6)) else gd (ir (σ6.1 t 4) 12) (lt (setI σ6 (t + 1) (σ6.1 t 4).toNatClampNeg v4) (fun σ8 => gd (ir (σ8.1 t 4) 12) (lt (setI σ8 (t + 2) (σ8.1 t 4).toNatClampNeg v7) (fun σ9 => lt (setI σ9 t 4 ((σ9.1 t 4) + (1 : Int32))) (fun σ10 => gd ((1 : Int32) = 0 ∨ (1 : Int32) = 1) (some ((1 : Int32), σ10)))))))))))) else bs (fX2_fail σ (3 : Int32)) (fun r11 σ12 => gd (r11 = 0 ∨ r11 = 1) (some (r11, σ12)))
def fX2_readLine (σ : St) (t : Nat) : Option (Int32 × St) :=
  if (σ.1 t 0) = 0 then bs (fX2_readHead σ t) (fun r15 σ16 => gd (r15 = 0 ∨ r15 = 1) (some (r15, σ16))) else bp (fX2_isWord σ 4) (fun r1 => if r1 = 0 then bp (fX2_isWord σ 12) (fun r2 => if r2 = 0 then bp (fX2_isWord σ 13) (fun r3 => if r3 = 0 then bp (fX2_isWord σ 15) (fun r4 => if r4 = 0 then bs (fX2_fail σ (1 : Int32)) (fun r5 σ6 => gd (r5 = 0 ∨ r5 = 1) (some (r5, σ6))) else bs (fX2_readGuest σ t) (fun r7 σ8 => gd (r7 = 0 ∨ r7 = 1) (some (r7, σ8)))) else bs (fX2_readStep σ t) (fun r9 σ10 => gd (r9 = 0 ∨ r9 = 1) (some (r9, σ10)))) else bs (fX2_readSalt σ t) (fun r11 σ12 => gd (r11 = 0 ∨ r11 = 1) (some (r11, σ12)))) else bs (fX2_readClaim σ t) (fun r13 σ14 => gd (r13 = 0 ∨ r13 = 1) (some (r13, σ14))))
def fX2_readTable_B25 (t : Nat) (kr25 : St → Int32 → Option (Int32 × St)) (σ : St) (x2 : Int32) : Option (Int32 × St) :=
  if (1600 : Int32) ≤ x2 then gd ((1 : Int32) = 0 ∨ (1 : Int32) = 1) (some ((1 : Int32), σ)) else if (σ.1 1 4) = 0 then gd ((1 : Int32) = 0 ∨ (1 : Int32) = 1) (some ((1 : Int32), σ)) else bs (fX2_readLine σ t) (fun r1 σ2 => if r1 = 0 then gd ((0 : Int32) = 0 ∨ (0 : Int32) = 1) (some ((0 : Int32), σ2)) else bs (fX2_readSign σ2) (fun r3 σ4 => if r3 = 0 then gd ((0 : Int32) = 0 ∨ (0 : Int32) = 1) (some ((0 : Int32), σ4)) else lt (setI σ4 t 0 ((σ4.1 t 0) + (1 : Int32))) (fun σ5 => lt (x2 + 1) (fun v6 => kr25 σ5 v6))))
def fX2_readTable_l25 (t : Nat) : Nat → St → Int32 → Option (Int32 × St)
  | 0 => fun _ _ => none
  | n + 1 => fX2_readTable_B25 t (fX2_readTable_l25 t n)
def fX2_readTable (σ : St) (t : Nat) : Option (Int32 × St) :=
  bp (fX6_clear σ t) (fun σ7 => lt (setI σ7 1 2 (0 : Int32)) (fun σ8 => lt (setI σ8 1 3 (-1 : Int32)) (fun σ9 => lt (setI σ9 1 6 (0 : Int32)) (fun σ10 => bp (fX2_advance σ10) (fun σ11 => lt (0 : Int32) (fun v12 => fX2_readTable_l25 t FU σ11 v12))))))
def fX7_table (σ : St) : Option (Int32 × St) :=
  bs (fX2_readTable σ 10) (fun r1 σ2 => lt r1 (fun v3 => lt (setI σ2 1 1 (0 : Int32)) (fun σ4 => if v3 = 0 then some ((-4 : Int32), σ4) else bp (fX6_copyFrom σ4 3 10) (fun σ5 => gd ((1 : Int32) = 0 ∨ (1 : Int32) = 1) (lt (setI σ5 0 7 (1 : Int32)) (fun σ6 => some ((σ6.1 3 0), σ6)))))))
end
section
theorem met_zz {G : GT} {k : Nat} {y : MethodName} {b : ByteArray} {nL : Nat} {as : List Value} {σ : St} {r : Int32} {σ1 : St} (hy : plainName y.cls = true) (hsl : (lg_sl as).length ≤ nL) (body : ∀ X : CT, Cx G X y.cls b nL k → (∀ (lv : List (Nat × Value)) (pc : Nat), decode b pc = .ok (.ireturn, 1) → (r = 0 ∨ r = 1) → WW G X nL σ1 lv pc [.int r]) → WW G X nL σ (lv_args 0 as) 0 []) : MCt G k y b nL (some .boolean) as σ (some (.int r)) σ1 :=
  met_core (EndP := fun X => ∀ (lv : List (Nat × Value)) (pc : Nat), decode b pc = .ok (.ireturn, 1) → (r = 0 ∨ r = 1) → WW G X nL σ1 lv pc [.int r]) hy hsl (fun p e R s m args below meth c A hx hb hr hlocks lv pc hdg hz H locs ls hl hP hS => W.zret hx hb hr (by rcases hz with rfl | rfl <;> rfl) (fun t ht hW => ⟨rfl, by rw [ht]; exact hP, hS.F ht⟩) hS.2.2 hdg) body
end
section
theorem dX7_bit_0 : decode cX7_bit 0 = .ok (.iload_n 0, 1) := by decide +kernel
theorem dX7_bit_1 : decode cX7_bit 1 = .ok (.ifCond .eq 7, 3) := by decide +kernel
theorem dX7_bit_4 : decode cX7_bit 4 = .ok (.iconst 1, 1) := by decide +kernel
theorem dX7_bit_5 : decode cX7_bit 5 = .ok (.goto 4, 3) := by decide +kernel
theorem dX7_bit_8 : decode cX7_bit 8 = .ok (.iconst 0, 1) := by decide +kernel
theorem dX7_bit_9 : decode cX7_bit 9 = .ok (.ireturn, 1) := by decide +kernel
set_option maxRecDepth 4000 in
theorem kX7_bit (G : GT) {σ : St} {a0 : Int32} : ∀ (r : Int32) , fX7_bit a0 = some r → MCt G 1 yX7_bit cX7_bit 1 (some .int) [.int a0] σ (some (.int r)) σ := by
  intro r hF
  refine met_i (by decide) (Nat.le_of_ble_eq_true rfl) (fun X cx hE => ?_)
  have cx : Cx G X RX7 cX7_bit 1 1 := cx
  unfold fX7_bit at hF
  show WW G X 1 σ [(0, .int a0)] 0 []
  refine ww_iload_n cx dX7_bit_0 rfl 0 rfl ?_
  refine ww_if_eq cx dX7_bit_1 (tgt := 8) rfl hF (fun hF => ?_) (fun hF => ?_)
  · refine ww_iconst cx dX7_bit_8 ic_0 ?_
    exact ww_rip hE dX7_bit_9 hF
  · refine ww_iconst cx dX7_bit_4 ic_1 ?_
    refine ww_goto cx dX7_bit_5 (tgt := 9) rfl ?_
    exact ww_rip hE dX7_bit_9 hF
theorem dX7_end_0 : decode cX7_end 0 = .ok (.iload_n 1, 1) := by decide +kernel
theorem dX7_end_1 : decode cX7_end 1 = .ok (.ifCond .lt 14, 3) := by decide +kernel
theorem dX7_end_4 : decode cX7_end 4 = .ok (.iload_n 1, 1) := by decide +kernel
theorem dX7_end_5 : decode cX7_end 5 = .ok (.aload_n 0, 1) := by decide +kernel
theorem dX7_end_6 : decode cX7_end 6 = .ok (.getfield 10, 3) := by decide +kernel
theorem dX7_end_9 : decode cX7_end 9 = .ok (.getfield 76, 3) := by decide +kernel
theorem dX7_end_12 : decode cX7_end 12 = .ok (.if_icmp .le 5, 3) := by decide +kernel
theorem dX7_end_15 : decode cX7_end 15 = .ok (.iconst (-1), 1) := by decide +kernel
theorem dX7_end_16 : decode cX7_end 16 = .ok (.ireturn, 1) := by decide +kernel
theorem dX7_end_17 : decode cX7_end 17 = .ok (.aload_n 0, 1) := by decide +kernel
theorem dX7_end_18 : decode cX7_end 18 = .ok (.getfield 10, 3) := by decide +kernel
theorem dX7_end_21 : decode cX7_end 21 = .ok (.iload_n 1, 1) := by decide +kernel
theorem dX7_end_22 : decode cX7_end 22 = .ok (.putfield 76, 3) := by decide +kernel
theorem dX7_end_25 : decode cX7_end 25 = .ok (.iload_n 1, 1) := by decide +kernel
theorem dX7_end_26 : decode cX7_end 26 = .ok (.ireturn, 1) := by decide +kernel
set_option maxRecDepth 4000 in
theorem kX7_end (G : GT) {σ : St} {a1 : Int32} : ∀ (r : Int32) (σo : St) , fX7_end σ a1 = some (r, σo) → MCt G 1 yX7_end cX7_end 2 (some .int) [.ref (gad G 0), .int a1] σ (some (.int r)) σo := by
  intro r σo hF
  refine met_i (by decide) (Nat.le_of_ble_eq_true rfl) (fun X cx hE => ?_)
  have cx : Cx G X RX7 cX7_end 2 1 := cx
  unfold fX7_end at hF
  show WW G X 2 σ [(0, .ref (gad G 0)), (1, .int a1)] 0 []
  refine ww_iload_n cx dX7_end_0 rfl 1 rfl ?_
  refine ww_if_lt cx dX7_end_1 (tgt := 15) rfl hF (fun hF => ?_) (fun hF => ?_)
  · refine ww_iconst cx dX7_end_15 ic_m1 ?_
    exact ww_ris hE dX7_end_16 hF
  · refine ww_iload_n cx dX7_end_4 rfl 1 rfl ?_
    refine ww_aload_n cx dX7_end_5 rfl 0 rfl ?_
    refine gf_X7_10 cx dX7_end_6 ?_
    refine gf_X7_76 cx dX7_end_9 ?_
    refine ww_icmp_le cx dX7_end_12 (tgt := 17) rfl hF (fun hF => ?_) (fun hF => ?_)
    · refine ww_aload_n cx dX7_end_17 rfl 0 rfl ?_
      refine gf_X7_10 cx dX7_end_18 ?_
      refine ww_iload_n cx dX7_end_21 rfl 1 rfl ?_
      refine pf_X7_76 cx dX7_end_22 hF (fun σ1 hF => ?_)
      refine ww_iload_n cx dX7_end_25 rfl 1 rfl ?_
      exact ww_ris hE dX7_end_26 hF
    · refine ww_iconst cx dX7_end_15 ic_m1 ?_
      exact ww_ris hE dX7_end_16 hF
theorem dX7_fault_0 : decode cX7_fault 0 = .ok (.iload_n 1, 1) := by decide +kernel
theorem dX7_fault_1 : decode cX7_fault 1 = .ok (.lookupswitch 43 #[(0, 27), (1, 35)], 27) := by decide +kernel
theorem dX7_fault_28 : decode cX7_fault 28 = .ok (.aload_n 0, 1) := by decide +kernel
theorem dX7_fault_29 : decode cX7_fault 29 = .ok (.getfield 10, 3) := by decide +kernel
theorem dX7_fault_32 : decode cX7_fault 32 = .ok (.getfield 95, 3) := by decide +kernel
theorem dX7_fault_35 : decode cX7_fault 35 = .ok (.ireturn, 1) := by decide +kernel
theorem dX7_fault_36 : decode cX7_fault 36 = .ok (.aload_n 0, 1) := by decide +kernel
theorem dX7_fault_37 : decode cX7_fault 37 = .ok (.getfield 10, 3) := by decide +kernel
theorem dX7_fault_40 : decode cX7_fault 40 = .ok (.getfield 98, 3) := by decide +kernel
theorem dX7_fault_43 : decode cX7_fault 43 = .ok (.ireturn, 1) := by decide +kernel
theorem dX7_fault_44 : decode cX7_fault 44 = .ok (.iconst (-1), 1) := by decide +kernel
theorem dX7_fault_45 : decode cX7_fault 45 = .ok (.ireturn, 1) := by decide +kernel
set_option maxRecDepth 4000 in
theorem kX7_fault (G : GT) {σ : St} {a1 : Int32} : ∀ (r : Int32) , fX7_fault σ a1 = some r → MCt G 1 yX7_fault cX7_fault 2 (some .int) [.ref (gad G 0), .int a1] σ (some (.int r)) σ := by
  intro r hF
  refine met_i (by decide) (Nat.le_of_ble_eq_true rfl) (fun X cx hE => ?_)
  have cx : Cx G X RX7 cX7_fault 2 1 := cx
  unfold fX7_fault at hF
  show WW G X 2 σ [(0, .ref (gad G 0)), (1, .int a1)] 0 []
  refine ww_iload_n cx dX7_fault_0 rfl 1 rfl ?_
  by_cases e0 : a1 = 0
  · replace hF := it_t e0 hF
    refine ww_lsIn (v := 0) (tgt := 28) cx dX7_fault_1 e0 (by decide +kernel) rfl rfl ?_
    refine ww_aload_n cx dX7_fault_28 rfl 0 rfl ?_
    refine gf_X7_10 cx dX7_fault_29 ?_
    refine gf_X7_95 cx dX7_fault_32 ?_
    exact ww_rip hE dX7_fault_35 hF
  replace hF := it_f e0 hF
  by_cases e1 : a1 = 1
  · replace hF := it_t e1 hF
    refine ww_lsIn (v := 1) (tgt := 36) cx dX7_fault_1 e1 (by decide +kernel) rfl rfl ?_
    refine ww_aload_n cx dX7_fault_36 rfl 0 rfl ?_
    refine gf_X7_10 cx dX7_fault_37 ?_
    refine gf_X7_98 cx dX7_fault_40 ?_
    exact ww_rip hE dX7_fault_43 hF
  replace hF := it_f e1 hF
  refine ww_lsOut (tgt := 44) cx dX7_fault_1 (by decide +kernel) (ls_out2 e0 e1) rfl ?_
  refine ww_iconst cx dX7_fault_44 ic_m1 ?_
  exact ww_rip hE dX7_fault_45 hF
theorem dX7_greatestDivisor_0 : decode cX7_greatestDivisor 0 = .ok (.iload_n 0, 1) := by decide +kernel
theorem dX7_greatestDivisor_1 : decode cX7_greatestDivisor 1 = .ok (.istore_n 2, 1) := by decide +kernel
theorem dX7_greatestDivisor_2 : decode cX7_greatestDivisor 2 = .ok (.iload_n 1, 1) := by decide +kernel
theorem dX7_greatestDivisor_3 : decode cX7_greatestDivisor 3 = .ok (.istore_n 3, 1) := by decide +kernel
theorem dX7_greatestDivisor_4 : decode cX7_greatestDivisor 4 = .ok (.iconst 0, 1) := by decide +kernel
theorem dX7_greatestDivisor_5 : decode cX7_greatestDivisor 5 = .ok (.istore 4, 2) := by decide +kernel
theorem dX7_greatestDivisor_7 : decode cX7_greatestDivisor 7 = .ok (.iload 4, 2) := by decide +kernel
theorem dX7_greatestDivisor_9 : decode cX7_greatestDivisor 9 = .ok (.bipush 64, 2) := by decide +kernel
theorem dX7_greatestDivisor_11 : decode cX7_greatestDivisor 11 = .ok (.if_icmp .ge 23, 3) := by decide +kernel
theorem dX7_greatestDivisor_14 : decode cX7_greatestDivisor 14 = .ok (.iload_n 3, 1) := by decide +kernel
theorem dX7_greatestDivisor_15 : decode cX7_greatestDivisor 15 = .ok (.ifCond .eq 19, 3) := by decide +kernel
theorem dX7_greatestDivisor_18 : decode cX7_greatestDivisor 18 = .ok (.iload_n 2, 1) := by decide +kernel
theorem dX7_greatestDivisor_19 : decode cX7_greatestDivisor 19 = .ok (.iload_n 3, 1) := by decide +kernel
theorem dX7_greatestDivisor_20 : decode cX7_greatestDivisor 20 = .ok (.irem, 1) := by decide +kernel
theorem dX7_greatestDivisor_21 : decode cX7_greatestDivisor 21 = .ok (.istore 5, 2) := by decide +kernel
theorem dX7_greatestDivisor_23 : decode cX7_greatestDivisor 23 = .ok (.iload_n 3, 1) := by decide +kernel
theorem dX7_greatestDivisor_24 : decode cX7_greatestDivisor 24 = .ok (.istore_n 2, 1) := by decide +kernel
theorem dX7_greatestDivisor_25 : decode cX7_greatestDivisor 25 = .ok (.iload 5, 2) := by decide +kernel
theorem dX7_greatestDivisor_27 : decode cX7_greatestDivisor 27 = .ok (.istore_n 3, 1) := by decide +kernel
theorem dX7_greatestDivisor_28 : decode cX7_greatestDivisor 28 = .ok (.iinc 4 1, 3) := by decide +kernel
theorem dX7_greatestDivisor_31 : decode cX7_greatestDivisor 31 = .ok (.goto (-24), 3) := by decide +kernel
theorem dX7_greatestDivisor_34 : decode cX7_greatestDivisor 34 = .ok (.iload_n 2, 1) := by decide +kernel
theorem dX7_greatestDivisor_35 : decode cX7_greatestDivisor 35 = .ok (.ireturn, 1) := by decide +kernel
set_option maxRecDepth 4000 in
theorem kX7_greatestDivisor (G : GT) {σ : St} {a0 : Int32} {a1 : Int32} : ∀ (r : Int32) , fX7_greatestDivisor a0 a1 = some r → MCt G 1 yX7_greatestDivisor cX7_greatestDivisor 6 (some .int) [.int a0, .int a1] σ (some (.int r)) σ := by
  intro r hF
  refine met_i (by decide) (Nat.le_of_ble_eq_true rfl) (fun X cx hE => ?_)
  have cx : Cx G X RX7 cX7_greatestDivisor 6 1 := cx
  have hl7 : ∀ n : Nat, ∀ (x2 : Int32) (x3 : Int32) (x4 : Int32) , fX7_greatestDivisor_l7 n x2 x3 x4 = some r → WW G X 6 σ [(2, .int x2), (3, .int x3), (4, .int x4)] 7 [] := by
    intro n
    induction n with
    | zero =>
      intro x2 x3 x4 hF
      exact absurd hF (by intro z; cases z)
    | succ n ih =>
      intro x2 x3 x4 hF
      have hk7 := ih
      have hF : fX7_greatestDivisor_B7 (fX7_greatestDivisor_l7 n) x2 x3 x4 = some r := hF
      unfold fX7_greatestDivisor_B7 at hF
      refine ww_iload cx dX7_greatestDivisor_7 2 rfl ?_
      refine ww_bipush cx dX7_greatestDivisor_9 bc_64 ?_
      refine ww_icmp_ge cx dX7_greatestDivisor_11 (tgt := 34) rfl hF (fun hF => ?_) (fun hF => ?_)
      · refine ww_iload_n cx dX7_greatestDivisor_34 rfl 0 rfl ?_
        exact ww_rip hE dX7_greatestDivisor_35 hF
      · refine ww_iload_n cx dX7_greatestDivisor_14 rfl 1 rfl ?_
        refine ww_if_eq cx dX7_greatestDivisor_15 (tgt := 34) rfl hF (fun hF => ?_) (fun hF => ?_)
        · refine ww_iload_n cx dX7_greatestDivisor_34 rfl 0 rfl ?_
          exact ww_rip hE dX7_greatestDivisor_35 hF
        · refine ww_iload_n cx dX7_greatestDivisor_18 rfl 0 rfl ?_
          refine ww_iload_n cx dX7_greatestDivisor_19 rfl 1 rfl ?_
          refine ww_irem cx dX7_greatestDivisor_20 hF (fun hF => ?_)
          refine ww_istore (ks := [0, 2, 3]) (lv' := fun v1 => [(5, .int v1), (3, .int x3), (4, .int x4)]) cx dX7_greatestDivisor_21 (by decide) hF (fun _ => rfl) (fun v1 hF => ?_)
          refine ww_iload_n cx dX7_greatestDivisor_23 rfl 1 rfl ?_
          refine ww_istore_n (ks := [0, 1, 3]) (lv' := fun v2 => [(2, .int v2), (5, .int v1), (4, .int x4)]) cx dX7_greatestDivisor_24 rfl (by decide) hF (fun _ => rfl) (fun v2 hF => ?_)
          refine ww_iload cx dX7_greatestDivisor_25 1 rfl ?_
          refine ww_istore_n (ks := [0, 1, 3]) (lv' := fun v3 => [(3, .int v3), (2, .int v2), (4, .int x4)]) cx dX7_greatestDivisor_27 rfl (by decide) hF (fun _ => rfl) (fun v3 hF => ?_)
          refine ww_iinc (j := 2) (ks := [0, 1, 2]) (lv' := fun v4 => [(4, .int v4), (3, .int v3), (2, .int v2)]) cx dX7_greatestDivisor_28 (by decide) rfl ic_1 hF (fun _ => rfl) (fun v4 hF => ?_)
          refine ww_goto cx dX7_greatestDivisor_31 (tgt := 7) rfl ?_
          exact ww_sub [2, 1, 0] rfl (hk7 _ _ _ hF)
  unfold fX7_greatestDivisor at hF
  show WW G X 6 σ [(0, .int a0), (1, .int a1)] 0 []
  refine ww_iload_n cx dX7_greatestDivisor_0 rfl 0 rfl ?_
  refine ww_istore_n (ks := [0, 2]) (lv' := fun v5 => [(2, .int v5), (1, .int a1)]) cx dX7_greatestDivisor_1 rfl (by decide) hF (fun _ => rfl) (fun v5 hF => ?_)
  refine ww_iload_n cx dX7_greatestDivisor_2 rfl 1 rfl ?_
  refine ww_istore_n (ks := [0, 1]) (lv' := fun v6 => [(3, .int v6), (2, .int v5)]) cx dX7_greatestDivisor_3 rfl (by decide) hF (fun _ => rfl) (fun v6 hF => ?_)
  refine ww_iconst cx dX7_greatestDivisor_4 ic_0 ?_
  refine ww_istore (ks := [0, 1, 2]) (lv' := fun v7 => [(4, .int v7), (3, .int v6), (2, .int v5)]) cx dX7_greatestDivisor_5 (by decide) hF (fun _ => rfl) (fun v7 hF => ?_)
  exact ww_sub [2, 1, 0] rfl (hl7 FU _ _ _ hF)
theorem dX7_isBit_0 : decode cX7_isBit 0 = .ok (.iload_n 0, 1) := by decide +kernel
theorem dX7_isBit_1 : decode cX7_isBit 1 = .ok (.ifCond .eq 8, 3) := by decide +kernel
theorem dX7_isBit_4 : decode cX7_isBit 4 = .ok (.iload_n 0, 1) := by decide +kernel
theorem dX7_isBit_5 : decode cX7_isBit 5 = .ok (.iconst 1, 1) := by decide +kernel
theorem dX7_isBit_6 : decode cX7_isBit 6 = .ok (.if_icmp .ne 7, 3) := by decide +kernel
theorem dX7_isBit_9 : decode cX7_isBit 9 = .ok (.iconst 1, 1) := by decide +kernel
theorem dX7_isBit_10 : decode cX7_isBit 10 = .ok (.goto 4, 3) := by decide +kernel
theorem dX7_isBit_13 : decode cX7_isBit 13 = .ok (.iconst 0, 1) := by decide +kernel
theorem dX7_isBit_14 : decode cX7_isBit 14 = .ok (.ireturn, 1) := by decide +kernel
set_option maxRecDepth 4000 in
theorem kX7_isBit (G : GT) {σ : St} {a0 : Int32} : ∀ (r : Int32) , fX7_isBit a0 = some r → MCt G 1 yX7_isBit cX7_isBit 1 (some .boolean) [.int a0] σ (some (.int r)) σ := by
  intro r hF
  refine met_zz (by decide) (Nat.le_of_ble_eq_true rfl) (fun X cx hE => ?_)
  have cx : Cx G X RX7 cX7_isBit 1 1 := cx
  have hb9 : fX7_isBit_b9 = some r → WW G X 1 σ [] 9 [] := by
    intro hF
    unfold fX7_isBit_b9 at hF
    refine ww_iconst cx dX7_isBit_9 ic_1 ?_
    refine ww_goto cx dX7_isBit_10 (tgt := 14) rfl ?_
    exact ww_rzp hE dX7_isBit_14 hF
  unfold fX7_isBit at hF
  show WW G X 1 σ [(0, .int a0)] 0 []
  refine ww_iload_n cx dX7_isBit_0 rfl 0 rfl ?_
  refine ww_if_eq cx dX7_isBit_1 (tgt := 9) rfl hF (fun hF => ?_) (fun hF => ?_)
  · exact ww_sub [] rfl (hb9 hF)
  · refine ww_iload_n cx dX7_isBit_4 rfl 0 rfl ?_
    refine ww_iconst cx dX7_isBit_5 ic_1 ?_
    refine ww_icmp_ne cx dX7_isBit_6 (tgt := 13) rfl hF (fun hF => ?_) (fun hF => ?_)
    · refine ww_iconst cx dX7_isBit_13 ic_0 ?_
      exact ww_rzp hE dX7_isBit_14 hF
    · exact ww_sub [] rfl (hb9 hF)
theorem dX7_isSeed_0 : decode cX7_isSeed 0 = .ok (.iload_n 0, 1) := by decide +kernel
theorem dX7_isSeed_1 : decode cX7_isSeed 1 = .ok (.ifCond .lt 14, 3) := by decide +kernel
theorem dX7_isSeed_4 : decode cX7_isSeed 4 = .ok (.iload_n 0, 1) := by decide +kernel
theorem dX7_isSeed_5 : decode cX7_isSeed 5 = .ok (.ldc_w 389, 3) := by decide +kernel
theorem dX7_isSeed_8 : decode cX7_isSeed 8 = .ok (.if_icmp .gt 7, 3) := by decide +kernel
theorem dX7_isSeed_11 : decode cX7_isSeed 11 = .ok (.iconst 1, 1) := by decide +kernel
theorem dX7_isSeed_12 : decode cX7_isSeed 12 = .ok (.goto 4, 3) := by decide +kernel
theorem dX7_isSeed_15 : decode cX7_isSeed 15 = .ok (.iconst 0, 1) := by decide +kernel
theorem dX7_isSeed_16 : decode cX7_isSeed 16 = .ok (.ireturn, 1) := by decide +kernel
set_option maxRecDepth 4000 in
theorem kX7_isSeed (G : GT) {σ : St} {a0 : Int32} : ∀ (r : Int32) , fX7_isSeed a0 = some r → MCt G 1 yX7_isSeed cX7_isSeed 1 (some .boolean) [.int a0] σ (some (.int r)) σ := by
  intro r hF
  refine met_zz (by decide) (Nat.le_of_ble_eq_true rfl) (fun X cx hE => ?_)
  have cx : Cx G X RX7 cX7_isSeed 1 1 := cx
  unfold fX7_isSeed at hF
  show WW G X 1 σ [(0, .int a0)] 0 []
  refine ww_iload_n cx dX7_isSeed_0 rfl 0 rfl ?_
  refine ww_if_lt cx dX7_isSeed_1 (tgt := 15) rfl hF (fun hF => ?_) (fun hF => ?_)
  · refine ww_iconst cx dX7_isSeed_15 ic_0 ?_
    exact ww_rzp hE dX7_isSeed_16 hF
  · refine ww_iload_n cx dX7_isSeed_4 rfl 0 rfl ?_
    refine ww_ldcw (v := 2000000000) cx dX7_isSeed_5 cn_X7_389 ?_
    refine ww_icmp_gt cx dX7_isSeed_8 (tgt := 15) rfl hF (fun hF => ?_) (fun hF => ?_)
    · refine ww_iconst cx dX7_isSeed_15 ic_0 ?_
      exact ww_rzp hE dX7_isSeed_16 hF
    · refine ww_iconst cx dX7_isSeed_11 ic_1 ?_
      refine ww_goto cx dX7_isSeed_12 (tgt := 16) rfl ?_
      exact ww_rzp hE dX7_isSeed_16 hF
theorem dX7_isSlot_0 : decode cX7_isSlot 0 = .ok (.iload_n 0, 1) := by decide +kernel
theorem dX7_isSlot_1 : decode cX7_isSlot 1 = .ok (.ifCond .lt 12, 3) := by decide +kernel
theorem dX7_isSlot_4 : decode cX7_isSlot 4 = .ok (.iload_n 0, 1) := by decide +kernel
theorem dX7_isSlot_5 : decode cX7_isSlot 5 = .ok (.iconst 4, 1) := by decide +kernel
theorem dX7_isSlot_6 : decode cX7_isSlot 6 = .ok (.if_icmp .ge 7, 3) := by decide +kernel
theorem dX7_isSlot_9 : decode cX7_isSlot 9 = .ok (.iconst 1, 1) := by decide +kernel
theorem dX7_isSlot_10 : decode cX7_isSlot 10 = .ok (.goto 4, 3) := by decide +kernel
theorem dX7_isSlot_13 : decode cX7_isSlot 13 = .ok (.iconst 0, 1) := by decide +kernel
theorem dX7_isSlot_14 : decode cX7_isSlot 14 = .ok (.ireturn, 1) := by decide +kernel
set_option maxRecDepth 4000 in
theorem kX7_isSlot (G : GT) {σ : St} {a0 : Int32} : ∀ (r : Int32) , fX7_isSlot a0 = some r → MCt G 1 yX7_isSlot cX7_isSlot 1 (some .boolean) [.int a0] σ (some (.int r)) σ := by
  intro r hF
  refine met_zz (by decide) (Nat.le_of_ble_eq_true rfl) (fun X cx hE => ?_)
  have cx : Cx G X RX7 cX7_isSlot 1 1 := cx
  unfold fX7_isSlot at hF
  show WW G X 1 σ [(0, .int a0)] 0 []
  refine ww_iload_n cx dX7_isSlot_0 rfl 0 rfl ?_
  refine ww_if_lt cx dX7_isSlot_1 (tgt := 13) rfl hF (fun hF => ?_) (fun hF => ?_)
  · refine ww_iconst cx dX7_isSlot_13 ic_0 ?_
    exact ww_rzp hE dX7_isSlot_14 hF
  · refine ww_iload_n cx dX7_isSlot_4 rfl 0 rfl ?_
    refine ww_iconst cx dX7_isSlot_5 ic_4 ?_
    refine ww_icmp_ge cx dX7_isSlot_6 (tgt := 13) rfl hF (fun hF => ?_) (fun hF => ?_)
    · refine ww_iconst cx dX7_isSlot_13 ic_0 ?_
      exact ww_rzp hE dX7_isSlot_14 hF
    · refine ww_iconst cx dX7_isSlot_9 ic_1 ?_
      refine ww_goto cx dX7_isSlot_10 (tgt := 14) rfl ?_
      exact ww_rzp hE dX7_isSlot_14 hF
theorem dX7_rowsThere_0 : decode cX7_rowsThere 0 = .ok (.iconst 0, 1) := by decide +kernel
theorem dX7_rowsThere_1 : decode cX7_rowsThere 1 = .ok (.istore_n 1, 1) := by decide +kernel
theorem dX7_rowsThere_2 : decode cX7_rowsThere 2 = .ok (.iconst 0, 1) := by decide +kernel
theorem dX7_rowsThere_3 : decode cX7_rowsThere 3 = .ok (.istore_n 2, 1) := by decide +kernel
theorem dX7_rowsThere_4 : decode cX7_rowsThere 4 = .ok (.iload_n 2, 1) := by decide +kernel
theorem dX7_rowsThere_5 : decode cX7_rowsThere 5 = .ok (.iconst 4, 1) := by decide +kernel
theorem dX7_rowsThere_6 : decode cX7_rowsThere 6 = .ok (.if_icmp .ge 24, 3) := by decide +kernel
theorem dX7_rowsThere_9 : decode cX7_rowsThere 9 = .ok (.aload_n 0, 1) := by decide +kernel
theorem dX7_rowsThere_10 : decode cX7_rowsThere 10 = .ok (.getfield 36, 3) := by decide +kernel
theorem dX7_rowsThere_13 : decode cX7_rowsThere 13 = .ok (.iload_n 2, 1) := by decide +kernel
theorem dX7_rowsThere_14 : decode cX7_rowsThere 14 = .ok (.aaload, 1) := by decide +kernel
theorem dX7_rowsThere_15 : decode cX7_rowsThere 15 = .ok (.getfield 199, 3) := by decide +kernel
theorem dX7_rowsThere_18 : decode cX7_rowsThere 18 = .ok (.ifCond .eq 6, 3) := by decide +kernel
theorem dX7_rowsThere_21 : decode cX7_rowsThere 21 = .ok (.iinc 1 1, 3) := by decide +kernel
theorem dX7_rowsThere_24 : decode cX7_rowsThere 24 = .ok (.iinc 2 1, 3) := by decide +kernel
theorem dX7_rowsThere_27 : decode cX7_rowsThere 27 = .ok (.goto (-23), 3) := by decide +kernel
theorem dX7_rowsThere_30 : decode cX7_rowsThere 30 = .ok (.iload_n 1, 1) := by decide +kernel
theorem dX7_rowsThere_31 : decode cX7_rowsThere 31 = .ok (.ireturn, 1) := by decide +kernel
set_option maxRecDepth 4000 in
theorem kX7_rowsThere (G : GT) {σ : St} : ∀ (r : Int32) , fX7_rowsThere σ = some r → MCt G 1 yX7_rowsThere cX7_rowsThere 3 (some .int) [.ref (gad G 0)] σ (some (.int r)) σ := by
  intro r hF
  refine met_i (by decide) (Nat.le_of_ble_eq_true rfl) (fun X cx hE => ?_)
  have cx : Cx G X RX7 cX7_rowsThere 3 1 := cx
  have hl4 : ∀ n : Nat, ∀ (x1 : Int32) (x2 : Int32) , fX7_rowsThere_l4 σ n x1 x2 = some r → WW G X 3 σ [(0, .ref (gad G 0)), (1, .int x1), (2, .int x2)] 4 [] := by
    intro n
    induction n with
    | zero =>
      intro x1 x2 hF
      exact absurd hF (by intro z; cases z)
    | succ n ih =>
      intro x1 x2 hF
      have hk4 := ih
      have hF : fX7_rowsThere_B4 σ (fX7_rowsThere_l4 σ n) x1 x2 = some r := hF
      unfold fX7_rowsThere_B4 at hF
      refine ww_iload_n cx dX7_rowsThere_4 rfl 2 rfl ?_
      refine ww_iconst cx dX7_rowsThere_5 ic_4 ?_
      refine ww_icmp_ge cx dX7_rowsThere_6 (tgt := 30) rfl hF (fun hF => ?_) (fun hF => ?_)
      · refine ww_iload_n cx dX7_rowsThere_30 rfl 1 rfl ?_
        exact ww_rip hE dX7_rowsThere_31 hF
      · refine ww_aload_n cx dX7_rowsThere_9 rfl 0 rfl ?_
        refine gf_X7_36 cx dX7_rowsThere_10 ?_
        refine ww_iload_n cx dX7_rowsThere_13 rfl 2 rfl ?_
        refine ww_aaldR cx dX7_rowsThere_14 hF (fun k1 hk1 hF => ?_)
        refine gf_X7_199 cx (hk1) dX7_rowsThere_15 ?_
        refine ww_if_eq cx dX7_rowsThere_18 (tgt := 24) rfl hF (fun hF => ?_) (fun hF => ?_)
        · refine ww_iinc (j := 2) (ks := [0, 1, 2]) (lv' := fun v2 => [(2, .int v2), (0, .ref (gad G 0)), (1, .int x1)]) cx dX7_rowsThere_24 (by decide) rfl ic_1 hF (fun _ => rfl) (fun v2 hF => ?_)
          refine ww_goto cx dX7_rowsThere_27 (tgt := 4) rfl ?_
          exact ww_sub [1, 2, 0] rfl (hk4 _ _ hF)
        · refine ww_iinc (j := 1) (ks := [0, 1, 2]) (lv' := fun v3 => [(1, .int v3), (0, .ref (gad G 0)), (2, .int x2)]) cx dX7_rowsThere_21 (by decide) rfl ic_1 hF (fun _ => rfl) (fun v3 hF => ?_)
          refine ww_iinc (j := 2) (ks := [0, 1, 2]) (lv' := fun v4 => [(2, .int v4), (1, .int v3), (0, .ref (gad G 0))]) cx dX7_rowsThere_24 (by decide) rfl ic_1 hF (fun _ => rfl) (fun v4 hF => ?_)
          refine ww_goto cx dX7_rowsThere_27 (tgt := 4) rfl ?_
          exact ww_sub [2, 1, 0] rfl (hk4 _ _ hF)
  unfold fX7_rowsThere at hF
  show WW G X 3 σ [(0, .ref (gad G 0))] 0 []
  refine ww_iconst cx dX7_rowsThere_0 ic_0 ?_
  refine ww_istore_n (ks := [0, 1]) (lv' := fun v5 => [(1, .int v5), (0, .ref (gad G 0))]) cx dX7_rowsThere_1 rfl (by decide) hF (fun _ => rfl) (fun v5 hF => ?_)
  refine ww_iconst cx dX7_rowsThere_2 ic_0 ?_
  refine ww_istore_n (ks := [0, 1, 2]) (lv' := fun v6 => [(2, .int v6), (1, .int v5), (0, .ref (gad G 0))]) cx dX7_rowsThere_3 rfl (by decide) hF (fun _ => rfl) (fun v6 hF => ?_)
  exact ww_sub [2, 1, 0] rfl (hl4 FU _ _ hF)
theorem dX7_withBit_0 : decode cX7_withBit 0 = .ok (.iload_n 2, 1) := by decide +kernel
theorem dX7_withBit_1 : decode cX7_withBit 1 = .ok (.iconst 1, 1) := by decide +kernel
theorem dX7_withBit_2 : decode cX7_withBit 2 = .ok (.if_icmp .ne 11, 3) := by decide +kernel
theorem dX7_withBit_5 : decode cX7_withBit 5 = .ok (.iload_n 0, 1) := by decide +kernel
theorem dX7_withBit_6 : decode cX7_withBit 6 = .ok (.iconst 1, 1) := by decide +kernel
theorem dX7_withBit_7 : decode cX7_withBit 7 = .ok (.iload_n 1, 1) := by decide +kernel
theorem dX7_withBit_8 : decode cX7_withBit 8 = .ok (.ishl, 1) := by decide +kernel
theorem dX7_withBit_9 : decode cX7_withBit 9 = .ok (.ior, 1) := by decide +kernel
theorem dX7_withBit_10 : decode cX7_withBit 10 = .ok (.goto 10, 3) := by decide +kernel
theorem dX7_withBit_13 : decode cX7_withBit 13 = .ok (.iload_n 0, 1) := by decide +kernel
theorem dX7_withBit_14 : decode cX7_withBit 14 = .ok (.iconst 1, 1) := by decide +kernel
theorem dX7_withBit_15 : decode cX7_withBit 15 = .ok (.iload_n 1, 1) := by decide +kernel
theorem dX7_withBit_16 : decode cX7_withBit 16 = .ok (.ishl, 1) := by decide +kernel
theorem dX7_withBit_17 : decode cX7_withBit 17 = .ok (.iconst (-1), 1) := by decide +kernel
theorem dX7_withBit_18 : decode cX7_withBit 18 = .ok (.ixor, 1) := by decide +kernel
theorem dX7_withBit_19 : decode cX7_withBit 19 = .ok (.iand, 1) := by decide +kernel
theorem dX7_withBit_20 : decode cX7_withBit 20 = .ok (.ireturn, 1) := by decide +kernel
set_option maxRecDepth 4000 in
theorem kX7_withBit (G : GT) {σ : St} {a0 : Int32} {a1 : Int32} {a2 : Int32} : ∀ (r : Int32) , fX7_withBit a0 a1 a2 = some r → MCt G 1 yX7_withBit cX7_withBit 3 (some .int) [.int a0, .int a1, .int a2] σ (some (.int r)) σ := by
  intro r hF
  refine met_i (by decide) (Nat.le_of_ble_eq_true rfl) (fun X cx hE => ?_)
  have cx : Cx G X RX7 cX7_withBit 3 1 := cx
  unfold fX7_withBit at hF
  show WW G X 3 σ [(0, .int a0), (1, .int a1), (2, .int a2)] 0 []
  refine ww_iload_n cx dX7_withBit_0 rfl 2 rfl ?_
  refine ww_iconst cx dX7_withBit_1 ic_1 ?_
  refine ww_icmp_ne cx dX7_withBit_2 (tgt := 13) rfl hF (fun hF => ?_) (fun hF => ?_)
  · refine ww_iload_n cx dX7_withBit_13 rfl 0 rfl ?_
    refine ww_iconst cx dX7_withBit_14 ic_1 ?_
    refine ww_iload_n cx dX7_withBit_15 rfl 1 rfl ?_
    refine ww_ishl cx dX7_withBit_16 ?_
    refine ww_iconst cx dX7_withBit_17 ic_m1 ?_
    refine ww_ixor cx dX7_withBit_18 ?_
    refine ww_iand cx dX7_withBit_19 ?_
    exact ww_rip hE dX7_withBit_20 hF
  · refine ww_iload_n cx dX7_withBit_5 rfl 0 rfl ?_
    refine ww_iconst cx dX7_withBit_6 ic_1 ?_
    refine ww_iload_n cx dX7_withBit_7 rfl 1 rfl ?_
    refine ww_ishl cx dX7_withBit_8 ?_
    refine ww_ior cx dX7_withBit_9 ?_
    refine ww_goto cx dX7_withBit_10 (tgt := 20) rfl ?_
    exact ww_rip hE dX7_withBit_20 hF
theorem dX0_worldThatComes_0 : decode cX0_worldThatComes 0 = .ok (.iconst 0, 1) := by decide +kernel
theorem dX0_worldThatComes_1 : decode cX0_worldThatComes 1 = .ok (.istore 4, 2) := by decide +kernel
theorem dX0_worldThatComes_3 : decode cX0_worldThatComes 3 = .ok (.iload 4, 2) := by decide +kernel
theorem dX0_worldThatComes_5 : decode cX0_worldThatComes 5 = .ok (.bipush 16, 2) := by decide +kernel
theorem dX0_worldThatComes_7 : decode cX0_worldThatComes 7 = .ok (.if_icmp .ge 18, 3) := by decide +kernel
theorem dX0_worldThatComes_10 : decode cX0_worldThatComes 10 = .ok (.aload_n 0, 1) := by decide +kernel
theorem dX0_worldThatComes_11 : decode cX0_worldThatComes 11 = .ok (.getfield 9, 3) := by decide +kernel
theorem dX0_worldThatComes_14 : decode cX0_worldThatComes 14 = .ok (.iload 4, 2) := by decide +kernel
theorem dX0_worldThatComes_16 : decode cX0_worldThatComes 16 = .ok (.iload 4, 2) := by decide +kernel
theorem dX0_worldThatComes_18 : decode cX0_worldThatComes 18 = .ok (.iastore, 1) := by decide +kernel
theorem dX0_worldThatComes_19 : decode cX0_worldThatComes 19 = .ok (.iinc 4 1, 3) := by decide +kernel
theorem dX0_worldThatComes_22 : decode cX0_worldThatComes 22 = .ok (.goto (-19), 3) := by decide +kernel
theorem dX0_worldThatComes_25 : decode cX0_worldThatComes 25 = .ok (.aload_n 1, 1) := by decide +kernel
theorem dX0_worldThatComes_26 : decode cX0_worldThatComes 26 = .ok (.getfield 15, 3) := by decide +kernel
theorem dX0_worldThatComes_29 : decode cX0_worldThatComes 29 = .ok (.iconst 1, 1) := by decide +kernel
theorem dX0_worldThatComes_30 : decode cX0_worldThatComes 30 = .ok (.isub, 1) := by decide +kernel
theorem dX0_worldThatComes_31 : decode cX0_worldThatComes 31 = .ok (.istore 4, 2) := by decide +kernel
theorem dX0_worldThatComes_33 : decode cX0_worldThatComes 33 = .ok (.iload 4, 2) := by decide +kernel
theorem dX0_worldThatComes_35 : decode cX0_worldThatComes 35 = .ok (.ifCond .lt 135, 3) := by decide +kernel
theorem dX0_worldThatComes_38 : decode cX0_worldThatComes 38 = .ok (.iload 4, 2) := by decide +kernel
theorem dX0_worldThatComes_40 : decode cX0_worldThatComes 40 = .ok (.iconst 1, 1) := by decide +kernel
theorem dX0_worldThatComes_41 : decode cX0_worldThatComes 41 = .ok (.iand, 1) := by decide +kernel
theorem dX0_worldThatComes_42 : decode cX0_worldThatComes 42 = .ok (.iload_n 3, 1) := by decide +kernel
theorem dX0_worldThatComes_43 : decode cX0_worldThatComes 43 = .ok (.if_icmp .ne 7, 3) := by decide +kernel
theorem dX0_worldThatComes_46 : decode cX0_worldThatComes 46 = .ok (.iconst 1, 1) := by decide +kernel
theorem dX0_worldThatComes_47 : decode cX0_worldThatComes 47 = .ok (.goto 4, 3) := by decide +kernel
theorem dX0_worldThatComes_50 : decode cX0_worldThatComes 50 = .ok (.iconst 0, 1) := by decide +kernel
theorem dX0_worldThatComes_51 : decode cX0_worldThatComes 51 = .ok (.istore 5, 2) := by decide +kernel
theorem dX0_worldThatComes_53 : decode cX0_worldThatComes 53 = .ok (.iconst 0, 1) := by decide +kernel
theorem dX0_worldThatComes_54 : decode cX0_worldThatComes 54 = .ok (.istore 6, 2) := by decide +kernel
theorem dX0_worldThatComes_56 : decode cX0_worldThatComes 56 = .ok (.iload 6, 2) := by decide +kernel
theorem dX0_worldThatComes_58 : decode cX0_worldThatComes 58 = .ok (.iconst 1, 1) := by decide +kernel
theorem dX0_worldThatComes_59 : decode cX0_worldThatComes 59 = .ok (.iload 4, 2) := by decide +kernel
theorem dX0_worldThatComes_61 : decode cX0_worldThatComes 61 = .ok (.ishl, 1) := by decide +kernel
theorem dX0_worldThatComes_62 : decode cX0_worldThatComes 62 = .ok (.if_icmp .ge 102, 3) := by decide +kernel
theorem dX0_worldThatComes_65 : decode cX0_worldThatComes 65 = .ok (.aload_n 0, 1) := by decide +kernel
theorem dX0_worldThatComes_66 : decode cX0_worldThatComes 66 = .ok (.getfield 9, 3) := by decide +kernel
theorem dX0_worldThatComes_69 : decode cX0_worldThatComes 69 = .ok (.iload 6, 2) := by decide +kernel
theorem dX0_worldThatComes_71 : decode cX0_worldThatComes 71 = .ok (.iaload, 1) := by decide +kernel
theorem dX0_worldThatComes_72 : decode cX0_worldThatComes 72 = .ok (.istore 7, 2) := by decide +kernel
theorem dX0_worldThatComes_74 : decode cX0_worldThatComes 74 = .ok (.aload_n 0, 1) := by decide +kernel
theorem dX0_worldThatComes_75 : decode cX0_worldThatComes 75 = .ok (.getfield 9, 3) := by decide +kernel
theorem dX0_worldThatComes_78 : decode cX0_worldThatComes 78 = .ok (.iload 6, 2) := by decide +kernel
theorem dX0_worldThatComes_80 : decode cX0_worldThatComes 80 = .ok (.iconst 1, 1) := by decide +kernel
theorem dX0_worldThatComes_81 : decode cX0_worldThatComes 81 = .ok (.iload 4, 2) := by decide +kernel
theorem dX0_worldThatComes_83 : decode cX0_worldThatComes 83 = .ok (.ishl, 1) := by decide +kernel
theorem dX0_worldThatComes_84 : decode cX0_worldThatComes 84 = .ok (.ior, 1) := by decide +kernel
theorem dX0_worldThatComes_85 : decode cX0_worldThatComes 85 = .ok (.iaload, 1) := by decide +kernel
theorem dX0_worldThatComes_86 : decode cX0_worldThatComes 86 = .ok (.istore 8, 2) := by decide +kernel
theorem dX0_worldThatComes_88 : decode cX0_worldThatComes 88 = .ok (.aload_n 1, 1) := by decide +kernel
theorem dX0_worldThatComes_89 : decode cX0_worldThatComes 89 = .ok (.getfield 21, 3) := by decide +kernel
theorem dX0_worldThatComes_92 : decode cX0_worldThatComes 92 = .ok (.iload_n 2, 1) := by decide +kernel
theorem dX0_worldThatComes_93 : decode cX0_worldThatComes 93 = .ok (.iaload, 1) := by decide +kernel
theorem dX0_worldThatComes_94 : decode cX0_worldThatComes 94 = .ok (.iload 7, 2) := by decide +kernel
theorem dX0_worldThatComes_96 : decode cX0_worldThatComes 96 = .ok (.ishr, 1) := by decide +kernel
theorem dX0_worldThatComes_97 : decode cX0_worldThatComes 97 = .ok (.iconst 1, 1) := by decide +kernel
theorem dX0_worldThatComes_98 : decode cX0_worldThatComes 98 = .ok (.iand, 1) := by decide +kernel
theorem dX0_worldThatComes_99 : decode cX0_worldThatComes 99 = .ok (.iload 5, 2) := by decide +kernel
theorem dX0_worldThatComes_101 : decode cX0_worldThatComes 101 = .ok (.if_icmp .ne 7, 3) := by decide +kernel
theorem dX0_worldThatComes_104 : decode cX0_worldThatComes 104 = .ok (.iconst 1, 1) := by decide +kernel
theorem dX0_worldThatComes_105 : decode cX0_worldThatComes 105 = .ok (.goto 4, 3) := by decide +kernel
theorem dX0_worldThatComes_108 : decode cX0_worldThatComes 108 = .ok (.iconst 0, 1) := by decide +kernel
theorem dX0_worldThatComes_109 : decode cX0_worldThatComes 109 = .ok (.istore 9, 2) := by decide +kernel
theorem dX0_worldThatComes_111 : decode cX0_worldThatComes 111 = .ok (.aload_n 1, 1) := by decide +kernel
theorem dX0_worldThatComes_112 : decode cX0_worldThatComes 112 = .ok (.getfield 21, 3) := by decide +kernel
theorem dX0_worldThatComes_115 : decode cX0_worldThatComes 115 = .ok (.iload_n 2, 1) := by decide +kernel
theorem dX0_worldThatComes_116 : decode cX0_worldThatComes 116 = .ok (.iaload, 1) := by decide +kernel
theorem dX0_worldThatComes_117 : decode cX0_worldThatComes 117 = .ok (.iload 8, 2) := by decide +kernel
theorem dX0_worldThatComes_119 : decode cX0_worldThatComes 119 = .ok (.ishr, 1) := by decide +kernel
theorem dX0_worldThatComes_120 : decode cX0_worldThatComes 120 = .ok (.iconst 1, 1) := by decide +kernel
theorem dX0_worldThatComes_121 : decode cX0_worldThatComes 121 = .ok (.iand, 1) := by decide +kernel
theorem dX0_worldThatComes_122 : decode cX0_worldThatComes 122 = .ok (.iload 5, 2) := by decide +kernel
theorem dX0_worldThatComes_124 : decode cX0_worldThatComes 124 = .ok (.if_icmp .ne 7, 3) := by decide +kernel
theorem dX0_worldThatComes_127 : decode cX0_worldThatComes 127 = .ok (.iconst 1, 1) := by decide +kernel
theorem dX0_worldThatComes_128 : decode cX0_worldThatComes 128 = .ok (.goto 4, 3) := by decide +kernel
theorem dX0_worldThatComes_131 : decode cX0_worldThatComes 131 = .ok (.iconst 0, 1) := by decide +kernel
theorem dX0_worldThatComes_132 : decode cX0_worldThatComes 132 = .ok (.istore 10, 2) := by decide +kernel
theorem dX0_worldThatComes_134 : decode cX0_worldThatComes 134 = .ok (.aload_n 0, 1) := by decide +kernel
theorem dX0_worldThatComes_135 : decode cX0_worldThatComes 135 = .ok (.getfield 9, 3) := by decide +kernel
theorem dX0_worldThatComes_138 : decode cX0_worldThatComes 138 = .ok (.iload 6, 2) := by decide +kernel
theorem dX0_worldThatComes_140 : decode cX0_worldThatComes 140 = .ok (.iload 9, 2) := by decide +kernel
theorem dX0_worldThatComes_142 : decode cX0_worldThatComes 142 = .ok (.ifCond .ne 13, 3) := by decide +kernel
theorem dX0_worldThatComes_145 : decode cX0_worldThatComes 145 = .ok (.iload 10, 2) := by decide +kernel
theorem dX0_worldThatComes_147 : decode cX0_worldThatComes 147 = .ok (.ifCond .eq 8, 3) := by decide +kernel
theorem dX0_worldThatComes_150 : decode cX0_worldThatComes 150 = .ok (.iload 8, 2) := by decide +kernel
theorem dX0_worldThatComes_152 : decode cX0_worldThatComes 152 = .ok (.goto 5, 3) := by decide +kernel
theorem dX0_worldThatComes_155 : decode cX0_worldThatComes 155 = .ok (.iload 7, 2) := by decide +kernel
theorem dX0_worldThatComes_157 : decode cX0_worldThatComes 157 = .ok (.iastore, 1) := by decide +kernel
theorem dX0_worldThatComes_158 : decode cX0_worldThatComes 158 = .ok (.iinc 6 1, 3) := by decide +kernel
theorem dX0_worldThatComes_161 : decode cX0_worldThatComes 161 = .ok (.goto (-105), 3) := by decide +kernel
theorem dX0_worldThatComes_164 : decode cX0_worldThatComes 164 = .ok (.iinc 4 (-1), 3) := by decide +kernel
theorem dX0_worldThatComes_167 : decode cX0_worldThatComes 167 = .ok (.goto (-134), 3) := by decide +kernel
theorem dX0_worldThatComes_170 : decode cX0_worldThatComes 170 = .ok (.aload_n 0, 1) := by decide +kernel
theorem dX0_worldThatComes_171 : decode cX0_worldThatComes 171 = .ok (.getfield 9, 3) := by decide +kernel
theorem dX0_worldThatComes_174 : decode cX0_worldThatComes 174 = .ok (.iconst 0, 1) := by decide +kernel
theorem dX0_worldThatComes_175 : decode cX0_worldThatComes 175 = .ok (.iaload, 1) := by decide +kernel
theorem dX0_worldThatComes_176 : decode cX0_worldThatComes 176 = .ok (.ireturn, 1) := by decide +kernel
set_option maxRecDepth 4000 in
theorem kX0_worldThatComes (G : GT) {σ : St} {t : Nat} {a2 : Int32} {a3 : Int32} (ht : isTab t) : ∀ (r : Int32) (σo : St) , fX0_worldThatComes σ t a2 a3 = some (r, σo) → MCt G 1 yX0_worldThatComes cX0_worldThatComes 11 (some .int) [.ref (gad G 60), .ref (gad G t), .int a2, .int a3] σ (some (.int r)) σo := by
  intro r σo hF
  refine met_i (by decide) (Nat.le_of_ble_eq_true rfl) (fun X cx hE => ?_)
  have cx : Cx G X RX0 cX0_worldThatComes 11 1 := cx
  have hb155 : ∀ (kr33 : St → Int32 → Int32 → Int32 → Option (Int32 × St)), (∀ (σ : St) (x2 : Int32) (x3 : Int32) (x4 : Int32) , kr33 σ x2 x3 x4 = some (r, σo) → WW G X 11 σ [(0, .ref (gad G 60)), (1, .ref (gad G t)), (2, .int x2), (3, .int x3), (4, .int x4)] 33 []) → ∀ (kr56 : St → Int32 → Int32 → Int32 → Int32 → Int32 → Option (Int32 × St)), (∀ (σ : St) (x2 : Int32) (x3 : Int32) (x4 : Int32) (x5 : Int32) (x6 : Int32) , kr56 σ x2 x3 x4 x5 x6 = some (r, σo) → WW G X 11 σ [(0, .ref (gad G 60)), (1, .ref (gad G t)), (2, .int x2), (3, .int x3), (4, .int x4), (5, .int x5), (6, .int x6)] 56 []) → ∀ (σ : St) (x2 : Int32) (x3 : Int32) (x4 : Int32) (x5 : Int32) (x6 : Int32) (x7 : Int32) (y1 : Int32) , fX0_worldThatComes_b155 t kr33 kr56 σ x2 x3 x4 x5 x6 x7 y1 = some (r, σo) → WW G X 11 σ [(0, .ref (gad G 60)), (1, .ref (gad G t)), (2, .int x2), (3, .int x3), (4, .int x4), (5, .int x5), (6, .int x6), (7, .int x7)] 155 [.int y1, .ref (gad G 61)] := by
    intro kr33 hk33 kr56 hk56
    intro σ x2 x3 x4 x5 x6 x7 y1 hF
    unfold fX0_worldThatComes_b155 at hF
    refine ww_iload cx dX0_worldThatComes_155 7 rfl ?_
    refine ww_iast (N := 16) cx (sh_61) dX0_worldThatComes_157 hF (fun σ1 hF => ?_)
    refine ww_iinc (j := 6) (ks := [0, 1, 2, 3, 4, 5, 6]) (lv' := fun v2 => [(6, .int v2), (0, .ref (gad G 60)), (1, .ref (gad G t)), (2, .int x2), (3, .int x3), (4, .int x4), (5, .int x5)]) cx dX0_worldThatComes_158 (by decide) rfl ic_1 hF (fun _ => rfl) (fun v2 hF => ?_)
    refine ww_goto cx dX0_worldThatComes_161 (tgt := 56) rfl ?_
    exact ww_sub [1, 2, 3, 4, 5, 6, 0] rfl (hk56 _ _ _ _ _ _ hF)
  have hb132 : ∀ (kr33 : St → Int32 → Int32 → Int32 → Option (Int32 × St)), (∀ (σ : St) (x2 : Int32) (x3 : Int32) (x4 : Int32) , kr33 σ x2 x3 x4 = some (r, σo) → WW G X 11 σ [(0, .ref (gad G 60)), (1, .ref (gad G t)), (2, .int x2), (3, .int x3), (4, .int x4)] 33 []) → ∀ (kr56 : St → Int32 → Int32 → Int32 → Int32 → Int32 → Option (Int32 × St)), (∀ (σ : St) (x2 : Int32) (x3 : Int32) (x4 : Int32) (x5 : Int32) (x6 : Int32) , kr56 σ x2 x3 x4 x5 x6 = some (r, σo) → WW G X 11 σ [(0, .ref (gad G 60)), (1, .ref (gad G t)), (2, .int x2), (3, .int x3), (4, .int x4), (5, .int x5), (6, .int x6)] 56 []) → ∀ (σ : St) (x2 : Int32) (x3 : Int32) (x4 : Int32) (x5 : Int32) (x6 : Int32) (x7 : Int32) (x8 : Int32) (x9 : Int32) (y0 : Int32) , fX0_worldThatComes_b132 t kr33 kr56 σ x2 x3 x4 x5 x6 x7 x8 x9 y0 = some (r, σo) → WW G X 11 σ [(0, .ref (gad G 60)), (1, .ref (gad G t)), (2, .int x2), (3, .int x3), (4, .int x4), (5, .int x5), (6, .int x6), (7, .int x7), (8, .int x8), (9, .int x9)] 132 [.int y0] := by
    intro kr33 hk33 kr56 hk56
    intro σ x2 x3 x4 x5 x6 x7 x8 x9 y0 hF
    unfold fX0_worldThatComes_b132 at hF
    refine ww_istore (ks := [0, 1, 2, 3, 4, 5, 6, 7, 8, 9, 10]) (lv' := fun v3 => [(10, .int v3), (0, .ref (gad G 60)), (1, .ref (gad G t)), (2, .int x2), (3, .int x3), (4, .int x4), (5, .int x5), (6, .int x6), (7, .int x7), (8, .int x8), (9, .int x9)]) cx dX0_worldThatComes_132 (by decide) hF (fun _ => rfl) (fun v3 hF => ?_)
    refine ww_aload_n cx dX0_worldThatComes_134 rfl 1 rfl ?_
    refine gf_X0_9 cx dX0_worldThatComes_135 ?_
    refine ww_iload cx dX0_worldThatComes_138 7 rfl ?_
    refine ww_iload cx dX0_worldThatComes_140 10 rfl ?_
    refine ww_if_ne cx dX0_worldThatComes_142 (tgt := 155) rfl hF (fun hF => ?_) (fun hF => ?_)
    · exact ww_sub [1, 2, 3, 4, 5, 6, 7, 8] rfl (hb155 _ hk33 _ hk56 _ _ _ _ _ _ _ _ hF)
    · refine ww_iload cx dX0_worldThatComes_145 0 rfl ?_
      refine ww_if_eq cx dX0_worldThatComes_147 (tgt := 155) rfl hF (fun hF => ?_) (fun hF => ?_)
      · exact ww_sub [1, 2, 3, 4, 5, 6, 7, 8] rfl (hb155 _ hk33 _ hk56 _ _ _ _ _ _ _ _ hF)
      · refine ww_iload cx dX0_worldThatComes_150 9 rfl ?_
        refine ww_goto cx dX0_worldThatComes_152 (tgt := 157) rfl ?_
        refine ww_iast (N := 16) cx (sh_61) dX0_worldThatComes_157 hF (fun σ4 hF => ?_)
        refine ww_iinc (j := 7) (ks := [0, 2, 3, 4, 5, 6, 7]) (lv' := fun v5 => [(6, .int v5), (0, .ref (gad G 60)), (1, .ref (gad G t)), (2, .int x2), (3, .int x3), (4, .int x4), (5, .int x5)]) cx dX0_worldThatComes_158 (by decide) rfl ic_1 hF (fun _ => rfl) (fun v5 hF => ?_)
        refine ww_goto cx dX0_worldThatComes_161 (tgt := 56) rfl ?_
        exact ww_sub [1, 2, 3, 4, 5, 6, 0] rfl (hk56 _ _ _ _ _ _ hF)
  have hb109 : ∀ (kr33 : St → Int32 → Int32 → Int32 → Option (Int32 × St)), (∀ (σ : St) (x2 : Int32) (x3 : Int32) (x4 : Int32) , kr33 σ x2 x3 x4 = some (r, σo) → WW G X 11 σ [(0, .ref (gad G 60)), (1, .ref (gad G t)), (2, .int x2), (3, .int x3), (4, .int x4)] 33 []) → ∀ (kr56 : St → Int32 → Int32 → Int32 → Int32 → Int32 → Option (Int32 × St)), (∀ (σ : St) (x2 : Int32) (x3 : Int32) (x4 : Int32) (x5 : Int32) (x6 : Int32) , kr56 σ x2 x3 x4 x5 x6 = some (r, σo) → WW G X 11 σ [(0, .ref (gad G 60)), (1, .ref (gad G t)), (2, .int x2), (3, .int x3), (4, .int x4), (5, .int x5), (6, .int x6)] 56 []) → ∀ (σ : St) (x2 : Int32) (x3 : Int32) (x4 : Int32) (x5 : Int32) (x6 : Int32) (x7 : Int32) (x8 : Int32) (y0 : Int32) , fX0_worldThatComes_b109 t kr33 kr56 σ x2 x3 x4 x5 x6 x7 x8 y0 = some (r, σo) → WW G X 11 σ [(0, .ref (gad G 60)), (1, .ref (gad G t)), (2, .int x2), (3, .int x3), (4, .int x4), (5, .int x5), (6, .int x6), (7, .int x7), (8, .int x8)] 109 [.int y0] := by
    intro kr33 hk33 kr56 hk56
    intro σ x2 x3 x4 x5 x6 x7 x8 y0 hF
    unfold fX0_worldThatComes_b109 at hF
    refine ww_istore (ks := [0, 1, 2, 3, 4, 5, 6, 7, 8, 9]) (lv' := fun v6 => [(9, .int v6), (0, .ref (gad G 60)), (1, .ref (gad G t)), (2, .int x2), (3, .int x3), (4, .int x4), (5, .int x5), (6, .int x6), (7, .int x7), (8, .int x8)]) cx dX0_worldThatComes_109 (by decide) hF (fun _ => rfl) (fun v6 hF => ?_)
    refine ww_aload_n cx dX0_worldThatComes_111 rfl 2 rfl ?_
    refine gf_X0_21 cx (ht) dX0_worldThatComes_112 ?_
    refine ww_iload_n cx dX0_worldThatComes_115 rfl 3 rfl ?_
    refine ww_iald (N := 12) cx (ar_X6_9 ht) dX0_worldThatComes_116 hF (fun hF => ?_)
    refine ww_iload cx dX0_worldThatComes_117 9 rfl ?_
    refine ww_ishr cx dX0_worldThatComes_119 ?_
    refine ww_iconst cx dX0_worldThatComes_120 ic_1 ?_
    refine ww_iand cx dX0_worldThatComes_121 ?_
    refine ww_iload cx dX0_worldThatComes_122 6 rfl ?_
    refine ww_icmp_ne cx dX0_worldThatComes_124 (tgt := 131) rfl hF (fun hF => ?_) (fun hF => ?_)
    · refine ww_iconst cx dX0_worldThatComes_131 ic_0 ?_
      exact ww_sub [1, 2, 3, 4, 5, 6, 7, 8, 9, 0] rfl (hb132 _ hk33 _ hk56 _ _ _ _ _ _ _ _ _ _ hF)
    · refine ww_iconst cx dX0_worldThatComes_127 ic_1 ?_
      refine ww_goto cx dX0_worldThatComes_128 (tgt := 132) rfl ?_
      exact ww_sub [1, 2, 3, 4, 5, 6, 7, 8, 9, 0] rfl (hb132 _ hk33 _ hk56 _ _ _ _ _ _ _ _ _ _ hF)
  have hl56 : ∀ (kr33 : St → Int32 → Int32 → Int32 → Option (Int32 × St)), (∀ (σ : St) (x2 : Int32) (x3 : Int32) (x4 : Int32) , kr33 σ x2 x3 x4 = some (r, σo) → WW G X 11 σ [(0, .ref (gad G 60)), (1, .ref (gad G t)), (2, .int x2), (3, .int x3), (4, .int x4)] 33 []) → ∀ n : Nat, ∀ (σ : St) (x2 : Int32) (x3 : Int32) (x4 : Int32) (x5 : Int32) (x6 : Int32) , fX0_worldThatComes_l56 t kr33 n σ x2 x3 x4 x5 x6 = some (r, σo) → WW G X 11 σ [(0, .ref (gad G 60)), (1, .ref (gad G t)), (2, .int x2), (3, .int x3), (4, .int x4), (5, .int x5), (6, .int x6)] 56 [] := by
    intro kr33 hk33
    intro n
    induction n with
    | zero =>
      intro σ x2 x3 x4 x5 x6 hF
      exact absurd hF (by intro z; cases z)
    | succ n ih =>
      intro σ x2 x3 x4 x5 x6 hF
      have hk56 := ih
      have hF : fX0_worldThatComes_B56 t kr33 (fX0_worldThatComes_l56 t kr33 n) σ x2 x3 x4 x5 x6 = some (r, σo) := hF
      unfold fX0_worldThatComes_B56 at hF
      refine ww_iload cx dX0_worldThatComes_56 6 rfl ?_
      refine ww_iconst cx dX0_worldThatComes_58 ic_1 ?_
      refine ww_iload cx dX0_worldThatComes_59 4 rfl ?_
      refine ww_ishl cx dX0_worldThatComes_61 ?_
      refine ww_icmp_ge cx dX0_worldThatComes_62 (tgt := 164) rfl hF (fun hF => ?_) (fun hF => ?_)
      · refine ww_iinc (j := 4) (ks := [0, 1, 2, 3, 4]) (lv' := fun v7 => [(4, .int v7), (0, .ref (gad G 60)), (1, .ref (gad G t)), (2, .int x2), (3, .int x3)]) cx dX0_worldThatComes_164 (by decide) rfl ic_m1 hF (fun _ => rfl) (fun v7 hF => ?_)
        refine ww_goto cx dX0_worldThatComes_167 (tgt := 33) rfl ?_
        exact ww_sub [1, 2, 3, 4, 0] rfl (hk33 _ _ _ _ hF)
      · refine ww_aload_n cx dX0_worldThatComes_65 rfl 0 rfl ?_
        refine gf_X0_9 cx dX0_worldThatComes_66 ?_
        refine ww_iload cx dX0_worldThatComes_69 6 rfl ?_
        refine ww_iald (N := 16) cx (sh_61) dX0_worldThatComes_71 hF (fun hF => ?_)
        refine ww_istore (ks := [0, 1, 2, 3, 4, 5, 6, 7]) (lv' := fun v8 => [(7, .int v8), (0, .ref (gad G 60)), (1, .ref (gad G t)), (2, .int x2), (3, .int x3), (4, .int x4), (5, .int x5), (6, .int x6)]) cx dX0_worldThatComes_72 (by decide) hF (fun _ => rfl) (fun v8 hF => ?_)
        refine ww_aload_n cx dX0_worldThatComes_74 rfl 1 rfl ?_
        refine gf_X0_9 cx dX0_worldThatComes_75 ?_
        refine ww_iload cx dX0_worldThatComes_78 7 rfl ?_
        refine ww_iconst cx dX0_worldThatComes_80 ic_1 ?_
        refine ww_iload cx dX0_worldThatComes_81 5 rfl ?_
        refine ww_ishl cx dX0_worldThatComes_83 ?_
        refine ww_ior cx dX0_worldThatComes_84 ?_
        refine ww_iald (N := 16) cx (sh_61) dX0_worldThatComes_85 hF (fun hF => ?_)
        refine ww_istore (ks := [0, 1, 2, 3, 4, 5, 6, 7, 8]) (lv' := fun v9 => [(8, .int v9), (7, .int v8), (0, .ref (gad G 60)), (1, .ref (gad G t)), (2, .int x2), (3, .int x3), (4, .int x4), (5, .int x5), (6, .int x6)]) cx dX0_worldThatComes_86 (by decide) hF (fun _ => rfl) (fun v9 hF => ?_)
        refine ww_aload_n cx dX0_worldThatComes_88 rfl 3 rfl ?_
        refine gf_X0_21 cx (ht) dX0_worldThatComes_89 ?_
        refine ww_iload_n cx dX0_worldThatComes_92 rfl 4 rfl ?_
        refine ww_iald (N := 12) cx (ar_X6_9 ht) dX0_worldThatComes_93 hF (fun hF => ?_)
        refine ww_iload cx dX0_worldThatComes_94 1 rfl ?_
        refine ww_ishr cx dX0_worldThatComes_96 ?_
        refine ww_iconst cx dX0_worldThatComes_97 ic_1 ?_
        refine ww_iand cx dX0_worldThatComes_98 ?_
        refine ww_iload cx dX0_worldThatComes_99 7 rfl ?_
        refine ww_icmp_ne cx dX0_worldThatComes_101 (tgt := 108) rfl hF (fun hF => ?_) (fun hF => ?_)
        · refine ww_iconst cx dX0_worldThatComes_108 ic_0 ?_
          exact ww_sub [2, 3, 4, 5, 6, 7, 8, 1, 0] rfl (hb109 _ hk33 _ hk56 _ _ _ _ _ _ _ _ _ hF)
        · refine ww_iconst cx dX0_worldThatComes_104 ic_1 ?_
          refine ww_goto cx dX0_worldThatComes_105 (tgt := 109) rfl ?_
          exact ww_sub [2, 3, 4, 5, 6, 7, 8, 1, 0] rfl (hb109 _ hk33 _ hk56 _ _ _ _ _ _ _ _ _ hF)
  have hb51 : ∀ (kr33 : St → Int32 → Int32 → Int32 → Option (Int32 × St)), (∀ (σ : St) (x2 : Int32) (x3 : Int32) (x4 : Int32) , kr33 σ x2 x3 x4 = some (r, σo) → WW G X 11 σ [(0, .ref (gad G 60)), (1, .ref (gad G t)), (2, .int x2), (3, .int x3), (4, .int x4)] 33 []) → ∀ (σ : St) (x2 : Int32) (x3 : Int32) (x4 : Int32) (y0 : Int32) , fX0_worldThatComes_b51 t kr33 σ x2 x3 x4 y0 = some (r, σo) → WW G X 11 σ [(0, .ref (gad G 60)), (1, .ref (gad G t)), (2, .int x2), (3, .int x3), (4, .int x4)] 51 [.int y0] := by
    intro kr33 hk33
    intro σ x2 x3 x4 y0 hF
    unfold fX0_worldThatComes_b51 at hF
    refine ww_istore (ks := [0, 1, 2, 3, 4, 5]) (lv' := fun v10 => [(5, .int v10), (0, .ref (gad G 60)), (1, .ref (gad G t)), (2, .int x2), (3, .int x3), (4, .int x4)]) cx dX0_worldThatComes_51 (by decide) hF (fun _ => rfl) (fun v10 hF => ?_)
    refine ww_iconst cx dX0_worldThatComes_53 ic_0 ?_
    refine ww_istore (ks := [0, 1, 2, 3, 4, 5, 6]) (lv' := fun v11 => [(6, .int v11), (5, .int v10), (0, .ref (gad G 60)), (1, .ref (gad G t)), (2, .int x2), (3, .int x3), (4, .int x4)]) cx dX0_worldThatComes_54 (by decide) hF (fun _ => rfl) (fun v11 hF => ?_)
    exact ww_sub [2, 3, 4, 5, 6, 1, 0] rfl (hl56 _ hk33 FU _ _ _ _ _ _ hF)
  have hl33 : ∀ n : Nat, ∀ (σ : St) (x2 : Int32) (x3 : Int32) (x4 : Int32) , fX0_worldThatComes_l33 t n σ x2 x3 x4 = some (r, σo) → WW G X 11 σ [(0, .ref (gad G 60)), (1, .ref (gad G t)), (2, .int x2), (3, .int x3), (4, .int x4)] 33 [] := by
    intro n
    induction n with
    | zero =>
      intro σ x2 x3 x4 hF
      exact absurd hF (by intro z; cases z)
    | succ n ih =>
      intro σ x2 x3 x4 hF
      have hk33 := ih
      have hF : fX0_worldThatComes_B33 t (fX0_worldThatComes_l33 t n) σ x2 x3 x4 = some (r, σo) := hF
      unfold fX0_worldThatComes_B33 at hF
      refine ww_iload cx dX0_worldThatComes_33 4 rfl ?_
      refine ww_if_lt cx dX0_worldThatComes_35 (tgt := 170) rfl hF (fun hF => ?_) (fun hF => ?_)
      · refine ww_aload_n cx dX0_worldThatComes_170 rfl 0 rfl ?_
        refine gf_X0_9 cx dX0_worldThatComes_171 ?_
        refine ww_iconst cx dX0_worldThatComes_174 ic_0 ?_
        refine ww_iald (N := 16) cx (sh_61) dX0_worldThatComes_175 hF (fun hF => ?_)
        exact ww_ris hE dX0_worldThatComes_176 hF
      · refine ww_iload cx dX0_worldThatComes_38 4 rfl ?_
        refine ww_iconst cx dX0_worldThatComes_40 ic_1 ?_
        refine ww_iand cx dX0_worldThatComes_41 ?_
        refine ww_iload_n cx dX0_worldThatComes_42 rfl 3 rfl ?_
        refine ww_icmp_ne cx dX0_worldThatComes_43 (tgt := 50) rfl hF (fun hF => ?_) (fun hF => ?_)
        · refine ww_iconst cx dX0_worldThatComes_50 ic_0 ?_
          exact hb51 _ hk33 _ _ _ _ _ hF
        · refine ww_iconst cx dX0_worldThatComes_46 ic_1 ?_
          refine ww_goto cx dX0_worldThatComes_47 (tgt := 51) rfl ?_
          exact hb51 _ hk33 _ _ _ _ _ hF
  have hl3 : ∀ n : Nat, ∀ (σ : St) (x2 : Int32) (x3 : Int32) (x4 : Int32) , fX0_worldThatComes_l3 t n σ x2 x3 x4 = some (r, σo) → WW G X 11 σ [(0, .ref (gad G 60)), (1, .ref (gad G t)), (2, .int x2), (3, .int x3), (4, .int x4)] 3 [] := by
    intro n
    induction n with
    | zero =>
      intro σ x2 x3 x4 hF
      exact absurd hF (by intro z; cases z)
    | succ n ih =>
      intro σ x2 x3 x4 hF
      have hk3 := ih
      have hF : fX0_worldThatComes_B3 t (fX0_worldThatComes_l3 t n) σ x2 x3 x4 = some (r, σo) := hF
      unfold fX0_worldThatComes_B3 at hF
      refine ww_iload cx dX0_worldThatComes_3 4 rfl ?_
      refine ww_bipush cx dX0_worldThatComes_5 bc_16 ?_
      refine ww_icmp_ge cx dX0_worldThatComes_7 (tgt := 25) rfl hF (fun hF => ?_) (fun hF => ?_)
      · refine ww_aload_n cx dX0_worldThatComes_25 rfl 1 rfl ?_
        refine gf_X0_15 cx (ht) dX0_worldThatComes_26 ?_
        refine ww_iconst cx dX0_worldThatComes_29 ic_1 ?_
        refine ww_isub cx dX0_worldThatComes_30 ?_
        refine ww_istore (ks := [0, 1, 2, 3, 4]) (lv' := fun v12 => [(4, .int v12), (0, .ref (gad G 60)), (1, .ref (gad G t)), (2, .int x2), (3, .int x3)]) cx dX0_worldThatComes_31 (by decide) hF (fun _ => rfl) (fun v12 hF => ?_)
        exact ww_sub [1, 2, 3, 4, 0] rfl (hl33 FU _ _ _ _ hF)
      · refine ww_aload_n cx dX0_worldThatComes_10 rfl 0 rfl ?_
        refine gf_X0_9 cx dX0_worldThatComes_11 ?_
        refine ww_iload cx dX0_worldThatComes_14 4 rfl ?_
        refine ww_iload cx dX0_worldThatComes_16 4 rfl ?_
        refine ww_iast (N := 16) cx (sh_61) dX0_worldThatComes_18 hF (fun σ13 hF => ?_)
        refine ww_iinc (j := 4) (ks := [0, 1, 2, 3, 4]) (lv' := fun v14 => [(4, .int v14), (0, .ref (gad G 60)), (1, .ref (gad G t)), (2, .int x2), (3, .int x3)]) cx dX0_worldThatComes_19 (by decide) rfl ic_1 hF (fun _ => rfl) (fun v14 hF => ?_)
        refine ww_goto cx dX0_worldThatComes_22 (tgt := 3) rfl ?_
        exact ww_sub [1, 2, 3, 4, 0] rfl (hk3 _ _ _ _ hF)
  unfold fX0_worldThatComes at hF
  show WW G X 11 σ [(0, .ref (gad G 60)), (1, .ref (gad G t)), (2, .int a2), (3, .int a3)] 0 []
  refine ww_iconst cx dX0_worldThatComes_0 ic_0 ?_
  refine ww_istore (ks := [0, 1, 2, 3, 4]) (lv' := fun v15 => [(4, .int v15), (0, .ref (gad G 60)), (1, .ref (gad G t)), (2, .int a2), (3, .int a3)]) cx dX0_worldThatComes_1 (by decide) hF (fun _ => rfl) (fun v15 hF => ?_)
  exact ww_sub [1, 2, 3, 4, 0] rfl (hl3 FU _ _ _ _ hF)
theorem dX1_give_0 : decode cX1_give 0 = .ok (.aload_n 0, 1) := by decide +kernel
theorem dX1_give_1 : decode cX1_give 1 = .ok (.dup, 1) := by decide +kernel
theorem dX1_give_2 : decode cX1_give 2 = .ok (.getfield 48, 3) := by decide +kernel
theorem dX1_give_5 : decode cX1_give 5 = .ok (.iconst 1, 1) := by decide +kernel
theorem dX1_give_6 : decode cX1_give 6 = .ok (.iload_n 1, 1) := by decide +kernel
theorem dX1_give_7 : decode cX1_give 7 = .ok (.ishl, 1) := by decide +kernel
theorem dX1_give_8 : decode cX1_give 8 = .ok (.ior, 1) := by decide +kernel
theorem dX1_give_9 : decode cX1_give 9 = .ok (.putfield 48, 3) := by decide +kernel
theorem dX1_give_12 : decode cX1_give 12 = .ok (.aload_n 0, 1) := by decide +kernel
theorem dX1_give_13 : decode cX1_give 13 = .ok (.getfield 15, 3) := by decide +kernel
theorem dX1_give_16 : decode cX1_give 16 = .ok (.iload_n 1, 1) := by decide +kernel
theorem dX1_give_17 : decode cX1_give 17 = .ok (.dup2, 1) := by decide +kernel
theorem dX1_give_18 : decode cX1_give 18 = .ok (.iaload, 1) := by decide +kernel
theorem dX1_give_19 : decode cX1_give 19 = .ok (.iconst 1, 1) := by decide +kernel
theorem dX1_give_20 : decode cX1_give 20 = .ok (.iload_n 2, 1) := by decide +kernel
theorem dX1_give_21 : decode cX1_give 21 = .ok (.ishl, 1) := by decide +kernel
theorem dX1_give_22 : decode cX1_give 22 = .ok (.ior, 1) := by decide +kernel
theorem dX1_give_23 : decode cX1_give 23 = .ok (.iastore, 1) := by decide +kernel
theorem dX1_give_24 : decode cX1_give 24 = .ok (.aload_n 0, 1) := by decide +kernel
theorem dX1_give_25 : decode cX1_give 25 = .ok (.getfield 9, 3) := by decide +kernel
theorem dX1_give_28 : decode cX1_give 28 = .ok (.iload_n 1, 1) := by decide +kernel
theorem dX1_give_29 : decode cX1_give 29 = .ok (.iaload, 1) := by decide +kernel
theorem dX1_give_30 : decode cX1_give 30 = .ok (.iconst (-1), 1) := by decide +kernel
theorem dX1_give_31 : decode cX1_give 31 = .ok (.if_icmp .eq 13, 3) := by decide +kernel
theorem dX1_give_34 : decode cX1_give 34 = .ok (.iload_n 3, 1) := by decide +kernel
theorem dX1_give_35 : decode cX1_give 35 = .ok (.aload_n 0, 1) := by decide +kernel
theorem dX1_give_36 : decode cX1_give 36 = .ok (.getfield 9, 3) := by decide +kernel
theorem dX1_give_39 : decode cX1_give 39 = .ok (.iload_n 1, 1) := by decide +kernel
theorem dX1_give_40 : decode cX1_give 40 = .ok (.iaload, 1) := by decide +kernel
theorem dX1_give_41 : decode cX1_give 41 = .ok (.if_icmp .ge 10, 3) := by decide +kernel
theorem dX1_give_44 : decode cX1_give 44 = .ok (.aload_n 0, 1) := by decide +kernel
theorem dX1_give_45 : decode cX1_give 45 = .ok (.getfield 9, 3) := by decide +kernel
theorem dX1_give_48 : decode cX1_give 48 = .ok (.iload_n 1, 1) := by decide +kernel
theorem dX1_give_49 : decode cX1_give 49 = .ok (.iload_n 3, 1) := by decide +kernel
theorem dX1_give_50 : decode cX1_give 50 = .ok (.iastore, 1) := by decide +kernel
theorem dX1_give_51 : decode cX1_give 51 = .ok (.return_, 1) := by decide +kernel
set_option maxRecDepth 4000 in
theorem kX1_give (G : GT) {σ : St} {a1 : Int32} {a2 : Int32} {a3 : Int32} : ∀ (σo : St) , fX1_give σ a1 a2 a3 = some σo → MCt G 1 yX1_give cX1_give 4 (none) [.ref (gad G 55), .int a1, .int a2, .int a3] σ (none) σo := by
  intro σo hF
  refine met_v (by decide) (Nat.le_of_ble_eq_true rfl) (fun X cx hE => ?_)
  have cx : Cx G X RX1 cX1_give 4 1 := cx
  have hb44 : ∀ (σ : St) (x1 : Int32) (x3 : Int32) , fX1_give_b44 σ x1 x3 = some σo → WW G X 4 σ [(0, .ref (gad G 55)), (1, .int x1), (3, .int x3)] 44 [] := by
    intro σ x1 x3 hF
    unfold fX1_give_b44 at hF
    refine ww_aload_n cx dX1_give_44 rfl 0 rfl ?_
    refine gf_X1_9 cx dX1_give_45 ?_
    refine ww_iload_n cx dX1_give_48 rfl 1 rfl ?_
    refine ww_iload_n cx dX1_give_49 rfl 2 rfl ?_
    refine ww_iast (N := 12) cx (sh_56) dX1_give_50 hF (fun σ1 hF => ?_)
    exact ww_rvs hE dX1_give_51 hF
  unfold fX1_give at hF
  show WW G X 4 σ [(0, .ref (gad G 55)), (1, .int a1), (2, .int a2), (3, .int a3)] 0 []
  refine ww_aload_n cx dX1_give_0 rfl 0 rfl ?_
  refine ww_dup cx dX1_give_1 rfl ?_
  refine gf_X1_48 cx dX1_give_2 ?_
  refine ww_iconst cx dX1_give_5 ic_1 ?_
  refine ww_iload_n cx dX1_give_6 rfl 1 rfl ?_
  refine ww_ishl cx dX1_give_7 ?_
  refine ww_ior cx dX1_give_8 ?_
  refine pf_X1_48 cx dX1_give_9 hF (fun σ2 hF => ?_)
  refine ww_aload_n cx dX1_give_12 rfl 0 rfl ?_
  refine gf_X1_15 cx dX1_give_13 ?_
  refine ww_iload_n cx dX1_give_16 rfl 1 rfl ?_
  refine ww_dup2 cx dX1_give_17 rfl rfl ?_
  refine ww_iald (N := 12) cx (sh_57) dX1_give_18 hF (fun hF => ?_)
  refine ww_iconst cx dX1_give_19 ic_1 ?_
  refine ww_iload_n cx dX1_give_20 rfl 2 rfl ?_
  refine ww_ishl cx dX1_give_21 ?_
  refine ww_ior cx dX1_give_22 ?_
  refine ww_iast (N := 12) cx (sh_57) dX1_give_23 hF (fun σ3 hF => ?_)
  refine ww_aload_n cx dX1_give_24 rfl 0 rfl ?_
  refine gf_X1_9 cx dX1_give_25 ?_
  refine ww_iload_n cx dX1_give_28 rfl 1 rfl ?_
  refine ww_iald (N := 12) cx (sh_56) dX1_give_29 hF (fun hF => ?_)
  refine ww_iconst cx dX1_give_30 ic_m1 ?_
  refine ww_icmp_eq cx dX1_give_31 (tgt := 44) rfl hF (fun hF => ?_) (fun hF => ?_)
  · exact ww_sub [0, 1, 3] rfl (hb44 _ _ _ hF)
  · refine ww_iload_n cx dX1_give_34 rfl 3 rfl ?_
    refine ww_aload_n cx dX1_give_35 rfl 0 rfl ?_
    refine gf_X1_9 cx dX1_give_36 ?_
    refine ww_iload_n cx dX1_give_39 rfl 1 rfl ?_
    refine ww_iald (N := 12) cx (sh_56) dX1_give_40 hF (fun hF => ?_)
    refine ww_icmp_ge cx dX1_give_41 (tgt := 51) rfl hF (fun hF => ?_) (fun hF => ?_)
    · exact ww_rvs hE dX1_give_51 hF
    · exact ww_sub [0, 1, 3] rfl (hb44 _ _ _ hF)
theorem dX1_open_0 : decode cX1_open 0 = .ok (.aload_n 0, 1) := by decide +kernel
theorem dX1_open_1 : decode cX1_open 1 = .ok (.iconst 0, 1) := by decide +kernel
theorem dX1_open_2 : decode cX1_open 2 = .ok (.putfield 42, 3) := by decide +kernel
theorem dX1_open_5 : decode cX1_open 5 = .ok (.aload_n 0, 1) := by decide +kernel
theorem dX1_open_6 : decode cX1_open 6 = .ok (.iconst 0, 1) := by decide +kernel
theorem dX1_open_7 : decode cX1_open 7 = .ok (.putfield 45, 3) := by decide +kernel
theorem dX1_open_10 : decode cX1_open 10 = .ok (.aload_n 0, 1) := by decide +kernel
theorem dX1_open_11 : decode cX1_open 11 = .ok (.iconst 0, 1) := by decide +kernel
theorem dX1_open_12 : decode cX1_open 12 = .ok (.putfield 48, 3) := by decide +kernel
theorem dX1_open_15 : decode cX1_open 15 = .ok (.iconst 0, 1) := by decide +kernel
theorem dX1_open_16 : decode cX1_open 16 = .ok (.istore_n 2, 1) := by decide +kernel
theorem dX1_open_17 : decode cX1_open 17 = .ok (.iload_n 2, 1) := by decide +kernel
theorem dX1_open_18 : decode cX1_open 18 = .ok (.bipush 12, 2) := by decide +kernel
theorem dX1_open_20 : decode cX1_open 20 = .ok (.if_icmp .ge 39, 3) := by decide +kernel
theorem dX1_open_23 : decode cX1_open 23 = .ok (.aload_n 0, 1) := by decide +kernel
theorem dX1_open_24 : decode cX1_open 24 = .ok (.getfield 9, 3) := by decide +kernel
theorem dX1_open_27 : decode cX1_open 27 = .ok (.iload_n 2, 1) := by decide +kernel
theorem dX1_open_28 : decode cX1_open 28 = .ok (.aload_n 1, 1) := by decide +kernel
theorem dX1_open_29 : decode cX1_open 29 = .ok (.getfield 51, 3) := by decide +kernel
theorem dX1_open_32 : decode cX1_open 32 = .ok (.iload_n 2, 1) := by decide +kernel
theorem dX1_open_33 : decode cX1_open 33 = .ok (.ishr, 1) := by decide +kernel
theorem dX1_open_34 : decode cX1_open 34 = .ok (.iconst 1, 1) := by decide +kernel
theorem dX1_open_35 : decode cX1_open 35 = .ok (.iand, 1) := by decide +kernel
theorem dX1_open_36 : decode cX1_open 36 = .ok (.iconst 1, 1) := by decide +kernel
theorem dX1_open_37 : decode cX1_open 37 = .ok (.if_icmp .ne 7, 3) := by decide +kernel
theorem dX1_open_40 : decode cX1_open 40 = .ok (.iconst 0, 1) := by decide +kernel
theorem dX1_open_41 : decode cX1_open 41 = .ok (.goto 4, 3) := by decide +kernel
theorem dX1_open_44 : decode cX1_open 44 = .ok (.iconst (-1), 1) := by decide +kernel
theorem dX1_open_45 : decode cX1_open 45 = .ok (.iastore, 1) := by decide +kernel
theorem dX1_open_46 : decode cX1_open 46 = .ok (.aload_n 0, 1) := by decide +kernel
theorem dX1_open_47 : decode cX1_open 47 = .ok (.getfield 15, 3) := by decide +kernel
theorem dX1_open_50 : decode cX1_open 50 = .ok (.iload_n 2, 1) := by decide +kernel
theorem dX1_open_51 : decode cX1_open 51 = .ok (.iconst 0, 1) := by decide +kernel
theorem dX1_open_52 : decode cX1_open 52 = .ok (.iastore, 1) := by decide +kernel
theorem dX1_open_53 : decode cX1_open 53 = .ok (.iinc 2 1, 3) := by decide +kernel
theorem dX1_open_56 : decode cX1_open 56 = .ok (.goto (-39), 3) := by decide +kernel
theorem dX1_open_59 : decode cX1_open 59 = .ok (.iconst 0, 1) := by decide +kernel
theorem dX1_open_60 : decode cX1_open 60 = .ok (.istore_n 2, 1) := by decide +kernel
theorem dX1_open_61 : decode cX1_open 61 = .ok (.iload_n 2, 1) := by decide +kernel
theorem dX1_open_62 : decode cX1_open 62 = .ok (.iconst 5, 1) := by decide +kernel
theorem dX1_open_63 : decode cX1_open 63 = .ok (.if_icmp .ge 23, 3) := by decide +kernel
theorem dX1_open_66 : decode cX1_open 66 = .ok (.aload_n 0, 1) := by decide +kernel
theorem dX1_open_67 : decode cX1_open 67 = .ok (.getfield 18, 3) := by decide +kernel
theorem dX1_open_70 : decode cX1_open 70 = .ok (.iload_n 2, 1) := by decide +kernel
theorem dX1_open_71 : decode cX1_open 71 = .ok (.iconst 0, 1) := by decide +kernel
theorem dX1_open_72 : decode cX1_open 72 = .ok (.iastore, 1) := by decide +kernel
theorem dX1_open_73 : decode cX1_open 73 = .ok (.aload_n 0, 1) := by decide +kernel
theorem dX1_open_74 : decode cX1_open 74 = .ok (.getfield 21, 3) := by decide +kernel
theorem dX1_open_77 : decode cX1_open 77 = .ok (.iload_n 2, 1) := by decide +kernel
theorem dX1_open_78 : decode cX1_open 78 = .ok (.iconst 0, 1) := by decide +kernel
theorem dX1_open_79 : decode cX1_open 79 = .ok (.iastore, 1) := by decide +kernel
theorem dX1_open_80 : decode cX1_open 80 = .ok (.iinc 2 1, 3) := by decide +kernel
theorem dX1_open_83 : decode cX1_open 83 = .ok (.goto (-22), 3) := by decide +kernel
theorem dX1_open_86 : decode cX1_open 86 = .ok (.return_, 1) := by decide +kernel
set_option maxRecDepth 4000 in
theorem kX1_open (G : GT) {σ : St} {t : Nat} (ht : isTab t) : ∀ (σo : St) , fX1_open σ t = some σo → MCt G 1 yX1_open cX1_open 3 (none) [.ref (gad G 55), .ref (gad G t)] σ (none) σo := by
  intro σo hF
  refine met_v (by decide) (Nat.le_of_ble_eq_true rfl) (fun X cx hE => ?_)
  have cx : Cx G X RX1 cX1_open 3 1 := cx
  have hl61 : ∀ n : Nat, ∀ (σ : St) (x2 : Int32) , fX1_open_l61 t n σ x2 = some σo → WW G X 3 σ [(0, .ref (gad G 55)), (2, .int x2)] 61 [] := by
    intro n
    induction n with
    | zero =>
      intro σ x2 hF
      exact absurd hF (by intro z; cases z)
    | succ n ih =>
      intro σ x2 hF
      have hk61 := ih
      have hF : fX1_open_B61 t (fX1_open_l61 t n) σ x2 = some σo := hF
      unfold fX1_open_B61 at hF
      refine ww_iload_n cx dX1_open_61 rfl 1 rfl ?_
      refine ww_iconst cx dX1_open_62 ic_5 ?_
      refine ww_icmp_ge cx dX1_open_63 (tgt := 86) rfl hF (fun hF => ?_) (fun hF => ?_)
      · exact ww_rvs hE dX1_open_86 hF
      · refine ww_aload_n cx dX1_open_66 rfl 0 rfl ?_
        refine gf_X1_18 cx dX1_open_67 ?_
        refine ww_iload_n cx dX1_open_70 rfl 1 rfl ?_
        refine ww_iconst cx dX1_open_71 ic_0 ?_
        refine ww_iast (N := 5) cx (sh_58) dX1_open_72 hF (fun σ1 hF => ?_)
        refine ww_aload_n cx dX1_open_73 rfl 0 rfl ?_
        refine gf_X1_21 cx dX1_open_74 ?_
        refine ww_iload_n cx dX1_open_77 rfl 1 rfl ?_
        refine ww_iconst cx dX1_open_78 ic_0 ?_
        refine ww_iast (N := 5) cx (sh_59) dX1_open_79 hF (fun σ2 hF => ?_)
        refine ww_iinc (j := 1) (ks := [0, 1]) (lv' := fun v3 => [(2, .int v3), (0, .ref (gad G 55))]) cx dX1_open_80 (by decide) rfl ic_1 hF (fun _ => rfl) (fun v3 hF => ?_)
        refine ww_goto cx dX1_open_83 (tgt := 61) rfl ?_
        exact ww_sub [1, 0] rfl (hk61 _ _ hF)
  have hb45 : ∀ (kr17 : St → Int32 → Option (St)), (∀ (σ : St) (x2 : Int32) , kr17 σ x2 = some σo → WW G X 3 σ [(0, .ref (gad G 55)), (1, .ref (gad G t)), (2, .int x2)] 17 []) → ∀ (σ : St) (x2 : Int32) (y1 : Int32) (y2 : Int32) , fX1_open_b45 t kr17 σ x2 y1 y2 = some σo → WW G X 3 σ [(0, .ref (gad G 55)), (1, .ref (gad G t)), (2, .int x2)] 45 [.int y2, .int y1, .ref (gad G 56)] := by
    intro kr17 hk17
    intro σ x2 y1 y2 hF
    unfold fX1_open_b45 at hF
    refine ww_iast (N := 12) cx (sh_56) dX1_open_45 hF (fun σ4 hF => ?_)
    refine ww_aload_n cx dX1_open_46 rfl 0 rfl ?_
    refine gf_X1_15 cx dX1_open_47 ?_
    refine ww_iload_n cx dX1_open_50 rfl 2 rfl ?_
    refine ww_iconst cx dX1_open_51 ic_0 ?_
    refine ww_iast (N := 12) cx (sh_57) dX1_open_52 hF (fun σ5 hF => ?_)
    refine ww_iinc (j := 2) (ks := [0, 1, 2]) (lv' := fun v6 => [(2, .int v6), (0, .ref (gad G 55)), (1, .ref (gad G t))]) cx dX1_open_53 (by decide) rfl ic_1 hF (fun _ => rfl) (fun v6 hF => ?_)
    refine ww_goto cx dX1_open_56 (tgt := 17) rfl ?_
    exact ww_sub [1, 2, 0] rfl (hk17 _ _ hF)
  have hl17 : ∀ n : Nat, ∀ (σ : St) (x2 : Int32) , fX1_open_l17 t n σ x2 = some σo → WW G X 3 σ [(0, .ref (gad G 55)), (1, .ref (gad G t)), (2, .int x2)] 17 [] := by
    intro n
    induction n with
    | zero =>
      intro σ x2 hF
      exact absurd hF (by intro z; cases z)
    | succ n ih =>
      intro σ x2 hF
      have hk17 := ih
      have hF : fX1_open_B17 t (fX1_open_l17 t n) σ x2 = some σo := hF
      unfold fX1_open_B17 at hF
      refine ww_iload_n cx dX1_open_17 rfl 2 rfl ?_
      refine ww_bipush cx dX1_open_18 bc_12 ?_
      refine ww_icmp_ge cx dX1_open_20 (tgt := 59) rfl hF (fun hF => ?_) (fun hF => ?_)
      · refine ww_iconst cx dX1_open_59 ic_0 ?_
        refine ww_istore_n (ks := [0, 1]) (lv' := fun v7 => [(2, .int v7), (0, .ref (gad G 55))]) cx dX1_open_60 rfl (by decide) hF (fun _ => rfl) (fun v7 hF => ?_)
        exact ww_sub [1, 0] rfl (hl61 FU _ _ hF)
      · refine ww_aload_n cx dX1_open_23 rfl 0 rfl ?_
        refine gf_X1_9 cx dX1_open_24 ?_
        refine ww_iload_n cx dX1_open_27 rfl 2 rfl ?_
        refine ww_aload_n cx dX1_open_28 rfl 1 rfl ?_
        refine gf_X1_51 cx (ht) dX1_open_29 ?_
        refine ww_iload_n cx dX1_open_32 rfl 2 rfl ?_
        refine ww_ishr cx dX1_open_33 ?_
        refine ww_iconst cx dX1_open_34 ic_1 ?_
        refine ww_iand cx dX1_open_35 ?_
        refine ww_iconst cx dX1_open_36 ic_1 ?_
        refine ww_icmp_ne cx dX1_open_37 (tgt := 44) rfl hF (fun hF => ?_) (fun hF => ?_)
        · refine ww_iconst cx dX1_open_44 ic_m1 ?_
          exact hb45 _ hk17 _ _ _ _ hF
        · refine ww_iconst cx dX1_open_40 ic_0 ?_
          refine ww_goto cx dX1_open_41 (tgt := 45) rfl ?_
          exact hb45 _ hk17 _ _ _ _ hF
  unfold fX1_open at hF
  show WW G X 3 σ [(0, .ref (gad G 55)), (1, .ref (gad G t))] 0 []
  refine ww_aload_n cx dX1_open_0 rfl 0 rfl ?_
  refine ww_iconst cx dX1_open_1 ic_0 ?_
  refine pf_X1_42 cx dX1_open_2 hF (fun σ8 hF => ?_)
  refine ww_aload_n cx dX1_open_5 rfl 0 rfl ?_
  refine ww_iconst cx dX1_open_6 ic_0 ?_
  refine pf_X1_45 cx dX1_open_7 hF (fun σ9 hF => ?_)
  refine ww_aload_n cx dX1_open_10 rfl 0 rfl ?_
  refine ww_iconst cx dX1_open_11 ic_0 ?_
  refine pf_X1_48 cx dX1_open_12 hF (fun σ10 hF => ?_)
  refine ww_iconst cx dX1_open_15 ic_0 ?_
  refine ww_istore_n (ks := [0, 1, 2]) (lv' := fun v11 => [(2, .int v11), (0, .ref (gad G 55)), (1, .ref (gad G t))]) cx dX1_open_16 rfl (by decide) hF (fun _ => rfl) (fun v11 hF => ?_)
  exact ww_sub [1, 2, 0] rfl (hl17 FU _ _ hF)
theorem dX2_append_0 : decode cX2_append 0 = .ok (.bipush 24, 2) := by decide +kernel
theorem dX2_append_2 : decode cX2_append 2 = .ok (.istore_n 2, 1) := by decide +kernel
theorem dX2_append_3 : decode cX2_append 3 = .ok (.iload_n 2, 1) := by decide +kernel
theorem dX2_append_4 : decode cX2_append 4 = .ok (.ifCond .lt 42, 3) := by decide +kernel
theorem dX2_append_7 : decode cX2_append 7 = .ok (.aload_n 0, 1) := by decide +kernel
theorem dX2_append_8 : decode cX2_append 8 = .ok (.getfield 19, 3) := by decide +kernel
theorem dX2_append_11 : decode cX2_append 11 = .ok (.sipush 1600, 3) := by decide +kernel
theorem dX2_append_14 : decode cX2_append 14 = .ok (.if_icmp .ge 32, 3) := by decide +kernel
theorem dX2_append_17 : decode cX2_append 17 = .ok (.aload_n 0, 1) := by decide +kernel
theorem dX2_append_18 : decode cX2_append 18 = .ok (.getfield 9, 3) := by decide +kernel
theorem dX2_append_21 : decode cX2_append 21 = .ok (.aload_n 0, 1) := by decide +kernel
theorem dX2_append_22 : decode cX2_append 22 = .ok (.getfield 19, 3) := by decide +kernel
theorem dX2_append_25 : decode cX2_append 25 = .ok (.iload_n 1, 1) := by decide +kernel
theorem dX2_append_26 : decode cX2_append 26 = .ok (.iload_n 2, 1) := by decide +kernel
theorem dX2_append_27 : decode cX2_append 27 = .ok (.ishr, 1) := by decide +kernel
theorem dX2_append_28 : decode cX2_append 28 = .ok (.i2b, 1) := by decide +kernel
theorem dX2_append_29 : decode cX2_append 29 = .ok (.bastore, 1) := by decide +kernel
theorem dX2_append_30 : decode cX2_append 30 = .ok (.aload_n 0, 1) := by decide +kernel
theorem dX2_append_31 : decode cX2_append 31 = .ok (.dup, 1) := by decide +kernel
theorem dX2_append_32 : decode cX2_append 32 = .ok (.getfield 19, 3) := by decide +kernel
theorem dX2_append_35 : decode cX2_append 35 = .ok (.iconst 1, 1) := by decide +kernel
theorem dX2_append_36 : decode cX2_append 36 = .ok (.iadd, 1) := by decide +kernel
theorem dX2_append_37 : decode cX2_append 37 = .ok (.putfield 19, 3) := by decide +kernel
theorem dX2_append_40 : decode cX2_append 40 = .ok (.iinc 2 (-8), 3) := by decide +kernel
theorem dX2_append_43 : decode cX2_append 43 = .ok (.goto (-40), 3) := by decide +kernel
theorem dX2_append_46 : decode cX2_append 46 = .ok (.return_, 1) := by decide +kernel
set_option maxRecDepth 4000 in
theorem kX2_append (G : GT) {σ : St} {a1 : Int32} : ∀ (σo : St) , fX2_append σ a1 = some σo → MCt G 1 yX2_append cX2_append 3 (none) [.ref (gad G 1), .int a1] σ (none) σo := by
  intro σo hF
  refine met_v (by decide) (Nat.le_of_ble_eq_true rfl) (fun X cx hE => ?_)
  have cx : Cx G X RX2 cX2_append 3 1 := cx
  have hl3 : ∀ n : Nat, ∀ (σ : St) (x1 : Int32) (x2 : Int32) , fX2_append_l3 n σ x1 x2 = some σo → WW G X 3 σ [(0, .ref (gad G 1)), (1, .int x1), (2, .int x2)] 3 [] := by
    intro n
    induction n with
    | zero =>
      intro σ x1 x2 hF
      exact absurd hF (by intro z; cases z)
    | succ n ih =>
      intro σ x1 x2 hF
      have hk3 := ih
      have hF : fX2_append_B3 (fX2_append_l3 n) σ x1 x2 = some σo := hF
      unfold fX2_append_B3 at hF
      refine ww_iload_n cx dX2_append_3 rfl 2 rfl ?_
      refine ww_if_lt cx dX2_append_4 (tgt := 46) rfl hF (fun hF => ?_) (fun hF => ?_)
      · exact ww_rvs hE dX2_append_46 hF
      · refine ww_aload_n cx dX2_append_7 rfl 0 rfl ?_
        refine gf_X2_19 cx dX2_append_8 ?_
        refine ww_sipush cx dX2_append_11 sc_1600 ?_
        refine ww_icmp_ge cx dX2_append_14 (tgt := 46) rfl hF (fun hF => ?_) (fun hF => ?_)
        · exact ww_rvs hE dX2_append_46 hF
        · refine ww_aload_n cx dX2_append_17 rfl 0 rfl ?_
          refine gf_X2_9 cx dX2_append_18 ?_
          refine ww_aload_n cx dX2_append_21 rfl 0 rfl ?_
          refine gf_X2_19 cx dX2_append_22 ?_
          refine ww_iload_n cx dX2_append_25 rfl 1 rfl ?_
          refine ww_iload_n cx dX2_append_26 rfl 2 rfl ?_
          refine ww_ishr cx dX2_append_27 ?_
          refine ww_i2b cx dX2_append_28 ?_
          refine ww_bast (N := 1600) cx (sh_2) dX2_append_29 hF (fun σ1 hF => ?_)
          refine ww_aload_n cx dX2_append_30 rfl 0 rfl ?_
          refine ww_dup cx dX2_append_31 rfl ?_
          refine gf_X2_19 cx dX2_append_32 ?_
          refine ww_iconst cx dX2_append_35 ic_1 ?_
          refine ww_iadd cx dX2_append_36 ?_
          refine pf_X2_19 cx dX2_append_37 hF (fun σ2 hF => ?_)
          refine ww_iinc (j := 2) (ks := [0, 1, 2]) (lv' := fun v3 => [(2, .int v3), (0, .ref (gad G 1)), (1, .int x1)]) cx dX2_append_40 (by decide) rfl ic_m8 hF (fun _ => rfl) (fun v3 hF => ?_)
          refine ww_goto cx dX2_append_43 (tgt := 3) rfl ?_
          exact ww_sub [1, 2, 0] rfl (hk3 _ _ _ hF)
  unfold fX2_append at hF
  show WW G X 3 σ [(0, .ref (gad G 1)), (1, .int a1)] 0 []
  refine ww_bipush cx dX2_append_0 bc_24 ?_
  refine ww_istore_n (ks := [0, 1, 2]) (lv' := fun v4 => [(2, .int v4), (0, .ref (gad G 1)), (1, .int a1)]) cx dX2_append_2 rfl (by decide) hF (fun _ => rfl) (fun v4 hF => ?_)
  exact ww_sub [1, 2, 0] rfl (hl3 FU _ _ _ hF)
theorem dX2_fail_0 : decode cX2_fail 0 = .ok (.aload_n 0, 1) := by decide +kernel
theorem dX2_fail_1 : decode cX2_fail 1 = .ok (.iload_n 1, 1) := by decide +kernel
theorem dX2_fail_2 : decode cX2_fail 2 = .ok (.putfield 27, 3) := by decide +kernel
theorem dX2_fail_5 : decode cX2_fail 5 = .ok (.aload_n 0, 1) := by decide +kernel
theorem dX2_fail_6 : decode cX2_fail 6 = .ok (.aload_n 0, 1) := by decide +kernel
theorem dX2_fail_7 : decode cX2_fail 7 = .ok (.getfield 177, 3) := by decide +kernel
theorem dX2_fail_10 : decode cX2_fail 10 = .ok (.putfield 15, 3) := by decide +kernel
theorem dX2_fail_13 : decode cX2_fail 13 = .ok (.iconst 0, 1) := by decide +kernel
theorem dX2_fail_14 : decode cX2_fail 14 = .ok (.ireturn, 1) := by decide +kernel
set_option maxRecDepth 4000 in
theorem kX2_fail (G : GT) {σ : St} {a1 : Int32} : ∀ (r : Int32) (σo : St) , fX2_fail σ a1 = some (r, σo) → MCt G 1 yX2_fail cX2_fail 2 (some .boolean) [.ref (gad G 1), .int a1] σ (some (.int r)) σo := by
  intro r σo hF
  refine met_zz (by decide) (Nat.le_of_ble_eq_true rfl) (fun X cx hE => ?_)
  have cx : Cx G X RX2 cX2_fail 2 1 := cx
  unfold fX2_fail at hF
  show WW G X 2 σ [(0, .ref (gad G 1)), (1, .int a1)] 0 []
  refine ww_aload_n cx dX2_fail_0 rfl 0 rfl ?_
  refine ww_iload_n cx dX2_fail_1 rfl 1 rfl ?_
  refine pf_X2_27 cx dX2_fail_2 hF (fun σ1 hF => ?_)
  refine ww_aload_n cx dX2_fail_5 rfl 0 rfl ?_
  refine ww_aload_n cx dX2_fail_6 rfl 0 rfl ?_
  refine gf_X2_177 cx dX2_fail_7 ?_
  refine pf_X2_15 cx dX2_fail_10 hF (fun σ2 hF => ?_)
  refine ww_iconst cx dX2_fail_13 ic_0 ?_
  exact ww_rzs hE dX2_fail_14 hF
theorem dX2_isNumberOf_0 : decode cX2_isNumberOf 0 = .ok (.aload_n 0, 1) := by decide +kernel
theorem dX2_isNumberOf_1 : decode cX2_isNumberOf 1 = .ok (.getfield 36, 3) := by decide +kernel
theorem dX2_isNumberOf_4 : decode cX2_isNumberOf 4 = .ok (.iconst 2, 1) := by decide +kernel
theorem dX2_isNumberOf_5 : decode cX2_isNumberOf 5 = .ok (.if_icmp .ne 15, 3) := by decide +kernel
theorem dX2_isNumberOf_8 : decode cX2_isNumberOf 8 = .ok (.aload_n 0, 1) := by decide +kernel
theorem dX2_isNumberOf_9 : decode cX2_isNumberOf 9 = .ok (.getfield 122, 3) := by decide +kernel
theorem dX2_isNumberOf_12 : decode cX2_isNumberOf 12 = .ok (.iload_n 1, 1) := by decide +kernel
theorem dX2_isNumberOf_13 : decode cX2_isNumberOf 13 = .ok (.if_icmp .ge 7, 3) := by decide +kernel
theorem dX2_isNumberOf_16 : decode cX2_isNumberOf 16 = .ok (.iconst 1, 1) := by decide +kernel
theorem dX2_isNumberOf_17 : decode cX2_isNumberOf 17 = .ok (.goto 4, 3) := by decide +kernel
theorem dX2_isNumberOf_20 : decode cX2_isNumberOf 20 = .ok (.iconst 0, 1) := by decide +kernel
theorem dX2_isNumberOf_21 : decode cX2_isNumberOf 21 = .ok (.ireturn, 1) := by decide +kernel
set_option maxRecDepth 4000 in
theorem kX2_isNumberOf (G : GT) {σ : St} {a1 : Int32} : ∀ (r : Int32) , fX2_isNumberOf σ a1 = some r → MCt G 1 yX2_isNumberOf cX2_isNumberOf 2 (some .boolean) [.ref (gad G 1), .int a1] σ (some (.int r)) σ := by
  intro r hF
  refine met_zz (by decide) (Nat.le_of_ble_eq_true rfl) (fun X cx hE => ?_)
  have cx : Cx G X RX2 cX2_isNumberOf 2 1 := cx
  unfold fX2_isNumberOf at hF
  show WW G X 2 σ [(0, .ref (gad G 1)), (1, .int a1)] 0 []
  refine ww_aload_n cx dX2_isNumberOf_0 rfl 0 rfl ?_
  refine gf_X2_36 cx dX2_isNumberOf_1 ?_
  refine ww_iconst cx dX2_isNumberOf_4 ic_2 ?_
  refine ww_icmp_ne cx dX2_isNumberOf_5 (tgt := 20) rfl hF (fun hF => ?_) (fun hF => ?_)
  · refine ww_iconst cx dX2_isNumberOf_20 ic_0 ?_
    exact ww_rzp hE dX2_isNumberOf_21 hF
  · refine ww_aload_n cx dX2_isNumberOf_8 rfl 0 rfl ?_
    refine gf_X2_122 cx dX2_isNumberOf_9 ?_
    refine ww_iload_n cx dX2_isNumberOf_12 rfl 1 rfl ?_
    refine ww_icmp_ge cx dX2_isNumberOf_13 (tgt := 20) rfl hF (fun hF => ?_) (fun hF => ?_)
    · refine ww_iconst cx dX2_isNumberOf_20 ic_0 ?_
      exact ww_rzp hE dX2_isNumberOf_21 hF
    · refine ww_iconst cx dX2_isNumberOf_16 ic_1 ?_
      refine ww_goto cx dX2_isNumberOf_17 (tgt := 21) rfl ?_
      exact ww_rzp hE dX2_isNumberOf_21 hF
theorem dX2_kindAt_0 : decode cX2_kindAt 0 = .ok (.iload_n 1, 1) := by decide +kernel
theorem dX2_kindAt_1 : decode cX2_kindAt 1 = .ok (.aload_n 0, 1) := by decide +kernel
theorem dX2_kindAt_2 : decode cX2_kindAt 2 = .ok (.getfield 19, 3) := by decide +kernel
theorem dX2_kindAt_5 : decode cX2_kindAt 5 = .ok (.if_icmp .lt 5, 3) := by decide +kernel
theorem dX2_kindAt_8 : decode cX2_kindAt 8 = .ok (.iconst 0, 1) := by decide +kernel
theorem dX2_kindAt_9 : decode cX2_kindAt 9 = .ok (.ireturn, 1) := by decide +kernel
theorem dX2_kindAt_10 : decode cX2_kindAt 10 = .ok (.aload_n 0, 1) := by decide +kernel
theorem dX2_kindAt_11 : decode cX2_kindAt 11 = .ok (.getfield 9, 3) := by decide +kernel
theorem dX2_kindAt_14 : decode cX2_kindAt 14 = .ok (.iload_n 1, 1) := by decide +kernel
theorem dX2_kindAt_15 : decode cX2_kindAt 15 = .ok (.baload, 1) := by decide +kernel
theorem dX2_kindAt_16 : decode cX2_kindAt 16 = .ok (.istore_n 2, 1) := by decide +kernel
theorem dX2_kindAt_17 : decode cX2_kindAt 17 = .ok (.iload_n 2, 1) := by decide +kernel
theorem dX2_kindAt_18 : decode cX2_kindAt 18 = .ok (.bipush 97, 2) := by decide +kernel
theorem dX2_kindAt_20 : decode cX2_kindAt 20 = .ok (.if_icmp .lt 11, 3) := by decide +kernel
theorem dX2_kindAt_23 : decode cX2_kindAt 23 = .ok (.iload_n 2, 1) := by decide +kernel
theorem dX2_kindAt_24 : decode cX2_kindAt 24 = .ok (.bipush 122, 2) := by decide +kernel
theorem dX2_kindAt_26 : decode cX2_kindAt 26 = .ok (.if_icmp .gt 5, 3) := by decide +kernel
theorem dX2_kindAt_29 : decode cX2_kindAt 29 = .ok (.iconst 1, 1) := by decide +kernel
theorem dX2_kindAt_30 : decode cX2_kindAt 30 = .ok (.ireturn, 1) := by decide +kernel
theorem dX2_kindAt_31 : decode cX2_kindAt 31 = .ok (.iload_n 2, 1) := by decide +kernel
theorem dX2_kindAt_32 : decode cX2_kindAt 32 = .ok (.bipush 48, 2) := by decide +kernel
theorem dX2_kindAt_34 : decode cX2_kindAt 34 = .ok (.if_icmp .lt 11, 3) := by decide +kernel
theorem dX2_kindAt_37 : decode cX2_kindAt 37 = .ok (.iload_n 2, 1) := by decide +kernel
theorem dX2_kindAt_38 : decode cX2_kindAt 38 = .ok (.bipush 57, 2) := by decide +kernel
theorem dX2_kindAt_40 : decode cX2_kindAt 40 = .ok (.if_icmp .gt 5, 3) := by decide +kernel
theorem dX2_kindAt_43 : decode cX2_kindAt 43 = .ok (.iconst 2, 1) := by decide +kernel
theorem dX2_kindAt_44 : decode cX2_kindAt 44 = .ok (.ireturn, 1) := by decide +kernel
theorem dX2_kindAt_45 : decode cX2_kindAt 45 = .ok (.iload_n 2, 1) := by decide +kernel
theorem dX2_kindAt_46 : decode cX2_kindAt 46 = .ok (.bipush 59, 2) := by decide +kernel
theorem dX2_kindAt_48 : decode cX2_kindAt 48 = .ok (.if_icmp .ne 7, 3) := by decide +kernel
theorem dX2_kindAt_51 : decode cX2_kindAt 51 = .ok (.iconst 3, 1) := by decide +kernel
theorem dX2_kindAt_52 : decode cX2_kindAt 52 = .ok (.goto 4, 3) := by decide +kernel
theorem dX2_kindAt_55 : decode cX2_kindAt 55 = .ok (.iconst 4, 1) := by decide +kernel
theorem dX2_kindAt_56 : decode cX2_kindAt 56 = .ok (.ireturn, 1) := by decide +kernel
set_option maxRecDepth 4000 in
theorem kX2_kindAt (G : GT) {σ : St} {a1 : Int32} : ∀ (r : Int32) , fX2_kindAt σ a1 = some r → MCt G 1 yX2_kindAt cX2_kindAt 3 (some .int) [.ref (gad G 1), .int a1] σ (some (.int r)) σ := by
  intro r hF
  refine met_i (by decide) (Nat.le_of_ble_eq_true rfl) (fun X cx hE => ?_)
  have cx : Cx G X RX2 cX2_kindAt 3 1 := cx
  have hb45 : ∀ (x2 : Int32) , fX2_kindAt_b45 σ x2 = some r → WW G X 3 σ [(2, .int x2)] 45 [] := by
    intro x2 hF
    unfold fX2_kindAt_b45 at hF
    refine ww_iload_n cx dX2_kindAt_45 rfl 0 rfl ?_
    refine ww_bipush cx dX2_kindAt_46 bc_59 ?_
    refine ww_icmp_ne cx dX2_kindAt_48 (tgt := 55) rfl hF (fun hF => ?_) (fun hF => ?_)
    · refine ww_iconst cx dX2_kindAt_55 ic_4 ?_
      exact ww_rip hE dX2_kindAt_56 hF
    · refine ww_iconst cx dX2_kindAt_51 ic_3 ?_
      refine ww_goto cx dX2_kindAt_52 (tgt := 56) rfl ?_
      exact ww_rip hE dX2_kindAt_56 hF
  have hb31 : ∀ (x2 : Int32) , fX2_kindAt_b31 σ x2 = some r → WW G X 3 σ [(2, .int x2)] 31 [] := by
    intro x2 hF
    unfold fX2_kindAt_b31 at hF
    refine ww_iload_n cx dX2_kindAt_31 rfl 0 rfl ?_
    refine ww_bipush cx dX2_kindAt_32 bc_48 ?_
    refine ww_icmp_lt cx dX2_kindAt_34 (tgt := 45) rfl hF (fun hF => ?_) (fun hF => ?_)
    · exact hb45 _ hF
    · refine ww_iload_n cx dX2_kindAt_37 rfl 0 rfl ?_
      refine ww_bipush cx dX2_kindAt_38 bc_57 ?_
      refine ww_icmp_gt cx dX2_kindAt_40 (tgt := 45) rfl hF (fun hF => ?_) (fun hF => ?_)
      · exact hb45 _ hF
      · refine ww_iconst cx dX2_kindAt_43 ic_2 ?_
        exact ww_rip hE dX2_kindAt_44 hF
  unfold fX2_kindAt at hF
  show WW G X 3 σ [(0, .ref (gad G 1)), (1, .int a1)] 0 []
  refine ww_iload_n cx dX2_kindAt_0 rfl 1 rfl ?_
  refine ww_aload_n cx dX2_kindAt_1 rfl 0 rfl ?_
  refine gf_X2_19 cx dX2_kindAt_2 ?_
  refine ww_icmp_lt cx dX2_kindAt_5 (tgt := 10) rfl hF (fun hF => ?_) (fun hF => ?_)
  · refine ww_aload_n cx dX2_kindAt_10 rfl 0 rfl ?_
    refine gf_X2_9 cx dX2_kindAt_11 ?_
    refine ww_iload_n cx dX2_kindAt_14 rfl 1 rfl ?_
    refine ww_bald (N := 1600) cx (sh_2) dX2_kindAt_15 hF (fun hF => ?_)
    refine ww_istore_n (ks := [0]) (lv' := fun v1 => [(2, .int v1)]) cx dX2_kindAt_16 rfl (by decide) hF (fun _ => rfl) (fun v1 hF => ?_)
    refine ww_iload_n cx dX2_kindAt_17 rfl 0 rfl ?_
    refine ww_bipush cx dX2_kindAt_18 bc_97 ?_
    refine ww_icmp_lt cx dX2_kindAt_20 (tgt := 31) rfl hF (fun hF => ?_) (fun hF => ?_)
    · exact hb31 _ hF
    · refine ww_iload_n cx dX2_kindAt_23 rfl 0 rfl ?_
      refine ww_bipush cx dX2_kindAt_24 bc_122 ?_
      refine ww_icmp_gt cx dX2_kindAt_26 (tgt := 31) rfl hF (fun hF => ?_) (fun hF => ?_)
      · exact hb31 _ hF
      · refine ww_iconst cx dX2_kindAt_29 ic_1 ?_
        exact ww_rip hE dX2_kindAt_30 hF
  · refine ww_iconst cx dX2_kindAt_8 ic_0 ?_
    exact ww_rip hE dX2_kindAt_9 hF
theorem dX3_reasonAgainst_0 : decode cX3_reasonAgainst 0 = .ok (.aload_n 1, 1) := by decide +kernel
theorem dX3_reasonAgainst_1 : decode cX3_reasonAgainst 1 = .ok (.getfield 46, 3) := by decide +kernel
theorem dX3_reasonAgainst_4 : decode cX3_reasonAgainst 4 = .ok (.iload_n 2, 1) := by decide +kernel
theorem dX3_reasonAgainst_5 : decode cX3_reasonAgainst 5 = .ok (.iaload, 1) := by decide +kernel
theorem dX3_reasonAgainst_6 : decode cX3_reasonAgainst 6 = .ok (.aload_n 0, 1) := by decide +kernel
theorem dX3_reasonAgainst_7 : decode cX3_reasonAgainst 7 = .ok (.getfield 27, 3) := by decide +kernel
theorem dX3_reasonAgainst_10 : decode cX3_reasonAgainst 10 = .ok (.iconst (-1), 1) := by decide +kernel
theorem dX3_reasonAgainst_11 : decode cX3_reasonAgainst 11 = .ok (.ixor, 1) := by decide +kernel
theorem dX3_reasonAgainst_12 : decode cX3_reasonAgainst 12 = .ok (.iand, 1) := by decide +kernel
theorem dX3_reasonAgainst_13 : decode cX3_reasonAgainst 13 = .ok (.ifCond .eq 5, 3) := by decide +kernel
theorem dX3_reasonAgainst_16 : decode cX3_reasonAgainst 16 = .ok (.iconst 1, 1) := by decide +kernel
theorem dX3_reasonAgainst_17 : decode cX3_reasonAgainst 17 = .ok (.ireturn, 1) := by decide +kernel
theorem dX3_reasonAgainst_18 : decode cX3_reasonAgainst 18 = .ok (.aload_n 0, 1) := by decide +kernel
theorem dX3_reasonAgainst_19 : decode cX3_reasonAgainst 19 = .ok (.getfield 27, 3) := by decide +kernel
theorem dX3_reasonAgainst_22 : decode cX3_reasonAgainst 22 = .ok (.aload_n 1, 1) := by decide +kernel
theorem dX3_reasonAgainst_23 : decode cX3_reasonAgainst 23 = .ok (.getfield 43, 3) := by decide +kernel
theorem dX3_reasonAgainst_26 : decode cX3_reasonAgainst 26 = .ok (.iload_n 2, 1) := by decide +kernel
theorem dX3_reasonAgainst_27 : decode cX3_reasonAgainst 27 = .ok (.iaload, 1) := by decide +kernel
theorem dX3_reasonAgainst_28 : decode cX3_reasonAgainst 28 = .ok (.ishr, 1) := by decide +kernel
theorem dX3_reasonAgainst_29 : decode cX3_reasonAgainst 29 = .ok (.iconst 1, 1) := by decide +kernel
theorem dX3_reasonAgainst_30 : decode cX3_reasonAgainst 30 = .ok (.iand, 1) := by decide +kernel
theorem dX3_reasonAgainst_31 : decode cX3_reasonAgainst 31 = .ok (.iconst 1, 1) := by decide +kernel
theorem dX3_reasonAgainst_32 : decode cX3_reasonAgainst 32 = .ok (.if_icmp .ne 7, 3) := by decide +kernel
theorem dX3_reasonAgainst_35 : decode cX3_reasonAgainst 35 = .ok (.iconst 2, 1) := by decide +kernel
theorem dX3_reasonAgainst_36 : decode cX3_reasonAgainst 36 = .ok (.goto 4, 3) := by decide +kernel
theorem dX3_reasonAgainst_39 : decode cX3_reasonAgainst 39 = .ok (.iconst 0, 1) := by decide +kernel
theorem dX3_reasonAgainst_40 : decode cX3_reasonAgainst 40 = .ok (.ireturn, 1) := by decide +kernel
set_option maxRecDepth 4000 in
theorem kX3_reasonAgainst (G : GT) {σ : St} {t : Nat} {a2 : Int32} (ht : isTab t) : ∀ (r : Int32) , fX3_reasonAgainst σ t a2 = some r → MCt G 1 yX3_reasonAgainst cX3_reasonAgainst 3 (some .int) [.ref (gad G 53), .ref (gad G t), .int a2] σ (some (.int r)) σ := by
  intro r hF
  refine met_i (by decide) (Nat.le_of_ble_eq_true rfl) (fun X cx hE => ?_)
  have cx : Cx G X RX3 cX3_reasonAgainst 3 1 := cx
  unfold fX3_reasonAgainst at hF
  show WW G X 3 σ [(0, .ref (gad G 53)), (1, .ref (gad G t)), (2, .int a2)] 0 []
  refine ww_aload_n cx dX3_reasonAgainst_0 rfl 1 rfl ?_
  refine gf_X3_46 cx (ht) dX3_reasonAgainst_1 ?_
  refine ww_iload_n cx dX3_reasonAgainst_4 rfl 2 rfl ?_
  refine ww_iald (N := 12) cx (ar_X6_11 ht) dX3_reasonAgainst_5 hF (fun hF => ?_)
  refine ww_aload_n cx dX3_reasonAgainst_6 rfl 0 rfl ?_
  refine gf_X3_27 cx dX3_reasonAgainst_7 ?_
  refine ww_iconst cx dX3_reasonAgainst_10 ic_m1 ?_
  refine ww_ixor cx dX3_reasonAgainst_11 ?_
  refine ww_iand cx dX3_reasonAgainst_12 ?_
  refine ww_if_eq cx dX3_reasonAgainst_13 (tgt := 18) rfl hF (fun hF => ?_) (fun hF => ?_)
  · refine ww_aload_n cx dX3_reasonAgainst_18 rfl 0 rfl ?_
    refine gf_X3_27 cx dX3_reasonAgainst_19 ?_
    refine ww_aload_n cx dX3_reasonAgainst_22 rfl 1 rfl ?_
    refine gf_X3_43 cx (ht) dX3_reasonAgainst_23 ?_
    refine ww_iload_n cx dX3_reasonAgainst_26 rfl 2 rfl ?_
    refine ww_iald (N := 12) cx (ar_X6_10 ht) dX3_reasonAgainst_27 hF (fun hF => ?_)
    refine ww_ishr cx dX3_reasonAgainst_28 ?_
    refine ww_iconst cx dX3_reasonAgainst_29 ic_1 ?_
    refine ww_iand cx dX3_reasonAgainst_30 ?_
    refine ww_iconst cx dX3_reasonAgainst_31 ic_1 ?_
    refine ww_icmp_ne cx dX3_reasonAgainst_32 (tgt := 39) rfl hF (fun hF => ?_) (fun hF => ?_)
    · refine ww_iconst cx dX3_reasonAgainst_39 ic_0 ?_
      exact ww_rip hE dX3_reasonAgainst_40 hF
    · refine ww_iconst cx dX3_reasonAgainst_35 ic_2 ?_
      refine ww_goto cx dX3_reasonAgainst_36 (tgt := 40) rfl ?_
      exact ww_rip hE dX3_reasonAgainst_40 hF
  · refine ww_iconst cx dX3_reasonAgainst_16 ic_1 ?_
    exact ww_rip hE dX3_reasonAgainst_17 hF
theorem dX3_usedForAll_0 : decode cX3_usedForAll 0 = .ok (.iconst 0, 1) := by decide +kernel
theorem dX3_usedForAll_1 : decode cX3_usedForAll 1 = .ok (.istore_n 3, 1) := by decide +kernel
theorem dX3_usedForAll_2 : decode cX3_usedForAll 2 = .ok (.iconst 0, 1) := by decide +kernel
theorem dX3_usedForAll_3 : decode cX3_usedForAll 3 = .ok (.istore 4, 2) := by decide +kernel
theorem dX3_usedForAll_5 : decode cX3_usedForAll 5 = .ok (.iload 4, 2) := by decide +kernel
theorem dX3_usedForAll_7 : decode cX3_usedForAll 7 = .ok (.aload_n 1, 1) := by decide +kernel
theorem dX3_usedForAll_8 : decode cX3_usedForAll 8 = .ok (.getfield 52, 3) := by decide +kernel
theorem dX3_usedForAll_11 : decode cX3_usedForAll 11 = .ok (.if_icmp .ge 29, 3) := by decide +kernel
theorem dX3_usedForAll_14 : decode cX3_usedForAll 14 = .ok (.iload_n 2, 1) := by decide +kernel
theorem dX3_usedForAll_15 : decode cX3_usedForAll 15 = .ok (.iload 4, 2) := by decide +kernel
theorem dX3_usedForAll_17 : decode cX3_usedForAll 17 = .ok (.ishr, 1) := by decide +kernel
theorem dX3_usedForAll_18 : decode cX3_usedForAll 18 = .ok (.iconst 1, 1) := by decide +kernel
theorem dX3_usedForAll_19 : decode cX3_usedForAll 19 = .ok (.iand, 1) := by decide +kernel
theorem dX3_usedForAll_20 : decode cX3_usedForAll 20 = .ok (.iconst 1, 1) := by decide +kernel
theorem dX3_usedForAll_21 : decode cX3_usedForAll 21 = .ok (.if_icmp .ne 13, 3) := by decide +kernel
theorem dX3_usedForAll_24 : decode cX3_usedForAll 24 = .ok (.iload_n 3, 1) := by decide +kernel
theorem dX3_usedForAll_25 : decode cX3_usedForAll 25 = .ok (.aload_n 0, 1) := by decide +kernel
theorem dX3_usedForAll_26 : decode cX3_usedForAll 26 = .ok (.getfield 9, 3) := by decide +kernel
theorem dX3_usedForAll_29 : decode cX3_usedForAll 29 = .ok (.iload 4, 2) := by decide +kernel
theorem dX3_usedForAll_31 : decode cX3_usedForAll 31 = .ok (.iaload, 1) := by decide +kernel
theorem dX3_usedForAll_32 : decode cX3_usedForAll 32 = .ok (.ior, 1) := by decide +kernel
theorem dX3_usedForAll_33 : decode cX3_usedForAll 33 = .ok (.istore_n 3, 1) := by decide +kernel
theorem dX3_usedForAll_34 : decode cX3_usedForAll 34 = .ok (.iinc 4 1, 3) := by decide +kernel
theorem dX3_usedForAll_37 : decode cX3_usedForAll 37 = .ok (.goto (-32), 3) := by decide +kernel
theorem dX3_usedForAll_40 : decode cX3_usedForAll 40 = .ok (.iload_n 3, 1) := by decide +kernel
theorem dX3_usedForAll_41 : decode cX3_usedForAll 41 = .ok (.ireturn, 1) := by decide +kernel
set_option maxRecDepth 4000 in
theorem kX3_usedForAll (G : GT) {σ : St} {t : Nat} {a2 : Int32} (ht : isTab t) : ∀ (r : Int32) , fX3_usedForAll σ t a2 = some r → MCt G 1 yX3_usedForAll cX3_usedForAll 5 (some .int) [.ref (gad G 53), .ref (gad G t), .int a2] σ (some (.int r)) σ := by
  intro r hF
  refine met_i (by decide) (Nat.le_of_ble_eq_true rfl) (fun X cx hE => ?_)
  have cx : Cx G X RX3 cX3_usedForAll 5 1 := cx
  have hl5 : ∀ n : Nat, ∀ (x2 : Int32) (x3 : Int32) (x4 : Int32) , fX3_usedForAll_l5 σ t n x2 x3 x4 = some r → WW G X 5 σ [(0, .ref (gad G 53)), (1, .ref (gad G t)), (2, .int x2), (3, .int x3), (4, .int x4)] 5 [] := by
    intro n
    induction n with
    | zero =>
      intro x2 x3 x4 hF
      exact absurd hF (by intro z; cases z)
    | succ n ih =>
      intro x2 x3 x4 hF
      have hk5 := ih
      have hF : fX3_usedForAll_B5 σ t (fX3_usedForAll_l5 σ t n) x2 x3 x4 = some r := hF
      unfold fX3_usedForAll_B5 at hF
      refine ww_iload cx dX3_usedForAll_5 4 rfl ?_
      refine ww_aload_n cx dX3_usedForAll_7 rfl 1 rfl ?_
      refine gf_X3_52 cx (ht) dX3_usedForAll_8 ?_
      refine ww_icmp_ge cx dX3_usedForAll_11 (tgt := 40) rfl hF (fun hF => ?_) (fun hF => ?_)
      · refine ww_iload_n cx dX3_usedForAll_40 rfl 3 rfl ?_
        exact ww_rip hE dX3_usedForAll_41 hF
      · refine ww_iload_n cx dX3_usedForAll_14 rfl 2 rfl ?_
        refine ww_iload cx dX3_usedForAll_15 4 rfl ?_
        refine ww_ishr cx dX3_usedForAll_17 ?_
        refine ww_iconst cx dX3_usedForAll_18 ic_1 ?_
        refine ww_iand cx dX3_usedForAll_19 ?_
        refine ww_iconst cx dX3_usedForAll_20 ic_1 ?_
        refine ww_icmp_ne cx dX3_usedForAll_21 (tgt := 34) rfl hF (fun hF => ?_) (fun hF => ?_)
        · refine ww_iinc (j := 4) (ks := [0, 1, 2, 3, 4]) (lv' := fun v1 => [(4, .int v1), (0, .ref (gad G 53)), (1, .ref (gad G t)), (2, .int x2), (3, .int x3)]) cx dX3_usedForAll_34 (by decide) rfl ic_1 hF (fun _ => rfl) (fun v1 hF => ?_)
          refine ww_goto cx dX3_usedForAll_37 (tgt := 5) rfl ?_
          exact ww_sub [1, 2, 3, 4, 0] rfl (hk5 _ _ _ hF)
        · refine ww_iload_n cx dX3_usedForAll_24 rfl 3 rfl ?_
          refine ww_aload_n cx dX3_usedForAll_25 rfl 0 rfl ?_
          refine gf_X3_9 cx dX3_usedForAll_26 ?_
          refine ww_iload cx dX3_usedForAll_29 4 rfl ?_
          refine ww_iald (N := 12) cx (sh_54) dX3_usedForAll_31 hF (fun hF => ?_)
          refine ww_ior cx dX3_usedForAll_32 ?_
          refine ww_istore_n (ks := [0, 1, 2, 3, 4]) (lv' := fun v2 => [(3, .int v2), (0, .ref (gad G 53)), (1, .ref (gad G t)), (2, .int x2), (4, .int x4)]) cx dX3_usedForAll_33 rfl (by decide) hF (fun _ => rfl) (fun v2 hF => ?_)
          refine ww_iinc (j := 4) (ks := [0, 1, 2, 3, 4]) (lv' := fun v3 => [(4, .int v3), (3, .int v2), (0, .ref (gad G 53)), (1, .ref (gad G t)), (2, .int x2)]) cx dX3_usedForAll_34 (by decide) rfl ic_1 hF (fun _ => rfl) (fun v3 hF => ?_)
          refine ww_goto cx dX3_usedForAll_37 (tgt := 5) rfl ?_
          exact ww_sub [2, 3, 4, 1, 0] rfl (hk5 _ _ _ hF)
  unfold fX3_usedForAll at hF
  show WW G X 5 σ [(0, .ref (gad G 53)), (1, .ref (gad G t)), (2, .int a2)] 0 []
  refine ww_iconst cx dX3_usedForAll_0 ic_0 ?_
  refine ww_istore_n (ks := [0, 1, 2, 3]) (lv' := fun v4 => [(3, .int v4), (0, .ref (gad G 53)), (1, .ref (gad G t)), (2, .int a2)]) cx dX3_usedForAll_1 rfl (by decide) hF (fun _ => rfl) (fun v4 hF => ?_)
  refine ww_iconst cx dX3_usedForAll_2 ic_0 ?_
  refine ww_istore (ks := [0, 1, 2, 3, 4]) (lv' := fun v5 => [(4, .int v5), (3, .int v4), (0, .ref (gad G 53)), (1, .ref (gad G t)), (2, .int a2)]) cx dX3_usedForAll_3 (by decide) hF (fun _ => rfl) (fun v5 hF => ?_)
  exact ww_sub [2, 3, 4, 1, 0] rfl (hl5 FU _ _ _ hF)
theorem dX4_areAllBelow_0 : decode cX4_areAllBelow 0 = .ok (.iconst 0, 1) := by decide +kernel
theorem dX4_areAllBelow_1 : decode cX4_areAllBelow 1 = .ok (.istore_n 2, 1) := by decide +kernel
theorem dX4_areAllBelow_2 : decode cX4_areAllBelow 2 = .ok (.iload_n 2, 1) := by decide +kernel
theorem dX4_areAllBelow_3 : decode cX4_areAllBelow 3 = .ok (.aload_n 0, 1) := by decide +kernel
theorem dX4_areAllBelow_4 : decode cX4_areAllBelow 4 = .ok (.getfield 23, 3) := by decide +kernel
theorem dX4_areAllBelow_7 : decode cX4_areAllBelow 7 = .ok (.if_icmp .ge 34, 3) := by decide +kernel
theorem dX4_areAllBelow_10 : decode cX4_areAllBelow 10 = .ok (.aload_n 0, 1) := by decide +kernel
theorem dX4_areAllBelow_11 : decode cX4_areAllBelow 11 = .ok (.getfield 9, 3) := by decide +kernel
theorem dX4_areAllBelow_14 : decode cX4_areAllBelow 14 = .ok (.iload_n 2, 1) := by decide +kernel
theorem dX4_areAllBelow_15 : decode cX4_areAllBelow 15 = .ok (.laload, 1) := by decide +kernel
theorem dX4_areAllBelow_16 : decode cX4_areAllBelow 16 = .ok (.lconst 0, 1) := by decide +kernel
theorem dX4_areAllBelow_17 : decode cX4_areAllBelow 17 = .ok (.lcmp, 1) := by decide +kernel
theorem dX4_areAllBelow_18 : decode cX4_areAllBelow 18 = .ok (.ifCond .lt 15, 3) := by decide +kernel
theorem dX4_areAllBelow_21 : decode cX4_areAllBelow 21 = .ok (.aload_n 0, 1) := by decide +kernel
theorem dX4_areAllBelow_22 : decode cX4_areAllBelow 22 = .ok (.getfield 9, 3) := by decide +kernel
theorem dX4_areAllBelow_25 : decode cX4_areAllBelow 25 = .ok (.iload_n 2, 1) := by decide +kernel
theorem dX4_areAllBelow_26 : decode cX4_areAllBelow 26 = .ok (.laload, 1) := by decide +kernel
theorem dX4_areAllBelow_27 : decode cX4_areAllBelow 27 = .ok (.iload_n 1, 1) := by decide +kernel
theorem dX4_areAllBelow_28 : decode cX4_areAllBelow 28 = .ok (.i2l, 1) := by decide +kernel
theorem dX4_areAllBelow_29 : decode cX4_areAllBelow 29 = .ok (.lcmp, 1) := by decide +kernel
theorem dX4_areAllBelow_30 : decode cX4_areAllBelow 30 = .ok (.ifCond .lt 5, 3) := by decide +kernel
theorem dX4_areAllBelow_33 : decode cX4_areAllBelow 33 = .ok (.iconst 0, 1) := by decide +kernel
theorem dX4_areAllBelow_34 : decode cX4_areAllBelow 34 = .ok (.ireturn, 1) := by decide +kernel
theorem dX4_areAllBelow_35 : decode cX4_areAllBelow 35 = .ok (.iinc 2 1, 3) := by decide +kernel
theorem dX4_areAllBelow_38 : decode cX4_areAllBelow 38 = .ok (.goto (-36), 3) := by decide +kernel
theorem dX4_areAllBelow_41 : decode cX4_areAllBelow 41 = .ok (.iconst 1, 1) := by decide +kernel
theorem dX4_areAllBelow_42 : decode cX4_areAllBelow 42 = .ok (.ireturn, 1) := by decide +kernel
set_option maxRecDepth 4000 in
theorem kX4_areAllBelow (G : GT) {σ : St} {w : Nat} {a1 : Int32} (hw : isRow w) : ∀ (r : Int32) , fX4_areAllBelow σ w a1 = some r → MCt G 1 yX4_areAllBelow cX4_areAllBelow 3 (some .boolean) [.ref (gad G w), .int a1] σ (some (.int r)) σ := by
  intro r hF
  refine met_zz (by decide) (Nat.le_of_ble_eq_true rfl) (fun X cx hE => ?_)
  have cx : Cx G X RX4 cX4_areAllBelow 3 1 := cx
  have hl2 : ∀ n : Nat, ∀ (x1 : Int32) (x2 : Int32) , fX4_areAllBelow_l2 σ w n x1 x2 = some r → WW G X 3 σ [(0, .ref (gad G w)), (1, .int x1), (2, .int x2)] 2 [] := by
    intro n
    induction n with
    | zero =>
      intro x1 x2 hF
      exact absurd hF (by intro z; cases z)
    | succ n ih =>
      intro x1 x2 hF
      have hk2 := ih
      have hF : fX4_areAllBelow_B2 σ w (fX4_areAllBelow_l2 σ w n) x1 x2 = some r := hF
      unfold fX4_areAllBelow_B2 at hF
      refine ww_iload_n cx dX4_areAllBelow_2 rfl 2 rfl ?_
      refine ww_aload_n cx dX4_areAllBelow_3 rfl 0 rfl ?_
      refine gf_X4_23 cx (hw) dX4_areAllBelow_4 ?_
      refine ww_icmp_ge cx dX4_areAllBelow_7 (tgt := 41) rfl hF (fun hF => ?_) (fun hF => ?_)
      · refine ww_iconst cx dX4_areAllBelow_41 ic_1 ?_
        exact ww_rzp hE dX4_areAllBelow_42 hF
      · refine ww_aload_n cx dX4_areAllBelow_10 rfl 0 rfl ?_
        refine gf_X4_9 cx (hw) dX4_areAllBelow_11 ?_
        refine ww_iload_n cx dX4_areAllBelow_14 rfl 2 rfl ?_
        refine ww_lald (N := 60) cx (ar_X4_3 hw) dX4_areAllBelow_15 hF (fun hF => ?_)
        refine ww_lconst cx dX4_areAllBelow_16 lc_0 ?_
        refine ww_lcmp cx dX4_areAllBelow_17 ?_
        refine ww_if_lt cx dX4_areAllBelow_18 (tgt := 33) rfl hF (fun hF => ?_) (fun hF => ?_)
        · refine ww_iconst cx dX4_areAllBelow_33 ic_0 ?_
          exact ww_rzp hE dX4_areAllBelow_34 hF
        · refine ww_aload_n cx dX4_areAllBelow_21 rfl 0 rfl ?_
          refine gf_X4_9 cx (hw) dX4_areAllBelow_22 ?_
          refine ww_iload_n cx dX4_areAllBelow_25 rfl 2 rfl ?_
          refine ww_lald (N := 60) cx (ar_X4_3 hw) dX4_areAllBelow_26 hF (fun hF => ?_)
          refine ww_iload_n cx dX4_areAllBelow_27 rfl 1 rfl ?_
          refine ww_i2l cx dX4_areAllBelow_28 ?_
          refine ww_lcmp cx dX4_areAllBelow_29 ?_
          refine ww_if_lt cx dX4_areAllBelow_30 (tgt := 35) rfl hF (fun hF => ?_) (fun hF => ?_)
          · refine ww_iinc (j := 2) (ks := [0, 1, 2]) (lv' := fun v1 => [(2, .int v1), (0, .ref (gad G w)), (1, .int x1)]) cx dX4_areAllBelow_35 (by decide) rfl ic_1 hF (fun _ => rfl) (fun v1 hF => ?_)
            refine ww_goto cx dX4_areAllBelow_38 (tgt := 2) rfl ?_
            exact ww_sub [1, 2, 0] rfl (hk2 _ _ hF)
          · refine ww_iconst cx dX4_areAllBelow_33 ic_0 ?_
            exact ww_rzp hE dX4_areAllBelow_34 hF
  unfold fX4_areAllBelow at hF
  show WW G X 3 σ [(0, .ref (gad G w)), (1, .int a1)] 0 []
  refine ww_iconst cx dX4_areAllBelow_0 ic_0 ?_
  refine ww_istore_n (ks := [0, 1, 2]) (lv' := fun v2 => [(2, .int v2), (0, .ref (gad G w)), (1, .int a1)]) cx dX4_areAllBelow_1 rfl (by decide) hF (fun _ => rfl) (fun v2 hF => ?_)
  exact ww_sub [1, 2, 0] rfl (hl2 FU _ _ hF)
theorem dX4_arePairsBelow_0 : decode cX4_arePairsBelow 0 = .ok (.iconst 0, 1) := by decide +kernel
theorem dX4_arePairsBelow_1 : decode cX4_arePairsBelow 1 = .ok (.istore_n 3, 1) := by decide +kernel
theorem dX4_arePairsBelow_2 : decode cX4_arePairsBelow 2 = .ok (.iload_n 3, 1) := by decide +kernel
theorem dX4_arePairsBelow_3 : decode cX4_arePairsBelow 3 = .ok (.aload_n 0, 1) := by decide +kernel
theorem dX4_arePairsBelow_4 : decode cX4_arePairsBelow 4 = .ok (.getfield 23, 3) := by decide +kernel
theorem dX4_arePairsBelow_7 : decode cX4_arePairsBelow 7 = .ok (.if_icmp .ge 48, 3) := by decide +kernel
theorem dX4_arePairsBelow_10 : decode cX4_arePairsBelow 10 = .ok (.iload_n 3, 1) := by decide +kernel
theorem dX4_arePairsBelow_11 : decode cX4_arePairsBelow 11 = .ok (.iconst 1, 1) := by decide +kernel
theorem dX4_arePairsBelow_12 : decode cX4_arePairsBelow 12 = .ok (.iand, 1) := by decide +kernel
theorem dX4_arePairsBelow_13 : decode cX4_arePairsBelow 13 = .ok (.ifCond .ne 7, 3) := by decide +kernel
theorem dX4_arePairsBelow_16 : decode cX4_arePairsBelow 16 = .ok (.iload_n 1, 1) := by decide +kernel
theorem dX4_arePairsBelow_17 : decode cX4_arePairsBelow 17 = .ok (.goto 4, 3) := by decide +kernel
theorem dX4_arePairsBelow_20 : decode cX4_arePairsBelow 20 = .ok (.iload_n 2, 1) := by decide +kernel
theorem dX4_arePairsBelow_21 : decode cX4_arePairsBelow 21 = .ok (.istore 4, 2) := by decide +kernel
theorem dX4_arePairsBelow_23 : decode cX4_arePairsBelow 23 = .ok (.aload_n 0, 1) := by decide +kernel
theorem dX4_arePairsBelow_24 : decode cX4_arePairsBelow 24 = .ok (.getfield 9, 3) := by decide +kernel
theorem dX4_arePairsBelow_27 : decode cX4_arePairsBelow 27 = .ok (.iload_n 3, 1) := by decide +kernel
theorem dX4_arePairsBelow_28 : decode cX4_arePairsBelow 28 = .ok (.laload, 1) := by decide +kernel
theorem dX4_arePairsBelow_29 : decode cX4_arePairsBelow 29 = .ok (.lconst 0, 1) := by decide +kernel
theorem dX4_arePairsBelow_30 : decode cX4_arePairsBelow 30 = .ok (.lcmp, 1) := by decide +kernel
theorem dX4_arePairsBelow_31 : decode cX4_arePairsBelow 31 = .ok (.ifCond .lt 16, 3) := by decide +kernel
theorem dX4_arePairsBelow_34 : decode cX4_arePairsBelow 34 = .ok (.aload_n 0, 1) := by decide +kernel
theorem dX4_arePairsBelow_35 : decode cX4_arePairsBelow 35 = .ok (.getfield 9, 3) := by decide +kernel
theorem dX4_arePairsBelow_38 : decode cX4_arePairsBelow 38 = .ok (.iload_n 3, 1) := by decide +kernel
theorem dX4_arePairsBelow_39 : decode cX4_arePairsBelow 39 = .ok (.laload, 1) := by decide +kernel
theorem dX4_arePairsBelow_40 : decode cX4_arePairsBelow 40 = .ok (.iload 4, 2) := by decide +kernel
theorem dX4_arePairsBelow_42 : decode cX4_arePairsBelow 42 = .ok (.i2l, 1) := by decide +kernel
theorem dX4_arePairsBelow_43 : decode cX4_arePairsBelow 43 = .ok (.lcmp, 1) := by decide +kernel
theorem dX4_arePairsBelow_44 : decode cX4_arePairsBelow 44 = .ok (.ifCond .lt 5, 3) := by decide +kernel
theorem dX4_arePairsBelow_47 : decode cX4_arePairsBelow 47 = .ok (.iconst 0, 1) := by decide +kernel
theorem dX4_arePairsBelow_48 : decode cX4_arePairsBelow 48 = .ok (.ireturn, 1) := by decide +kernel
theorem dX4_arePairsBelow_49 : decode cX4_arePairsBelow 49 = .ok (.iinc 3 1, 3) := by decide +kernel
theorem dX4_arePairsBelow_52 : decode cX4_arePairsBelow 52 = .ok (.goto (-50), 3) := by decide +kernel
theorem dX4_arePairsBelow_55 : decode cX4_arePairsBelow 55 = .ok (.aload_n 0, 1) := by decide +kernel
theorem dX4_arePairsBelow_56 : decode cX4_arePairsBelow 56 = .ok (.getfield 23, 3) := by decide +kernel
theorem dX4_arePairsBelow_59 : decode cX4_arePairsBelow 59 = .ok (.iconst 1, 1) := by decide +kernel
theorem dX4_arePairsBelow_60 : decode cX4_arePairsBelow 60 = .ok (.iand, 1) := by decide +kernel
theorem dX4_arePairsBelow_61 : decode cX4_arePairsBelow 61 = .ok (.ifCond .ne 7, 3) := by decide +kernel
theorem dX4_arePairsBelow_64 : decode cX4_arePairsBelow 64 = .ok (.iconst 1, 1) := by decide +kernel
theorem dX4_arePairsBelow_65 : decode cX4_arePairsBelow 65 = .ok (.goto 4, 3) := by decide +kernel
theorem dX4_arePairsBelow_68 : decode cX4_arePairsBelow 68 = .ok (.iconst 0, 1) := by decide +kernel
theorem dX4_arePairsBelow_69 : decode cX4_arePairsBelow 69 = .ok (.ireturn, 1) := by decide +kernel
set_option maxRecDepth 4000 in
theorem kX4_arePairsBelow (G : GT) {σ : St} {w : Nat} {a1 : Int32} {a2 : Int32} (hw : isRow w) : ∀ (r : Int32) , fX4_arePairsBelow σ w a1 a2 = some r → MCt G 1 yX4_arePairsBelow cX4_arePairsBelow 5 (some .boolean) [.ref (gad G w), .int a1, .int a2] σ (some (.int r)) σ := by
  intro r hF
  refine met_zz (by decide) (Nat.le_of_ble_eq_true rfl) (fun X cx hE => ?_)
  have cx : Cx G X RX4 cX4_arePairsBelow 5 1 := cx
  have hb21 : ∀ (kr2 : Int32 → Int32 → Int32 → Option (Int32)), (∀ (x1 : Int32) (x2 : Int32) (x3 : Int32) , kr2 x1 x2 x3 = some r → WW G X 5 σ [(0, .ref (gad G w)), (1, .int x1), (2, .int x2), (3, .int x3)] 2 []) → ∀ (x1 : Int32) (x2 : Int32) (x3 : Int32) (y0 : Int32) , fX4_arePairsBelow_b21 σ w kr2 x1 x2 x3 y0 = some r → WW G X 5 σ [(0, .ref (gad G w)), (1, .int x1), (2, .int x2), (3, .int x3)] 21 [.int y0] := by
    intro kr2 hk2
    intro x1 x2 x3 y0 hF
    unfold fX4_arePairsBelow_b21 at hF
    refine ww_istore (ks := [0, 1, 2, 3, 4]) (lv' := fun v1 => [(4, .int v1), (0, .ref (gad G w)), (1, .int x1), (2, .int x2), (3, .int x3)]) cx dX4_arePairsBelow_21 (by decide) hF (fun _ => rfl) (fun v1 hF => ?_)
    refine ww_aload_n cx dX4_arePairsBelow_23 rfl 1 rfl ?_
    refine gf_X4_9 cx (hw) dX4_arePairsBelow_24 ?_
    refine ww_iload_n cx dX4_arePairsBelow_27 rfl 4 rfl ?_
    refine ww_lald (N := 60) cx (ar_X4_3 hw) dX4_arePairsBelow_28 hF (fun hF => ?_)
    refine ww_lconst cx dX4_arePairsBelow_29 lc_0 ?_
    refine ww_lcmp cx dX4_arePairsBelow_30 ?_
    refine ww_if_lt cx dX4_arePairsBelow_31 (tgt := 47) rfl hF (fun hF => ?_) (fun hF => ?_)
    · refine ww_iconst cx dX4_arePairsBelow_47 ic_0 ?_
      exact ww_rzp hE dX4_arePairsBelow_48 hF
    · refine ww_aload_n cx dX4_arePairsBelow_34 rfl 1 rfl ?_
      refine gf_X4_9 cx (hw) dX4_arePairsBelow_35 ?_
      refine ww_iload_n cx dX4_arePairsBelow_38 rfl 4 rfl ?_
      refine ww_lald (N := 60) cx (ar_X4_3 hw) dX4_arePairsBelow_39 hF (fun hF => ?_)
      refine ww_iload cx dX4_arePairsBelow_40 0 rfl ?_
      refine ww_i2l cx dX4_arePairsBelow_42 ?_
      refine ww_lcmp cx dX4_arePairsBelow_43 ?_
      refine ww_if_lt cx dX4_arePairsBelow_44 (tgt := 49) rfl hF (fun hF => ?_) (fun hF => ?_)
      · refine ww_iinc (j := 4) (ks := [0, 2, 3, 4]) (lv' := fun v2 => [(3, .int v2), (0, .ref (gad G w)), (1, .int x1), (2, .int x2)]) cx dX4_arePairsBelow_49 (by decide) rfl ic_1 hF (fun _ => rfl) (fun v2 hF => ?_)
        refine ww_goto cx dX4_arePairsBelow_52 (tgt := 2) rfl ?_
        exact ww_sub [1, 2, 3, 0] rfl (hk2 _ _ _ hF)
      · refine ww_iconst cx dX4_arePairsBelow_47 ic_0 ?_
        exact ww_rzp hE dX4_arePairsBelow_48 hF
  have hl2 : ∀ n : Nat, ∀ (x1 : Int32) (x2 : Int32) (x3 : Int32) , fX4_arePairsBelow_l2 σ w n x1 x2 x3 = some r → WW G X 5 σ [(0, .ref (gad G w)), (1, .int x1), (2, .int x2), (3, .int x3)] 2 [] := by
    intro n
    induction n with
    | zero =>
      intro x1 x2 x3 hF
      exact absurd hF (by intro z; cases z)
    | succ n ih =>
      intro x1 x2 x3 hF
      have hk2 := ih
      have hF : fX4_arePairsBelow_B2 σ w (fX4_arePairsBelow_l2 σ w n) x1 x2 x3 = some r := hF
      unfold fX4_arePairsBelow_B2 at hF
      refine ww_iload_n cx dX4_arePairsBelow_2 rfl 3 rfl ?_
      refine ww_aload_n cx dX4_arePairsBelow_3 rfl 0 rfl ?_
      refine gf_X4_23 cx (hw) dX4_arePairsBelow_4 ?_
      refine ww_icmp_ge cx dX4_arePairsBelow_7 (tgt := 55) rfl hF (fun hF => ?_) (fun hF => ?_)
      · refine ww_aload_n cx dX4_arePairsBelow_55 rfl 0 rfl ?_
        refine gf_X4_23 cx (hw) dX4_arePairsBelow_56 ?_
        refine ww_iconst cx dX4_arePairsBelow_59 ic_1 ?_
        refine ww_iand cx dX4_arePairsBelow_60 ?_
        refine ww_if_ne cx dX4_arePairsBelow_61 (tgt := 68) rfl hF (fun hF => ?_) (fun hF => ?_)
        · refine ww_iconst cx dX4_arePairsBelow_68 ic_0 ?_
          exact ww_rzp hE dX4_arePairsBelow_69 hF
        · refine ww_iconst cx dX4_arePairsBelow_64 ic_1 ?_
          refine ww_goto cx dX4_arePairsBelow_65 (tgt := 69) rfl ?_
          exact ww_rzp hE dX4_arePairsBelow_69 hF
      · refine ww_iload_n cx dX4_arePairsBelow_10 rfl 3 rfl ?_
        refine ww_iconst cx dX4_arePairsBelow_11 ic_1 ?_
        refine ww_iand cx dX4_arePairsBelow_12 ?_
        refine ww_if_ne cx dX4_arePairsBelow_13 (tgt := 20) rfl hF (fun hF => ?_) (fun hF => ?_)
        · refine ww_iload_n cx dX4_arePairsBelow_20 rfl 2 rfl ?_
          exact hb21 _ hk2 _ _ _ _ hF
        · refine ww_iload_n cx dX4_arePairsBelow_16 rfl 1 rfl ?_
          refine ww_goto cx dX4_arePairsBelow_17 (tgt := 21) rfl ?_
          exact hb21 _ hk2 _ _ _ _ hF
  unfold fX4_arePairsBelow at hF
  show WW G X 5 σ [(0, .ref (gad G w)), (1, .int a1), (2, .int a2)] 0 []
  refine ww_iconst cx dX4_arePairsBelow_0 ic_0 ?_
  refine ww_istore_n (ks := [0, 1, 2, 3]) (lv' := fun v3 => [(3, .int v3), (0, .ref (gad G w)), (1, .int a1), (2, .int a2)]) cx dX4_arePairsBelow_1 rfl (by decide) hF (fun _ => rfl) (fun v3 hF => ?_)
  exact ww_sub [1, 2, 3, 0] rfl (hl2 FU _ _ _ hF)
theorem dX4_asSet_0 : decode cX4_asSet 0 = .ok (.iconst 0, 1) := by decide +kernel
theorem dX4_asSet_1 : decode cX4_asSet 1 = .ok (.istore_n 1, 1) := by decide +kernel
theorem dX4_asSet_2 : decode cX4_asSet 2 = .ok (.iconst 0, 1) := by decide +kernel
theorem dX4_asSet_3 : decode cX4_asSet 3 = .ok (.istore_n 2, 1) := by decide +kernel
theorem dX4_asSet_4 : decode cX4_asSet 4 = .ok (.iload_n 2, 1) := by decide +kernel
theorem dX4_asSet_5 : decode cX4_asSet 5 = .ok (.aload_n 0, 1) := by decide +kernel
theorem dX4_asSet_6 : decode cX4_asSet 6 = .ok (.getfield 23, 3) := by decide +kernel
theorem dX4_asSet_9 : decode cX4_asSet 9 = .ok (.if_icmp .ge 21, 3) := by decide +kernel
theorem dX4_asSet_12 : decode cX4_asSet 12 = .ok (.iload_n 1, 1) := by decide +kernel
theorem dX4_asSet_13 : decode cX4_asSet 13 = .ok (.iconst 1, 1) := by decide +kernel
theorem dX4_asSet_14 : decode cX4_asSet 14 = .ok (.aload_n 0, 1) := by decide +kernel
theorem dX4_asSet_15 : decode cX4_asSet 15 = .ok (.getfield 9, 3) := by decide +kernel
theorem dX4_asSet_18 : decode cX4_asSet 18 = .ok (.iload_n 2, 1) := by decide +kernel
theorem dX4_asSet_19 : decode cX4_asSet 19 = .ok (.laload, 1) := by decide +kernel
theorem dX4_asSet_20 : decode cX4_asSet 20 = .ok (.l2i, 1) := by decide +kernel
theorem dX4_asSet_21 : decode cX4_asSet 21 = .ok (.ishl, 1) := by decide +kernel
theorem dX4_asSet_22 : decode cX4_asSet 22 = .ok (.ior, 1) := by decide +kernel
theorem dX4_asSet_23 : decode cX4_asSet 23 = .ok (.istore_n 1, 1) := by decide +kernel
theorem dX4_asSet_24 : decode cX4_asSet 24 = .ok (.iinc 2 1, 3) := by decide +kernel
theorem dX4_asSet_27 : decode cX4_asSet 27 = .ok (.goto (-23), 3) := by decide +kernel
theorem dX4_asSet_30 : decode cX4_asSet 30 = .ok (.iload_n 1, 1) := by decide +kernel
theorem dX4_asSet_31 : decode cX4_asSet 31 = .ok (.ireturn, 1) := by decide +kernel
set_option maxRecDepth 4000 in
theorem kX4_asSet (G : GT) {σ : St} {w : Nat} (hw : isRow w) : ∀ (r : Int32) , fX4_asSet σ w = some r → MCt G 1 yX4_asSet cX4_asSet 3 (some .int) [.ref (gad G w)] σ (some (.int r)) σ := by
  intro r hF
  refine met_i (by decide) (Nat.le_of_ble_eq_true rfl) (fun X cx hE => ?_)
  have cx : Cx G X RX4 cX4_asSet 3 1 := cx
  have hl4 : ∀ n : Nat, ∀ (x1 : Int32) (x2 : Int32) , fX4_asSet_l4 σ w n x1 x2 = some r → WW G X 3 σ [(0, .ref (gad G w)), (1, .int x1), (2, .int x2)] 4 [] := by
    intro n
    induction n with
    | zero =>
      intro x1 x2 hF
      exact absurd hF (by intro z; cases z)
    | succ n ih =>
      intro x1 x2 hF
      have hk4 := ih
      have hF : fX4_asSet_B4 σ w (fX4_asSet_l4 σ w n) x1 x2 = some r := hF
      unfold fX4_asSet_B4 at hF
      refine ww_iload_n cx dX4_asSet_4 rfl 2 rfl ?_
      refine ww_aload_n cx dX4_asSet_5 rfl 0 rfl ?_
      refine gf_X4_23 cx (hw) dX4_asSet_6 ?_
      refine ww_icmp_ge cx dX4_asSet_9 (tgt := 30) rfl hF (fun hF => ?_) (fun hF => ?_)
      · refine ww_iload_n cx dX4_asSet_30 rfl 1 rfl ?_
        exact ww_rip hE dX4_asSet_31 hF
      · refine ww_iload_n cx dX4_asSet_12 rfl 1 rfl ?_
        refine ww_iconst cx dX4_asSet_13 ic_1 ?_
        refine ww_aload_n cx dX4_asSet_14 rfl 0 rfl ?_
        refine gf_X4_9 cx (hw) dX4_asSet_15 ?_
        refine ww_iload_n cx dX4_asSet_18 rfl 2 rfl ?_
        refine ww_lald (N := 60) cx (ar_X4_3 hw) dX4_asSet_19 hF (fun hF => ?_)
        refine ww_l2i cx dX4_asSet_20 ?_
        refine ww_ishl cx dX4_asSet_21 ?_
        refine ww_ior cx dX4_asSet_22 ?_
        refine ww_istore_n (ks := [0, 1, 2]) (lv' := fun v1 => [(1, .int v1), (0, .ref (gad G w)), (2, .int x2)]) cx dX4_asSet_23 rfl (by decide) hF (fun _ => rfl) (fun v1 hF => ?_)
        refine ww_iinc (j := 2) (ks := [0, 1, 2]) (lv' := fun v2 => [(2, .int v2), (1, .int v1), (0, .ref (gad G w))]) cx dX4_asSet_24 (by decide) rfl ic_1 hF (fun _ => rfl) (fun v2 hF => ?_)
        refine ww_goto cx dX4_asSet_27 (tgt := 4) rfl ?_
        exact ww_sub [2, 1, 0] rfl (hk4 _ _ hF)
  unfold fX4_asSet at hF
  show WW G X 3 σ [(0, .ref (gad G w))] 0 []
  refine ww_iconst cx dX4_asSet_0 ic_0 ?_
  refine ww_istore_n (ks := [0, 1]) (lv' := fun v3 => [(1, .int v3), (0, .ref (gad G w))]) cx dX4_asSet_1 rfl (by decide) hF (fun _ => rfl) (fun v3 hF => ?_)
  refine ww_iconst cx dX4_asSet_2 ic_0 ?_
  refine ww_istore_n (ks := [0, 1, 2]) (lv' := fun v4 => [(2, .int v4), (1, .int v3), (0, .ref (gad G w))]) cx dX4_asSet_3 rfl (by decide) hF (fun _ => rfl) (fun v4 hF => ?_)
  exact ww_sub [2, 1, 0] rfl (hl4 FU _ _ hF)
theorem dX4_begin_0 : decode cX4_begin 0 = .ok (.aload_n 0, 1) := by decide +kernel
theorem dX4_begin_1 : decode cX4_begin 1 = .ok (.iconst 1, 1) := by decide +kernel
theorem dX4_begin_2 : decode cX4_begin 2 = .ok (.putfield 15, 3) := by decide +kernel
theorem dX4_begin_5 : decode cX4_begin 5 = .ok (.aload_n 0, 1) := by decide +kernel
theorem dX4_begin_6 : decode cX4_begin 6 = .ok (.iload_n 1, 1) := by decide +kernel
theorem dX4_begin_7 : decode cX4_begin 7 = .ok (.putfield 19, 3) := by decide +kernel
theorem dX4_begin_10 : decode cX4_begin 10 = .ok (.aload_n 0, 1) := by decide +kernel
theorem dX4_begin_11 : decode cX4_begin 11 = .ok (.iload_n 2, 1) := by decide +kernel
theorem dX4_begin_12 : decode cX4_begin 12 = .ok (.putfield 23, 3) := by decide +kernel
theorem dX4_begin_15 : decode cX4_begin 15 = .ok (.iconst 0, 1) := by decide +kernel
theorem dX4_begin_16 : decode cX4_begin 16 = .ok (.istore_n 3, 1) := by decide +kernel
theorem dX4_begin_17 : decode cX4_begin 17 = .ok (.iload_n 3, 1) := by decide +kernel
theorem dX4_begin_18 : decode cX4_begin 18 = .ok (.bipush 60, 2) := by decide +kernel
theorem dX4_begin_20 : decode cX4_begin 20 = .ok (.if_icmp .ge 16, 3) := by decide +kernel
theorem dX4_begin_23 : decode cX4_begin 23 = .ok (.aload_n 0, 1) := by decide +kernel
theorem dX4_begin_24 : decode cX4_begin 24 = .ok (.getfield 9, 3) := by decide +kernel
theorem dX4_begin_27 : decode cX4_begin 27 = .ok (.iload_n 3, 1) := by decide +kernel
theorem dX4_begin_28 : decode cX4_begin 28 = .ok (.lconst 0, 1) := by decide +kernel
theorem dX4_begin_29 : decode cX4_begin 29 = .ok (.lastore, 1) := by decide +kernel
theorem dX4_begin_30 : decode cX4_begin 30 = .ok (.iinc 3 1, 3) := by decide +kernel
theorem dX4_begin_33 : decode cX4_begin 33 = .ok (.goto (-16), 3) := by decide +kernel
theorem dX4_begin_36 : decode cX4_begin 36 = .ok (.return_, 1) := by decide +kernel
set_option maxRecDepth 4000 in
theorem kX4_begin (G : GT) {σ : St} {w : Nat} {a1 : Int32} {a2 : Int32} (hw : isRow w) : ∀ (σo : St) , fX4_begin σ w a1 a2 = some σo → MCt G 1 yX4_begin cX4_begin 4 (none) [.ref (gad G w), .int a1, .int a2] σ (none) σo := by
  intro σo hF
  refine met_v (by decide) (Nat.le_of_ble_eq_true rfl) (fun X cx hE => ?_)
  have cx : Cx G X RX4 cX4_begin 4 1 := cx
  have hl17 : ∀ n : Nat, ∀ (σ : St) (x3 : Int32) , fX4_begin_l17 w n σ x3 = some σo → WW G X 4 σ [(0, .ref (gad G w)), (3, .int x3)] 17 [] := by
    intro n
    induction n with
    | zero =>
      intro σ x3 hF
      exact absurd hF (by intro z; cases z)
    | succ n ih =>
      intro σ x3 hF
      have hk17 := ih
      have hF : fX4_begin_B17 w (fX4_begin_l17 w n) σ x3 = some σo := hF
      unfold fX4_begin_B17 at hF
      refine ww_iload_n cx dX4_begin_17 rfl 1 rfl ?_
      refine ww_bipush cx dX4_begin_18 bc_60 ?_
      refine ww_icmp_ge cx dX4_begin_20 (tgt := 36) rfl hF (fun hF => ?_) (fun hF => ?_)
      · exact ww_rvs hE dX4_begin_36 hF
      · refine ww_aload_n cx dX4_begin_23 rfl 0 rfl ?_
        refine gf_X4_9 cx (hw) dX4_begin_24 ?_
        refine ww_iload_n cx dX4_begin_27 rfl 1 rfl ?_
        refine ww_lconst cx dX4_begin_28 lc_0 ?_
        refine ww_last (N := 60) cx (ar_X4_3 hw) dX4_begin_29 hF (fun σ1 hF => ?_)
        refine ww_iinc (j := 1) (ks := [0, 1]) (lv' := fun v2 => [(3, .int v2), (0, .ref (gad G w))]) cx dX4_begin_30 (by decide) rfl ic_1 hF (fun _ => rfl) (fun v2 hF => ?_)
        refine ww_goto cx dX4_begin_33 (tgt := 17) rfl ?_
        exact ww_sub [1, 0] rfl (hk17 _ _ hF)
  unfold fX4_begin at hF
  show WW G X 4 σ [(0, .ref (gad G w)), (1, .int a1), (2, .int a2)] 0 []
  refine ww_aload_n cx dX4_begin_0 rfl 0 rfl ?_
  refine ww_iconst cx dX4_begin_1 ic_1 ?_
  refine pf_X4_15 cx (hw) dX4_begin_2 hF (fun σ3 hF => ?_)
  refine ww_aload_n cx dX4_begin_5 rfl 0 rfl ?_
  refine ww_iload_n cx dX4_begin_6 rfl 1 rfl ?_
  refine pf_X4_19 cx (hw) dX4_begin_7 hF (fun σ4 hF => ?_)
  refine ww_aload_n cx dX4_begin_10 rfl 0 rfl ?_
  refine ww_iload_n cx dX4_begin_11 rfl 2 rfl ?_
  refine pf_X4_23 cx (hw) dX4_begin_12 hF (fun σ5 hF => ?_)
  refine ww_iconst cx dX4_begin_15 ic_0 ?_
  refine ww_istore_n (ks := [0, 1]) (lv' := fun v6 => [(3, .int v6), (0, .ref (gad G w))]) cx dX4_begin_16 rfl (by decide) hF (fun _ => rfl) (fun v6 hF => ?_)
  exact ww_sub [1, 0] rfl (hl17 FU _ _ hF)
theorem dX4_cut_0 : decode cX4_cut 0 = .ok (.aload_n 0, 1) := by decide +kernel
theorem dX4_cut_1 : decode cX4_cut 1 = .ok (.getfield 19, 3) := by decide +kernel
theorem dX4_cut_4 : decode cX4_cut 4 = .ok (.tableswitch 42 0 2 #[28, 33, 38], 28) := by decide +kernel
theorem dX4_cut_32 : decode cX4_cut 32 = .ok (.lload_n 1, 1) := by decide +kernel
theorem dX4_cut_33 : decode cX4_cut 33 = .ok (.l2i, 1) := by decide +kernel
theorem dX4_cut_34 : decode cX4_cut 34 = .ok (.i2b, 1) := by decide +kernel
theorem dX4_cut_35 : decode cX4_cut 35 = .ok (.i2l, 1) := by decide +kernel
theorem dX4_cut_36 : decode cX4_cut 36 = .ok (.lreturn, 1) := by decide +kernel
theorem dX4_cut_37 : decode cX4_cut 37 = .ok (.lload_n 1, 1) := by decide +kernel
theorem dX4_cut_38 : decode cX4_cut 38 = .ok (.l2i, 1) := by decide +kernel
theorem dX4_cut_39 : decode cX4_cut 39 = .ok (.i2s, 1) := by decide +kernel
theorem dX4_cut_40 : decode cX4_cut 40 = .ok (.i2l, 1) := by decide +kernel
theorem dX4_cut_41 : decode cX4_cut 41 = .ok (.lreturn, 1) := by decide +kernel
theorem dX4_cut_42 : decode cX4_cut 42 = .ok (.lload_n 1, 1) := by decide +kernel
theorem dX4_cut_43 : decode cX4_cut 43 = .ok (.l2i, 1) := by decide +kernel
theorem dX4_cut_44 : decode cX4_cut 44 = .ok (.i2l, 1) := by decide +kernel
theorem dX4_cut_45 : decode cX4_cut 45 = .ok (.lreturn, 1) := by decide +kernel
theorem dX4_cut_46 : decode cX4_cut 46 = .ok (.lload_n 1, 1) := by decide +kernel
theorem dX4_cut_47 : decode cX4_cut 47 = .ok (.lreturn, 1) := by decide +kernel
set_option maxRecDepth 4000 in
theorem kX4_cut (G : GT) {σ : St} {w : Nat} {a1 : Int64} (hw : isRow w) : ∀ (r : Int64) , fX4_cut σ w a1 = some r → MCt G 1 yX4_cut cX4_cut 3 (some .long) [.ref (gad G w), .long a1] σ (some (.long r)) σ := by
  intro r hF
  refine met_l (by decide) (Nat.le_of_ble_eq_true rfl) (fun X cx hE => ?_)
  have cx : Cx G X RX4 cX4_cut 3 1 := cx
  unfold fX4_cut at hF
  show WW G X 3 σ [(0, .ref (gad G w)), (1, .long a1)] 0 []
  refine ww_aload_n cx dX4_cut_0 rfl 0 rfl ?_
  refine gf_X4_19 cx (hw) dX4_cut_1 ?_
  by_cases e0 : (σ.1 w 1) = 0
  · replace hF := it_t e0 hF
    refine ww_tsIn (v := 0) (tgt := 32) cx dX4_cut_4 e0 (by decide) (by decide) rfl rfl ?_
    refine ww_lload_n cx dX4_cut_32 rfl 1 rfl ?_
    refine ww_l2i cx dX4_cut_33 ?_
    refine ww_i2b cx dX4_cut_34 ?_
    refine ww_i2l cx dX4_cut_35 ?_
    exact ww_rlp hE dX4_cut_36 hF
  replace hF := it_f e0 hF
  by_cases e1 : (σ.1 w 1) = 1
  · replace hF := it_t e1 hF
    refine ww_tsIn (v := 1) (tgt := 37) cx dX4_cut_4 e1 (by decide) (by decide) rfl rfl ?_
    refine ww_lload_n cx dX4_cut_37 rfl 1 rfl ?_
    refine ww_l2i cx dX4_cut_38 ?_
    refine ww_i2s cx dX4_cut_39 ?_
    refine ww_i2l cx dX4_cut_40 ?_
    exact ww_rlp hE dX4_cut_41 hF
  replace hF := it_f e1 hF
  by_cases e2 : (σ.1 w 1) = 2
  · replace hF := it_t e2 hF
    refine ww_tsIn (v := 2) (tgt := 42) cx dX4_cut_4 e2 (by decide) (by decide) rfl rfl ?_
    refine ww_lload_n cx dX4_cut_42 rfl 1 rfl ?_
    refine ww_l2i cx dX4_cut_43 ?_
    refine ww_i2l cx dX4_cut_44 ?_
    exact ww_rlp hE dX4_cut_45 hF
  replace hF := it_f e2 hF
  refine ww_tsOut (tgt := 46) cx dX4_cut_4 (ts_out3 e0 e1 e2) rfl ?_
  refine ww_lload_n cx dX4_cut_46 rfl 1 rfl ?_
  exact ww_rlp hE dX4_cut_47 hF
theorem dX5_isLeast_0 : decode cX5_isLeast 0 = .ok (.iconst 0, 1) := by decide +kernel
theorem dX5_isLeast_1 : decode cX5_isLeast 1 = .ok (.istore_n 3, 1) := by decide +kernel
theorem dX5_isLeast_2 : decode cX5_isLeast 2 = .ok (.iload_n 3, 1) := by decide +kernel
theorem dX5_isLeast_3 : decode cX5_isLeast 3 = .ok (.bipush 12, 2) := by decide +kernel
theorem dX5_isLeast_5 : decode cX5_isLeast 5 = .ok (.if_icmp .ge 52, 3) := by decide +kernel
theorem dX5_isLeast_8 : decode cX5_isLeast 8 = .ok (.iload_n 1, 1) := by decide +kernel
theorem dX5_isLeast_9 : decode cX5_isLeast 9 = .ok (.iload_n 3, 1) := by decide +kernel
theorem dX5_isLeast_10 : decode cX5_isLeast 10 = .ok (.ishr, 1) := by decide +kernel
theorem dX5_isLeast_11 : decode cX5_isLeast 11 = .ok (.iconst 1, 1) := by decide +kernel
theorem dX5_isLeast_12 : decode cX5_isLeast 12 = .ok (.iand, 1) := by decide +kernel
theorem dX5_isLeast_13 : decode cX5_isLeast 13 = .ok (.iconst 1, 1) := by decide +kernel
theorem dX5_isLeast_14 : decode cX5_isLeast 14 = .ok (.if_icmp .ne 7, 3) := by decide +kernel
theorem dX5_isLeast_17 : decode cX5_isLeast 17 = .ok (.iconst 1, 1) := by decide +kernel
theorem dX5_isLeast_18 : decode cX5_isLeast 18 = .ok (.goto 4, 3) := by decide +kernel
theorem dX5_isLeast_21 : decode cX5_isLeast 21 = .ok (.iconst 0, 1) := by decide +kernel
theorem dX5_isLeast_22 : decode cX5_isLeast 22 = .ok (.istore 4, 2) := by decide +kernel
theorem dX5_isLeast_24 : decode cX5_isLeast 24 = .ok (.iload 4, 2) := by decide +kernel
theorem dX5_isLeast_26 : decode cX5_isLeast 26 = .ok (.ifCond .eq 25, 3) := by decide +kernel
theorem dX5_isLeast_29 : decode cX5_isLeast 29 = .ok (.aload_n 0, 1) := by decide +kernel
theorem dX5_isLeast_30 : decode cX5_isLeast 30 = .ok (.getfield 9, 3) := by decide +kernel
theorem dX5_isLeast_33 : decode cX5_isLeast 33 = .ok (.iload_n 1, 1) := by decide +kernel
theorem dX5_isLeast_34 : decode cX5_isLeast 34 = .ok (.iconst 1, 1) := by decide +kernel
theorem dX5_isLeast_35 : decode cX5_isLeast 35 = .ok (.iload_n 3, 1) := by decide +kernel
theorem dX5_isLeast_36 : decode cX5_isLeast 36 = .ok (.ishl, 1) := by decide +kernel
theorem dX5_isLeast_37 : decode cX5_isLeast 37 = .ok (.iconst (-1), 1) := by decide +kernel
theorem dX5_isLeast_38 : decode cX5_isLeast 38 = .ok (.ixor, 1) := by decide +kernel
theorem dX5_isLeast_39 : decode cX5_isLeast 39 = .ok (.iand, 1) := by decide +kernel
theorem dX5_isLeast_40 : decode cX5_isLeast 40 = .ok (.iaload, 1) := by decide +kernel
theorem dX5_isLeast_41 : decode cX5_isLeast 41 = .ok (.iload_n 2, 1) := by decide +kernel
theorem dX5_isLeast_42 : decode cX5_isLeast 42 = .ok (.ishr, 1) := by decide +kernel
theorem dX5_isLeast_43 : decode cX5_isLeast 43 = .ok (.iconst 1, 1) := by decide +kernel
theorem dX5_isLeast_44 : decode cX5_isLeast 44 = .ok (.iand, 1) := by decide +kernel
theorem dX5_isLeast_45 : decode cX5_isLeast 45 = .ok (.iconst 1, 1) := by decide +kernel
theorem dX5_isLeast_46 : decode cX5_isLeast 46 = .ok (.if_icmp .ne 5, 3) := by decide +kernel
theorem dX5_isLeast_49 : decode cX5_isLeast 49 = .ok (.iconst 0, 1) := by decide +kernel
theorem dX5_isLeast_50 : decode cX5_isLeast 50 = .ok (.ireturn, 1) := by decide +kernel
theorem dX5_isLeast_51 : decode cX5_isLeast 51 = .ok (.iinc 3 1, 3) := by decide +kernel
theorem dX5_isLeast_54 : decode cX5_isLeast 54 = .ok (.goto (-52), 3) := by decide +kernel
theorem dX5_isLeast_57 : decode cX5_isLeast 57 = .ok (.iconst 1, 1) := by decide +kernel
theorem dX5_isLeast_58 : decode cX5_isLeast 58 = .ok (.ireturn, 1) := by decide +kernel
set_option maxRecDepth 4000 in
theorem kX5_isLeast (G : GT) {σ : St} {h : Nat} {a1 : Int32} {a2 : Int32} (hh : isShe h) : ∀ (r : Int32) , fX5_isLeast σ h a1 a2 = some r → MCt G 1 yX5_isLeast cX5_isLeast 5 (some .boolean) [.ref (gad G h), .int a1, .int a2] σ (some (.int r)) σ := by
  intro r hF
  refine met_zz (by decide) (Nat.le_of_ble_eq_true rfl) (fun X cx hE => ?_)
  have cx : Cx G X RX5 cX5_isLeast 5 1 := cx
  have hb22 : ∀ (kr2 : Int32 → Int32 → Int32 → Option (Int32)), (∀ (x1 : Int32) (x2 : Int32) (x3 : Int32) , kr2 x1 x2 x3 = some r → WW G X 5 σ [(0, .ref (gad G h)), (1, .int x1), (2, .int x2), (3, .int x3)] 2 []) → ∀ (x1 : Int32) (x2 : Int32) (x3 : Int32) (y0 : Int32) , fX5_isLeast_b22 σ h kr2 x1 x2 x3 y0 = some r → WW G X 5 σ [(0, .ref (gad G h)), (1, .int x1), (2, .int x2), (3, .int x3)] 22 [.int y0] := by
    intro kr2 hk2
    intro x1 x2 x3 y0 hF
    unfold fX5_isLeast_b22 at hF
    refine ww_istore (ks := [0, 1, 2, 3, 4]) (lv' := fun v1 => [(4, .int v1), (0, .ref (gad G h)), (1, .int x1), (2, .int x2), (3, .int x3)]) cx dX5_isLeast_22 (by decide) hF (fun _ => rfl) (fun v1 hF => ?_)
    refine ww_iload cx dX5_isLeast_24 0 rfl ?_
    refine ww_if_eq cx dX5_isLeast_26 (tgt := 51) rfl hF (fun hF => ?_) (fun hF => ?_)
    · refine ww_iinc (j := 4) (ks := [0, 2, 3, 4]) (lv' := fun v2 => [(3, .int v2), (0, .ref (gad G h)), (1, .int x1), (2, .int x2)]) cx dX5_isLeast_51 (by decide) rfl ic_1 hF (fun _ => rfl) (fun v2 hF => ?_)
      refine ww_goto cx dX5_isLeast_54 (tgt := 2) rfl ?_
      exact ww_sub [1, 2, 3, 0] rfl (hk2 _ _ _ hF)
    · refine ww_aload_n cx dX5_isLeast_29 rfl 1 rfl ?_
      refine gf_X5_9 cx (hh) dX5_isLeast_30 ?_
      refine ww_iload_n cx dX5_isLeast_33 rfl 2 rfl ?_
      refine ww_iconst cx dX5_isLeast_34 ic_1 ?_
      refine ww_iload_n cx dX5_isLeast_35 rfl 4 rfl ?_
      refine ww_ishl cx dX5_isLeast_36 ?_
      refine ww_iconst cx dX5_isLeast_37 ic_m1 ?_
      refine ww_ixor cx dX5_isLeast_38 ?_
      refine ww_iand cx dX5_isLeast_39 ?_
      refine ww_iald (N := 4096) cx (ar_X5_0 hh) dX5_isLeast_40 hF (fun hF => ?_)
      refine ww_iload_n cx dX5_isLeast_41 rfl 3 rfl ?_
      refine ww_ishr cx dX5_isLeast_42 ?_
      refine ww_iconst cx dX5_isLeast_43 ic_1 ?_
      refine ww_iand cx dX5_isLeast_44 ?_
      refine ww_iconst cx dX5_isLeast_45 ic_1 ?_
      refine ww_icmp_ne cx dX5_isLeast_46 (tgt := 51) rfl hF (fun hF => ?_) (fun hF => ?_)
      · refine ww_iinc (j := 4) (ks := [0, 2, 3, 4]) (lv' := fun v3 => [(3, .int v3), (0, .ref (gad G h)), (1, .int x1), (2, .int x2)]) cx dX5_isLeast_51 (by decide) rfl ic_1 hF (fun _ => rfl) (fun v3 hF => ?_)
        refine ww_goto cx dX5_isLeast_54 (tgt := 2) rfl ?_
        exact ww_sub [1, 2, 3, 0] rfl (hk2 _ _ _ hF)
      · refine ww_iconst cx dX5_isLeast_49 ic_0 ?_
        exact ww_rzp hE dX5_isLeast_50 hF
  have hl2 : ∀ n : Nat, ∀ (x1 : Int32) (x2 : Int32) (x3 : Int32) , fX5_isLeast_l2 σ h n x1 x2 x3 = some r → WW G X 5 σ [(0, .ref (gad G h)), (1, .int x1), (2, .int x2), (3, .int x3)] 2 [] := by
    intro n
    induction n with
    | zero =>
      intro x1 x2 x3 hF
      exact absurd hF (by intro z; cases z)
    | succ n ih =>
      intro x1 x2 x3 hF
      have hk2 := ih
      have hF : fX5_isLeast_B2 σ h (fX5_isLeast_l2 σ h n) x1 x2 x3 = some r := hF
      unfold fX5_isLeast_B2 at hF
      refine ww_iload_n cx dX5_isLeast_2 rfl 3 rfl ?_
      refine ww_bipush cx dX5_isLeast_3 bc_12 ?_
      refine ww_icmp_ge cx dX5_isLeast_5 (tgt := 57) rfl hF (fun hF => ?_) (fun hF => ?_)
      · refine ww_iconst cx dX5_isLeast_57 ic_1 ?_
        exact ww_rzp hE dX5_isLeast_58 hF
      · refine ww_iload_n cx dX5_isLeast_8 rfl 1 rfl ?_
        refine ww_iload_n cx dX5_isLeast_9 rfl 3 rfl ?_
        refine ww_ishr cx dX5_isLeast_10 ?_
        refine ww_iconst cx dX5_isLeast_11 ic_1 ?_
        refine ww_iand cx dX5_isLeast_12 ?_
        refine ww_iconst cx dX5_isLeast_13 ic_1 ?_
        refine ww_icmp_ne cx dX5_isLeast_14 (tgt := 21) rfl hF (fun hF => ?_) (fun hF => ?_)
        · refine ww_iconst cx dX5_isLeast_21 ic_0 ?_
          exact hb22 _ hk2 _ _ _ _ hF
        · refine ww_iconst cx dX5_isLeast_17 ic_1 ?_
          refine ww_goto cx dX5_isLeast_18 (tgt := 22) rfl ?_
          exact hb22 _ hk2 _ _ _ _ hF
  unfold fX5_isLeast at hF
  show WW G X 5 σ [(0, .ref (gad G h)), (1, .int a1), (2, .int a2)] 0 []
  refine ww_iconst cx dX5_isLeast_0 ic_0 ?_
  refine ww_istore_n (ks := [0, 1, 2, 3]) (lv' := fun v4 => [(3, .int v4), (0, .ref (gad G h)), (1, .int a1), (2, .int a2)]) cx dX5_isLeast_1 rfl (by decide) hF (fun _ => rfl) (fun v4 hF => ?_)
  exact ww_sub [1, 2, 3, 0] rfl (hl2 FU _ _ _ hF)
theorem dX5_subsetBehind_0 : decode cX5_subsetBehind 0 = .ok (.iload_n 0, 1) := by decide +kernel
theorem dX5_subsetBehind_1 : decode cX5_subsetBehind 1 = .ok (.iload_n 1, 1) := by decide +kernel
theorem dX5_subsetBehind_2 : decode cX5_subsetBehind 2 = .ok (.isub, 1) := by decide +kernel
theorem dX5_subsetBehind_3 : decode cX5_subsetBehind 3 = .ok (.iload_n 1, 1) := by decide +kernel
theorem dX5_subsetBehind_4 : decode cX5_subsetBehind 4 = .ok (.iand, 1) := by decide +kernel
theorem dX5_subsetBehind_5 : decode cX5_subsetBehind 5 = .ok (.ireturn, 1) := by decide +kernel
set_option maxRecDepth 4000 in
theorem kX5_subsetBehind (G : GT) {σ : St} {a0 : Int32} {a1 : Int32} : ∀ (r : Int32) , fX5_subsetBehind a0 a1 = some r → MCt G 1 yX5_subsetBehind cX5_subsetBehind 2 (some .int) [.int a0, .int a1] σ (some (.int r)) σ := by
  intro r hF
  refine met_i (by decide) (Nat.le_of_ble_eq_true rfl) (fun X cx hE => ?_)
  have cx : Cx G X RX5 cX5_subsetBehind 2 1 := cx
  unfold fX5_subsetBehind at hF
  show WW G X 2 σ [(0, .int a0), (1, .int a1)] 0 []
  refine ww_iload_n cx dX5_subsetBehind_0 rfl 0 rfl ?_
  refine ww_iload_n cx dX5_subsetBehind_1 rfl 1 rfl ?_
  refine ww_isub cx dX5_subsetBehind_2 ?_
  refine ww_iload_n cx dX5_subsetBehind_3 rfl 1 rfl ?_
  refine ww_iand cx dX5_subsetBehind_4 ?_
  exact ww_rip hE dX5_subsetBehind_5 hF
theorem dX5_withoutLowest_0 : decode cX5_withoutLowest 0 = .ok (.iload_n 0, 1) := by decide +kernel
theorem dX5_withoutLowest_1 : decode cX5_withoutLowest 1 = .ok (.iload_n 0, 1) := by decide +kernel
theorem dX5_withoutLowest_2 : decode cX5_withoutLowest 2 = .ok (.iconst 1, 1) := by decide +kernel
theorem dX5_withoutLowest_3 : decode cX5_withoutLowest 3 = .ok (.isub, 1) := by decide +kernel
theorem dX5_withoutLowest_4 : decode cX5_withoutLowest 4 = .ok (.iand, 1) := by decide +kernel
theorem dX5_withoutLowest_5 : decode cX5_withoutLowest 5 = .ok (.ireturn, 1) := by decide +kernel
set_option maxRecDepth 4000 in
theorem kX5_withoutLowest (G : GT) {σ : St} {a0 : Int32} : ∀ (r : Int32) , fX5_withoutLowest a0 = some r → MCt G 1 yX5_withoutLowest cX5_withoutLowest 1 (some .int) [.int a0] σ (some (.int r)) σ := by
  intro r hF
  refine met_i (by decide) (Nat.le_of_ble_eq_true rfl) (fun X cx hE => ?_)
  have cx : Cx G X RX5 cX5_withoutLowest 1 1 := cx
  unfold fX5_withoutLowest at hF
  show WW G X 1 σ [(0, .int a0)] 0 []
  refine ww_iload_n cx dX5_withoutLowest_0 rfl 0 rfl ?_
  refine ww_iload_n cx dX5_withoutLowest_1 rfl 0 rfl ?_
  refine ww_iconst cx dX5_withoutLowest_2 ic_1 ?_
  refine ww_isub cx dX5_withoutLowest_3 ?_
  refine ww_iand cx dX5_withoutLowest_4 ?_
  exact ww_rip hE dX5_withoutLowest_5 hF
theorem dX6_addStep_0 : decode cX6_addStep 0 = .ok (.aload_n 0, 1) := by decide +kernel
theorem dX6_addStep_1 : decode cX6_addStep 1 = .ok (.getfield 46, 3) := by decide +kernel
theorem dX6_addStep_4 : decode cX6_addStep 4 = .ok (.bipush 12, 2) := by decide +kernel
theorem dX6_addStep_6 : decode cX6_addStep 6 = .ok (.if_icmp .ge 33, 3) := by decide +kernel
theorem dX6_addStep_9 : decode cX6_addStep 9 = .ok (.aload_n 0, 1) := by decide +kernel
theorem dX6_addStep_10 : decode cX6_addStep 10 = .ok (.getfield 18, 3) := by decide +kernel
theorem dX6_addStep_13 : decode cX6_addStep 13 = .ok (.aload_n 0, 1) := by decide +kernel
theorem dX6_addStep_14 : decode cX6_addStep 14 = .ok (.getfield 46, 3) := by decide +kernel
theorem dX6_addStep_17 : decode cX6_addStep 17 = .ok (.iload_n 1, 1) := by decide +kernel
theorem dX6_addStep_18 : decode cX6_addStep 18 = .ok (.iastore, 1) := by decide +kernel
theorem dX6_addStep_19 : decode cX6_addStep 19 = .ok (.aload_n 0, 1) := by decide +kernel
theorem dX6_addStep_20 : decode cX6_addStep 20 = .ok (.getfield 21, 3) := by decide +kernel
theorem dX6_addStep_23 : decode cX6_addStep 23 = .ok (.aload_n 0, 1) := by decide +kernel
theorem dX6_addStep_24 : decode cX6_addStep 24 = .ok (.getfield 46, 3) := by decide +kernel
theorem dX6_addStep_27 : decode cX6_addStep 27 = .ok (.iload_n 2, 1) := by decide +kernel
theorem dX6_addStep_28 : decode cX6_addStep 28 = .ok (.iastore, 1) := by decide +kernel
theorem dX6_addStep_29 : decode cX6_addStep 29 = .ok (.aload_n 0, 1) := by decide +kernel
theorem dX6_addStep_30 : decode cX6_addStep 30 = .ok (.dup, 1) := by decide +kernel
theorem dX6_addStep_31 : decode cX6_addStep 31 = .ok (.getfield 46, 3) := by decide +kernel
theorem dX6_addStep_34 : decode cX6_addStep 34 = .ok (.iconst 1, 1) := by decide +kernel
theorem dX6_addStep_35 : decode cX6_addStep 35 = .ok (.iadd, 1) := by decide +kernel
theorem dX6_addStep_36 : decode cX6_addStep 36 = .ok (.putfield 46, 3) := by decide +kernel
theorem dX6_addStep_39 : decode cX6_addStep 39 = .ok (.return_, 1) := by decide +kernel
set_option maxRecDepth 4000 in
theorem kX6_addStep (G : GT) {σ : St} {t : Nat} {a1 : Int32} {a2 : Int32} (ht : isTab t) : ∀ (σo : St) , fX6_addStep σ t a1 a2 = some σo → MCt G 1 yX6_addStep cX6_addStep 3 (none) [.ref (gad G t), .int a1, .int a2] σ (none) σo := by
  intro σo hF
  refine met_v (by decide) (Nat.le_of_ble_eq_true rfl) (fun X cx hE => ?_)
  have cx : Cx G X RX6 cX6_addStep 3 1 := cx
  unfold fX6_addStep at hF
  show WW G X 3 σ [(0, .ref (gad G t)), (1, .int a1), (2, .int a2)] 0 []
  refine ww_aload_n cx dX6_addStep_0 rfl 0 rfl ?_
  refine gf_X6_46 cx (ht) dX6_addStep_1 ?_
  refine ww_bipush cx dX6_addStep_4 bc_12 ?_
  refine ww_icmp_ge cx dX6_addStep_6 (tgt := 39) rfl hF (fun hF => ?_) (fun hF => ?_)
  · exact ww_rvs hE dX6_addStep_39 hF
  · refine ww_aload_n cx dX6_addStep_9 rfl 0 rfl ?_
    refine gf_X6_18 cx (ht) dX6_addStep_10 ?_
    refine ww_aload_n cx dX6_addStep_13 rfl 0 rfl ?_
    refine gf_X6_46 cx (ht) dX6_addStep_14 ?_
    refine ww_iload_n cx dX6_addStep_17 rfl 1 rfl ?_
    refine ww_iast (N := 12) cx (ar_X6_10 ht) dX6_addStep_18 hF (fun σ1 hF => ?_)
    refine ww_aload_n cx dX6_addStep_19 rfl 0 rfl ?_
    refine gf_X6_21 cx (ht) dX6_addStep_20 ?_
    refine ww_aload_n cx dX6_addStep_23 rfl 0 rfl ?_
    refine gf_X6_46 cx (ht) dX6_addStep_24 ?_
    refine ww_iload_n cx dX6_addStep_27 rfl 2 rfl ?_
    refine ww_iast (N := 12) cx (ar_X6_11 ht) dX6_addStep_28 hF (fun σ2 hF => ?_)
    refine ww_aload_n cx dX6_addStep_29 rfl 0 rfl ?_
    refine ww_dup cx dX6_addStep_30 rfl ?_
    refine gf_X6_46 cx (ht) dX6_addStep_31 ?_
    refine ww_iconst cx dX6_addStep_34 ic_1 ?_
    refine ww_iadd cx dX6_addStep_35 ?_
    refine pf_X6_46 cx (ht) dX6_addStep_36 hF (fun σ3 hF => ?_)
    exact ww_rvs hE dX6_addStep_39 hF
theorem dX6_allSteps_0 : decode cX6_allSteps 0 = .ok (.iconst 1, 1) := by decide +kernel
theorem dX6_allSteps_1 : decode cX6_allSteps 1 = .ok (.aload_n 0, 1) := by decide +kernel
theorem dX6_allSteps_2 : decode cX6_allSteps 2 = .ok (.getfield 46, 3) := by decide +kernel
theorem dX6_allSteps_5 : decode cX6_allSteps 5 = .ok (.ishl, 1) := by decide +kernel
theorem dX6_allSteps_6 : decode cX6_allSteps 6 = .ok (.iconst 1, 1) := by decide +kernel
theorem dX6_allSteps_7 : decode cX6_allSteps 7 = .ok (.isub, 1) := by decide +kernel
theorem dX6_allSteps_8 : decode cX6_allSteps 8 = .ok (.ireturn, 1) := by decide +kernel
set_option maxRecDepth 4000 in
theorem kX6_allSteps (G : GT) {σ : St} {t : Nat} (ht : isTab t) : ∀ (r : Int32) , fX6_allSteps σ t = some r → MCt G 1 yX6_allSteps cX6_allSteps 1 (some .int) [.ref (gad G t)] σ (some (.int r)) σ := by
  intro r hF
  refine met_i (by decide) (Nat.le_of_ble_eq_true rfl) (fun X cx hE => ?_)
  have cx : Cx G X RX6 cX6_allSteps 1 1 := cx
  unfold fX6_allSteps at hF
  show WW G X 1 σ [(0, .ref (gad G t))] 0 []
  refine ww_iconst cx dX6_allSteps_0 ic_1 ?_
  refine ww_aload_n cx dX6_allSteps_1 rfl 0 rfl ?_
  refine gf_X6_46 cx (ht) dX6_allSteps_2 ?_
  refine ww_ishl cx dX6_allSteps_5 ?_
  refine ww_iconst cx dX6_allSteps_6 ic_1 ?_
  refine ww_isub cx dX6_allSteps_7 ?_
  exact ww_rip hE dX6_allSteps_8 hF
theorem dX6_allWorlds_0 : decode cX6_allWorlds 0 = .ok (.iconst 1, 1) := by decide +kernel
theorem dX6_allWorlds_1 : decode cX6_allWorlds 1 = .ok (.iconst 1, 1) := by decide +kernel
theorem dX6_allWorlds_2 : decode cX6_allWorlds 2 = .ok (.aload_n 0, 1) := by decide +kernel
theorem dX6_allWorlds_3 : decode cX6_allWorlds 3 = .ok (.getfield 34, 3) := by decide +kernel
theorem dX6_allWorlds_6 : decode cX6_allWorlds 6 = .ok (.ishl, 1) := by decide +kernel
theorem dX6_allWorlds_7 : decode cX6_allWorlds 7 = .ok (.ishl, 1) := by decide +kernel
theorem dX6_allWorlds_8 : decode cX6_allWorlds 8 = .ok (.iconst 1, 1) := by decide +kernel
theorem dX6_allWorlds_9 : decode cX6_allWorlds 9 = .ok (.isub, 1) := by decide +kernel
theorem dX6_allWorlds_10 : decode cX6_allWorlds 10 = .ok (.ireturn, 1) := by decide +kernel
set_option maxRecDepth 4000 in
theorem kX6_allWorlds (G : GT) {σ : St} {t : Nat} (ht : isTab t) : ∀ (r : Int32) , fX6_allWorlds σ t = some r → MCt G 1 yX6_allWorlds cX6_allWorlds 1 (some .int) [.ref (gad G t)] σ (some (.int r)) σ := by
  intro r hF
  refine met_i (by decide) (Nat.le_of_ble_eq_true rfl) (fun X cx hE => ?_)
  have cx : Cx G X RX6 cX6_allWorlds 1 1 := cx
  unfold fX6_allWorlds at hF
  show WW G X 1 σ [(0, .ref (gad G t))] 0 []
  refine ww_iconst cx dX6_allWorlds_0 ic_1 ?_
  refine ww_iconst cx dX6_allWorlds_1 ic_1 ?_
  refine ww_aload_n cx dX6_allWorlds_2 rfl 0 rfl ?_
  refine gf_X6_34 cx (ht) dX6_allWorlds_3 ?_
  refine ww_ishl cx dX6_allWorlds_6 ?_
  refine ww_ishl cx dX6_allWorlds_7 ?_
  refine ww_iconst cx dX6_allWorlds_8 ic_1 ?_
  refine ww_isub cx dX6_allWorlds_9 ?_
  exact ww_rip hE dX6_allWorlds_10 hF
theorem dX6_canDo_0 : decode cX6_canDo 0 = .ok (.aload_n 0, 1) := by decide +kernel
theorem dX6_canDo_1 : decode cX6_canDo 1 = .ok (.getfield 24, 3) := by decide +kernel
theorem dX6_canDo_4 : decode cX6_canDo 4 = .ok (.iload_n 1, 1) := by decide +kernel
theorem dX6_canDo_5 : decode cX6_canDo 5 = .ok (.iaload, 1) := by decide +kernel
theorem dX6_canDo_6 : decode cX6_canDo 6 = .ok (.ifCond .le 17, 3) := by decide +kernel
theorem dX6_canDo_9 : decode cX6_canDo 9 = .ok (.aload_n 0, 1) := by decide +kernel
theorem dX6_canDo_10 : decode cX6_canDo 10 = .ok (.getfield 37, 3) := by decide +kernel
theorem dX6_canDo_13 : decode cX6_canDo 13 = .ok (.aload_n 0, 1) := by decide +kernel
theorem dX6_canDo_14 : decode cX6_canDo 14 = .ok (.getfield 24, 3) := by decide +kernel
theorem dX6_canDo_17 : decode cX6_canDo 17 = .ok (.iload_n 1, 1) := by decide +kernel
theorem dX6_canDo_18 : decode cX6_canDo 18 = .ok (.iaload, 1) := by decide +kernel
theorem dX6_canDo_19 : decode cX6_canDo 19 = .ok (.idiv, 1) := by decide +kernel
theorem dX6_canDo_20 : decode cX6_canDo 20 = .ok (.goto 4, 3) := by decide +kernel
theorem dX6_canDo_23 : decode cX6_canDo 23 = .ok (.iconst 0, 1) := by decide +kernel
theorem dX6_canDo_24 : decode cX6_canDo 24 = .ok (.ireturn, 1) := by decide +kernel
set_option maxRecDepth 4000 in
theorem kX6_canDo (G : GT) {σ : St} {t : Nat} {a1 : Int32} (ht : isTab t) : ∀ (r : Int32) , fX6_canDo σ t a1 = some r → MCt G 1 yX6_canDo cX6_canDo 2 (some .int) [.ref (gad G t), .int a1] σ (some (.int r)) σ := by
  intro r hF
  refine met_i (by decide) (Nat.le_of_ble_eq_true rfl) (fun X cx hE => ?_)
  have cx : Cx G X RX6 cX6_canDo 2 1 := cx
  unfold fX6_canDo at hF
  show WW G X 2 σ [(0, .ref (gad G t)), (1, .int a1)] 0 []
  refine ww_aload_n cx dX6_canDo_0 rfl 0 rfl ?_
  refine gf_X6_24 cx (ht) dX6_canDo_1 ?_
  refine ww_iload_n cx dX6_canDo_4 rfl 1 rfl ?_
  refine ww_iald (N := 5) cx (ar_X6_12 ht) dX6_canDo_5 hF (fun hF => ?_)
  refine ww_if_le cx dX6_canDo_6 (tgt := 23) rfl hF (fun hF => ?_) (fun hF => ?_)
  · refine ww_iconst cx dX6_canDo_23 ic_0 ?_
    exact ww_rip hE dX6_canDo_24 hF
  · refine ww_aload_n cx dX6_canDo_9 rfl 0 rfl ?_
    refine gf_X6_37 cx (ht) dX6_canDo_10 ?_
    refine ww_aload_n cx dX6_canDo_13 rfl 0 rfl ?_
    refine gf_X6_24 cx (ht) dX6_canDo_14 ?_
    refine ww_iload_n cx dX6_canDo_17 rfl 1 rfl ?_
    refine ww_iald (N := 5) cx (ar_X6_12 ht) dX6_canDo_18 hF (fun hF => ?_)
    refine ww_idiv cx dX6_canDo_19 hF (fun hF => ?_)
    refine ww_goto cx dX6_canDo_20 (tgt := 24) rfl ?_
    exact ww_rip hE dX6_canDo_24 hF
end
